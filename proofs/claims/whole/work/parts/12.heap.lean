/-! THE INSTRUCTIONS THAT READ AND WRITE CELLS -/
section XHEAP
variable {p : Program} {l : Launch} {e : Env} {R : Room} {s : State} {m : MethodId} {args : Array Value} {below : List Frame} {meth : Method} {c : Code} {H : Heap} {locs : List Loc} {cells slots : Nat} {Q : State → Prop}
variable {cc : ByteArray} {nL own : Nat} {ini : Bool} {D : va_G} {z : Nat} {ex : Int → Nat} {aV : Nat → Nat} {cA : Nat → ClassId} {sc : Option (Nat × (Nat → Int))} {HB : Heap}
variable {pc : Nat} {st : List AV} {h : Hp} {ls : Array Slot}
theorem xSame {ref o n d : String} (hts : ∀ w ∈ BW, w.before args s = true) (h : o = ref ∨ Cond.sameField ref o n d ∈ BW) (x : ClassId × Class × Nat × Field) (hx : s.fieldFound? o n d = some x) : s.fieldFound? ref n d = some x := by
  rcases h with h | h
  · rw [← h]; exact hx
  · exact u_same (hts _ h) x hx
theorem xGet {idx k b q : Nat} (C : xCtx p m c s args meth cc nL own ini D z ex aV cA sc) (hdec : decode cc pc = .ok (.getfield idx, 3)) (hl : FlOk own idx k b) (hP : xP D z ex cA HB h H) (hq : q < mN h) (hk : mK h q < 13) (hi : mIsa (mK h q) b = true) (hkl : k < (mFt (mK h q)).length)
    (kk : W p l e R s m args below meth c H locs cells slots Q (F0 m (pc + 3) ls (xV z ex (mTag ((mFt (mK h q)).getD k 0), mC h q k) :: st.map (xV z ex)))) : W p l e R s m args below meth c H locs cells slots Q (F0 m pc ls (.ref (z + q) :: st.map (xV z ex))) := by
  obtain ⟨⟨hx, hb, -, hown, hts⟩, -, hK, -⟩ := C
  obtain ⟨C1, T1, N1, g1, g2, ref, g3, g4⟩ := hl _ hi
  obtain ⟨C2, T2, N2, ty, e1, e2, e3, e4, e5, e6⟩ := xCls _ hk
  cases g1.symm.trans e1
  have hat := hP.1 q hq
  rw [xC_obj hk] at hat
  exact va_get hx hb hts e3 hown hK (va_P1 hat) 0 rfl e1 k g2 (hts _ g3) (xSame hts g4) (xF_at hkl) hdec kk
theorem xFit {t : Nat} {ty : FieldType} {v : AV} (ht : xTyOk t ty) (hv : v.1 = mTag t) (hb : t = 3 → v.2 = 0 ∨ v.2 = 1) : narrow ty (xV z ex v) = xV z ex v ∧ fits ty (xV z ex v) = true := by
  obtain ⟨u, x⟩ := v
  rcases ht with ⟨rfl, rfl⟩ | ⟨rfl, ht⟩ | ⟨rfl, rfl⟩
  · obtain rfl : u = 0 := hv
    exact ⟨rfl, rfl⟩
  · obtain rfl : u = 1 := hv
    rw [xV_ref]
    rcases ht with ⟨n, rfl⟩ | ⟨n, rfl⟩ <;> cases xR z ex x <;> exact ⟨rfl, rfl⟩
  · obtain rfl : u = 0 := hv
    rw [xV_int]
    rcases hb rfl with rfl | rfl <;> exact ⟨rfl, rfl⟩
theorem xPut {idx k b q : Nat} {v : AV} (C : xCtx p m c s args meth cc nL own ini D z ex aV cA sc) (hdec : decode cc pc = .ok (.putfield idx, 3)) (hl : FlOk own idx k b) (hp : FpOk own idx k b ini) (hP : xP D z ex cA HB h H) (hS : va_S (xA z) s.heap H locs) (hq : q < mN h) (hk : mK h q < 13) (hi : mIsa (mK h q) b = true) (hkl : k < (mFt (mK h q)).length)
    (hv : v.1 = mTag ((mFt (mK h q)).getD k 0)) (hvb : (mFt (mK h q)).getD k 0 = 3 → v.2 = 0 ∨ v.2 = 1)
    (kk : ∀ H' locs', xP D z ex cA HB (mPut h q k v.2) H' → va_S (xA z) s.heap H' locs' → W p l e R s m args below meth c H' locs' cells slots Q (F0 m (pc + 3) ls (st.map (xV z ex)))) : W p l e R s m args below meth c H locs cells slots Q (F0 m pc ls (xV z ex v :: .ref (z + q) :: st.map (xV z ex))) := by
  obtain ⟨⟨hx, hb, -, hown, hts⟩, hini, hK, -⟩ := C
  obtain ⟨C1, T1, N1, g1, g2, ref, g3, g4⟩ := hl _ hi
  obtain ⟨C3, T3, N3, j1, j2, j3⟩ := hp _ hi
  obtain ⟨C2, T2, N2, ty, e1, e2, e3, e4, e5, e6⟩ := xCls _ hk
  cases g1.symm.trans e1
  cases j1.symm.trans e1
  have hat := hP.1 q hq
  rw [xC_obj hk] at hat
  have hap := va_apart (own := xCn own) hts e3 ty e4 e5 hK e1
  obtain ⟨hn, hfit⟩ := xFit (z := z) (ex := ex) (e6 k g2) hv hvb
  obtain ⟨r, h1, cell, q1, q2, q3, q4⟩ := hat
  cases h1.symm.trans e1
  obtain ⟨hSl, hfc, kC, hkC, hkind⟩ := hK.1 _ _ e1
  obtain ⟨cf, kf, fi, f, hif, hsl⟩ := hSl k g2
  have hst := (u_facts hfc hkC (u_lays hts e3 g2) hif).1
  have hv' : xV z ex v = xV z ex (mTag ((mFt (mK h q)).getD k 0), v.2) := by rw [← hv]
  have fin : ∀ H' : Heap, H'[z + q]? = some (cell.setSlot f.slot (xV z ex v)) → H'.size = H.size → (∀ y, y ≠ z + q → H'[y]? = H[y]?) → W p l e R s m args below meth c H' (locs ++ [⟨z + q, f.slot⟩]) cells slots Q (F0 m (pc + 3) ls (st.map (xV z ex))) := by
    intro H' k1 k2 k3
    rw [hsl] at k1
    refine kk H' _ (hP.put k2 k3 ?_) (hS.put k2 k3 (by show z ≤ z + q; omega))
    rw [xC_obj (by rw [mK_put]; exact hk), mK_put, xF_put, ← hv']
    exact ⟨_, e1, t_OB.to (V := updV (vp_V (xF z ex h q)) k (xV z ex v)) ⟨_, k1, q2, q3, t_set q4 hap g2 _⟩ (fun j _ => vp_updV_set (by rw [xF_len]; exact hkl) _ j)⟩
  have hlay := hts _ (e3 _ (u_in_lay g2))
  unfold u_lay at hlay
  rcases j3 with j3 | ⟨j3, j4, j5⟩
  · rw [if_neg (by rw [j3]; decide)] at hlay
    have h6 := u_store hfc hkC hkind hlay hif (e4 k g2) hn hfit
    exact W.putK hx hb (f := f) ⟨hown, hts _ g3, ⟨_, _, _, xSame hts g4 _ hif⟩, hst⟩ (by rw [q2]; exact h6) q1 q3 (by rw [hsl]; exact k2_hasslot (q4 k g2)) rfl rfl hdec fin
  · rw [if_pos j4] at hlay
    have hcf : m.cls = cf := by
      obtain ⟨_, _, c', _, _, _, -, -, hf', -, -, -, hown2, -⟩ := Cond.laysFinal_spec hlay
      have e1 : c' = cf := by have := hif.symm.trans hf'; simp at this; exact this.1.symm
      rw [j5] at hown2
      rw [← e1]; exact Option.some.inj (hown.symm.trans hown2)
    have h6 := u_fits hfc hkC hkind (Or.inr hlay) hif (e4 k g2) hn hfit
    exact W.putFinK hx hb hown (hts _ g3) (xSame hts g4 _ hif) hst hcf (hini j3) (by rw [q2]; exact h6) q1 q3 (by rw [hsl]; exact k2_hasslot (q4 k g2)) rfl rfl hdec fin
theorem xC_i {q : Nat} (hk : mK h q = 20) : xC z ex cA h q = .inl (cA 0, mL h q, .inl fun k => Int32.ofInt (mC h q k)) := by unfold xC; rw [if_pos hk]
theorem xC_z {q : Nat} (hk : mK h q = 21) : xC z ex cA h q = .inl (cA 1, mL h q, .inl fun k => Int32.ofInt (mC h q k)) := by unfold xC; rw [if_neg (by omega), if_pos hk]
theorem xC_q {q : Nat} (hk : mK h q = 22) : xC z ex cA h q = .inl (cA 2, mL h q, .inr (.inr (.inr (.inr fun k => xR z ex (mC h q k))))) := by unfold xC; rw [if_neg (by omega), if_neg (by omega), if_pos hk]
theorem xIald {q : Nat} {i : Int} (C : xCtx p m c s args meth cc nL own ini D z ex aV cA sc) (hdec : decode cc pc = .ok (.iaload, 1)) (hP : xP D z ex cA HB h H) (hq : q < mN h) (hk : mK h q = 20) (h0 : 0 ≤ i) (hn : i.toNat < mL h q) (hi : i < 2147483648)
    (kk : W p l e R s m args below meth c H locs cells slots Q (F0 m (pc + 1) ls (.int (Int32.ofInt (mC h q i.toNat)) :: st.map (xV z ex)))) : W p l e R s m args below meth c H locs cells slots Q (F0 m pc ls (.int (Int32.ofInt i) :: .ref (z + q) :: st.map (xV z ex))) := by
  obtain ⟨⟨hx, hb, -, hown, hts⟩, -, hK, -⟩ := C
  have hat := hP.1 q hq
  rw [xC_i hk] at hat
  obtain ⟨v1, v2⟩ := ofInt_in h0 hn hi
  exact va_iald hx hb hK (va_P1 hat) 0 0 rfl rfl v1 hdec (by rw [v2]; exact kk)
theorem xBald {q : Nat} {i : Int} (C : xCtx p m c s args meth cc nL own ini D z ex aV cA sc) (hdec : decode cc pc = .ok (.baload, 1)) (hP : xP D z ex cA HB h H) (hq : q < mN h) (hk : mK h q = 21) (h0 : 0 ≤ i) (hn : i.toNat < mL h q) (hi : i < 2147483648)
    (kk : W p l e R s m args below meth c H locs cells slots Q (F0 m (pc + 1) ls (.int (Int32.ofInt (mC h q i.toNat)) :: st.map (xV z ex)))) : W p l e R s m args below meth c H locs cells slots Q (F0 m pc ls (.int (Int32.ofInt i) :: .ref (z + q) :: st.map (xV z ex))) := by
  obtain ⟨⟨hx, hb, -, hown, hts⟩, -, hK, -⟩ := C
  have hat := hP.1 q hq
  rw [xC_z hk] at hat
  obtain ⟨v1, v2⟩ := ofInt_in h0 hn hi
  exact va_zald hx hb hK (va_P1 hat) 0 1 rfl rfl v1 hdec (by rw [v2]; exact kk)
theorem xAald {q : Nat} {i : Int} (C : xCtx p m c s args meth cc nL own ini D z ex aV cA sc) (hdec : decode cc pc = .ok (.aaload, 1)) (hP : xP D z ex cA HB h H) (hq : q < mN h) (hk : mK h q = 22) (h0 : 0 ≤ i) (hn : i.toNat < mL h q) (hi : i < 2147483648)
    (kk : W p l e R s m args below meth c H locs cells slots Q (F0 m (pc + 1) ls (va_rf (xR z ex (mC h q i.toNat)) :: st.map (xV z ex)))) : W p l e R s m args below meth c H locs cells slots Q (F0 m pc ls (.int (Int32.ofInt i) :: .ref (z + q) :: st.map (xV z ex))) := by
  obtain ⟨⟨hx, hb, -, hown, hts⟩, -, hK, -⟩ := C
  have hat := hP.1 q hq
  rw [xC_q hk] at hat
  obtain ⟨v1, v2⟩ := ofInt_in h0 hn hi
  exact va_aldq hx hb hK (va_P1 hat) 0 2 rfl rfl v1 hdec (by rw [v2]; exact kk)
theorem xUpd (f : Nat → Value) (k : Nat) (x : Value) (g : Nat → Value) (hg : ∀ j, g j = if j = k then x else f j) : updV f k x = g := by
  funext j
  rw [hg]
  rfl
theorem xIast {q : Nat} {i v : Int} (C : xCtx p m c s args meth cc nL own ini D z ex aV cA sc) (hdec : decode cc pc = .ok (.iastore, 1)) (hP : xP D z ex cA HB h H) (hS : va_S (xA z) s.heap H locs) (hq : q < mN h) (hk : mK h q = 20) (h0 : 0 ≤ i) (hn : i.toNat < mL h q) (hi : i < 2147483648)
    (kk : ∀ H' locs', xP D z ex cA HB (mPut h q i.toNat v) H' → va_S (xA z) s.heap H' locs' → W p l e R s m args below meth c H' locs' cells slots Q (F0 m (pc + 1) ls (st.map (xV z ex)))) : W p l e R s m args below meth c H locs cells slots Q (F0 m pc ls (.int (Int32.ofInt v) :: .int (Int32.ofInt i) :: .ref (z + q) :: st.map (xV z ex))) := by
  obtain ⟨⟨hx, hb, -, hown, hts⟩, -, hK, -⟩ := C
  have hat := hP.1 q hq
  rw [xC_i hk] at hat
  obtain ⟨v1, v2⟩ := ofInt_in h0 hn hi
  have hat : H[z + q]? = some (arrV (cA 0) (mL h q) fun k => .int (Int32.ofInt (mC h q k))) := hat
  refine W.iast hx hb hat ((hK.2 0 _ rfl).1 _ _) (fun q => by cases q) (by rw [arrV_size]; exact v1) rfl rfl hdec fun H1 k1 k2 k3 => ?_
  refine kk H1 _ (hP.put k2 k3 ?_) (hS.put k2 k3 (by show z ≤ z + q; omega))
  rw [xC_i (by rw [mK_put]; exact hk)]
  show H1[z + q]? = some (arrV (cA 0) (mL h q) fun k => .int (Int32.ofInt (mC (mPut h q i.toNat v) q k)))
  rw [k1, arrV_store, v2]
  congr 2
  refine xUpd _ _ _ _ fun j => ?_
  rw [mC_put]
  by_cases e : j = i.toNat <;> simp [e]
theorem xBast {q : Nat} {i v : Int} (C : xCtx p m c s args meth cc nL own ini D z ex aV cA sc) (hdec : decode cc pc = .ok (.bastore, 1)) (hP : xP D z ex cA HB h H) (hS : va_S (xA z) s.heap H locs) (hq : q < mN h) (hk : mK h q = 21) (h0 : 0 ≤ i) (hn : i.toNat < mL h q) (hi : i < 2147483648) (hv : v = 0 ∨ v = 1)
    (kk : ∀ H' locs', xP D z ex cA HB (mPut h q i.toNat v) H' → va_S (xA z) s.heap H' locs' → W p l e R s m args below meth c H' locs' cells slots Q (F0 m (pc + 1) ls (st.map (xV z ex)))) : W p l e R s m args below meth c H locs cells slots Q (F0 m pc ls (.int (Int32.ofInt v) :: .int (Int32.ofInt i) :: .ref (z + q) :: st.map (xV z ex))) := by
  obtain ⟨⟨hx, hb, -, hown, hts⟩, -, hK, -⟩ := C
  have hat := hP.1 q hq
  rw [xC_z hk] at hat
  obtain ⟨v1, v2⟩ := ofInt_in h0 hn hi
  have hat : H[z + q]? = some (arrV (cA 1) (mL h q) fun k => .int (Int32.ofInt (mC h q k))) := hat
  have hnar : narrow .boolean (.int (Int32.ofInt v)) = .int (Int32.ofInt v) := by rcases hv with rfl | rfl <;> rfl
  refine W.zast hx hb hat ((hK.2 1 _ rfl).1 _ _) (fun q => by cases q) (by rw [arrV_size]; exact v1) rfl rfl hdec fun H1 k1 k2 k3 => ?_
  refine kk H1 _ (hP.put k2 k3 ?_) (hS.put k2 k3 (by show z ≤ z + q; omega))
  rw [xC_z (by rw [mK_put]; exact hk)]
  show H1[z + q]? = some (arrV (cA 1) (mL h q) fun k => .int (Int32.ofInt (mC (mPut h q i.toNat v) q k)))
  rw [k1, arrV_store, v2, hnar]
  congr 2
  refine xUpd _ _ _ _ fun j => ?_
  rw [mC_put]
  by_cases e : j = i.toNat <;> simp [e]
theorem xAast {q : Nat} {i v : Int} (C : xCtx p m c s args meth cc nL own ini D z ex aV cA sc) (hdec : decode cc pc = .ok (.aastore, 1)) (hP : xP D z ex cA HB h H) (hS : va_S (xA z) s.heap H locs) (hq : q < mN h) (hk : mK h q = 22) (h0 : 0 ≤ i) (hn : i.toNat < mL h q) (hi : i < 2147483648)
    (hv : v = -1 ∨ (0 ≤ v ∧ v.toNat < mN h ∧ mK h v.toNat < 13 ∧ mIsa (mK h v.toNat) 1))
    (kk : ∀ H' locs', xP D z ex cA HB (mPut h q i.toNat v) H' → va_S (xA z) s.heap H' locs' → W p l e R s m args below meth c H' locs' cells slots Q (F0 m (pc + 1) ls (st.map (xV z ex)))) : W p l e R s m args below meth c H locs cells slots Q (F0 m pc ls (va_rf (xR z ex v) :: .int (Int32.ofInt i) :: .ref (z + q) :: st.map (xV z ex))) := by
  obtain ⟨⟨hx, hb, -, hown, hts⟩, -, hK, hN, -⟩ := C
  have hat := hP.1 q hq
  rw [xC_q hk] at hat
  obtain ⟨v1, v2⟩ := ofInt_in h0 hn hi
  have hat : H[z + q]? = some (arrV (cA 2) (mL h q) fun k => va_rf (xR z ex (mC h q k))) := hat
  have fin : ∀ H1 : Heap, H1[z + q]? = some ((arrV (cA 2) (mL h q) fun k => va_rf (xR z ex (mC h q k))).setSlot (Int32.ofInt i).toNatClampNeg (va_rf (xR z ex v))) → H1.size = H.size → (∀ y, y ≠ z + q → H1[y]? = H[y]?) →
      W p l e R s m args below meth c H1 (locs ++ [⟨z + q, (Int32.ofInt i).toNatClampNeg⟩]) cells slots Q (F0 m (pc + 1) ls (st.map (xV z ex))) := by
    intro H1 k1 k2 k3
    refine kk H1 _ (hP.put k2 k3 ?_) (hS.put k2 k3 (by show z ≤ z + q; omega))
    rw [xC_q (by rw [mK_put]; exact hk)]
    show H1[z + q]? = some (arrV (cA 2) (mL h q) fun k => va_rf (xR z ex (mC (mPut h q i.toNat v) q k)))
    rw [k1, arrV_store, v2]
    congr 2
    refine xUpd _ _ _ _ fun j => ?_
    rw [mC_put]
    by_cases e : j = i.toNat <;> simp [e]
  rcases hv with rfl | ⟨w0, w1, w2, w3⟩
  · rw [xR_null] at fin ⊢
    exact va_WaastN (C := "java/lang/Object") hx hb hat ((hK.2 2 _ rfl).1 _ _) (fun q => by cases q) (by rw [arrV_size]; exact v1) rfl rfl hdec fin
  · rw [xR_own w0] at fin ⊢
    have hv2 := hP.1 _ w1
    rw [xC_obj w2] at hv2
    obtain ⟨C2, T2, N2, ty, e1, -⟩ := xCls _ w2
    obtain ⟨r', hr', cellV, g1, g2, g3, -⟩ := hv2
    cases hr'.symm.trans e1
    obtain ⟨kA, comp, k1, k2, k3, -⟩ := (hK.2 2 _ rfl).2
    have hcls := (hK.1 _ _ e1).2
    obtain ⟨hfc, kV, hkV, -⟩ := hcls
    have hcast : va_Nw (.castable C2 "java/lang/Object") s := by
      have hsub := xSub_1 w3
      have hl := hN.2.1
      have hC : (C2, "java/lang/Object") ∈ xCast := by
        rcases hsub with h | h | h | h | h | h | h <;> (rw [h] at e1; cases e1; decide +kernel)
      exact hl _ hC
    obtain ⟨c0, t0, f1, f2, f3⟩ := Cond.castable_spec (va_Nw.use (A := args) rfl hcast)
    cases hfc.symm.trans f1
    cases k3.symm.trans f2
    obtain ⟨kcomp, hkcomp, -⟩ := Vm.findClass_spec k3
    exact W.aast hx hb hat (fun q h => by cases h) (fun h => by cases h) k1 k2 rfl hkcomp ⟨fun q => v1 (Or.inl q), by rw [arrV_size]; exact Nat.not_le.mp fun q => v1 (Or.inr q)⟩ g1 (fun q h => by rw [g3] at h; cases h) (by rw [g2]; exact hkV) (by rw [g2]; exact f3) rfl rfl hdec fin
end XHEAP
