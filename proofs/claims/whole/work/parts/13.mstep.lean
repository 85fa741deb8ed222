/-! NEW CELLS, LENGTHS; then every instruction that is no call and no return -/
section XMSTEP
variable {p : Program} {l : Launch} {e : Env} {R : Room} {s : State} {m : MethodId} {args : Array Value} {below : List Frame} {meth : Method} {c : Code} {H : Heap} {locs : List Loc} {cells slots : Nat} {Q : State → Prop}
variable {cc : ByteArray} {nL own : Nat} {ini : Bool} {D : va_G} {z : Nat} {ex : Int → Nat} {aV : Nat → Nat} {cA : Nat → ClassId} {sc : Option (Nat × (Nat → Int))} {HB : Heap}
variable {pc : Nat} {st : List AV} {h : Hp} {ls : Array Slot}
theorem xNew {idx ci : Nat} (C : xCtx p m c s args meth cc nL own ini D z ex aV cA sc) (hdec : decode cc pc = .ok (.new idx, 3)) (hl : ∃ C T N ty, xClOk ci C T N ty ∧ Cond.classLink (xCn own) idx C ∈ BW ∧ Cond.instantiable C N ∈ BW ∧ Cond.initialized C ∈ BW) (hci : ci < 13) (hP : xP D z ex cA HB h H) (hS : va_S (xA z) s.heap H locs)
    (hr1 : cells + 1 ≤ R.cells) (hr2 : slots + (mFt ci).length ≤ R.slots)
    (kk : ∀ H', xP D z ex cA HB (mNew h ci (mFt ci).length (mDef ci)) H' → va_S (xA z) s.heap H' locs → W p l e R s m args below meth c H' locs (cells + 1) (slots + (mFt ci).length) Q (F0 m (pc + 3) ls (.ref (z + mN h) :: st.map (xV z ex)))) : W p l e R s m args below meth c H locs cells slots Q (F0 m pc ls (st.map (xV z ex))) := by
  obtain ⟨⟨hx, hb, -, hown, hts⟩, -, hK, -⟩ := C
  obtain ⟨C1, T1, N1, ty, ⟨e1, e2, e3, e4, e5, e6⟩, g1, g2, g3⟩ := hl
  subst e2
  have hKn := hK.1 _ _ e1
  refine W.newcK hx hb hown (hts _ g1) (hts _ g2) (hts _ g3) rfl hdec hr1 hr2 hKn.2.1 hP.2.1 fun H1 kC hkC k1 k2 k3 => ?_
  refine kk H1 (hP.new (by rw [k2, hP.2.1]) (fun q hq => k3 q (by rw [← hP.2.1]; exact hq)) ?_) ⟨by rw [k2]; have := hS.1; have := hP.2.1; omega, fun q q1 q2 => ?_, hS.2.2⟩
  · have hk : mK (mNew h ci (mFt ci).length (mDef ci)) (mN h) = ci := by rw [mK_new, if_pos rfl]
    rw [xC_obj (by rw [hk]; exact hci), hk]
    refine ⟨_, e1, (u_born ty hts e3 hKn hkC k1 e4).to fun j hj => ?_⟩
    have hv := xF_at (z := z) (ex := ex) (h := mNew h ci (mFt ci).length (mDef ci)) (a := mN h) (k := j) (by rw [hk]; exact hj)
    rw [hk, mC_new, if_pos rfl] at hv
    have hvp : vp_V (xF z ex (mNew h ci (mFt ci).length (mDef ci)) (mN h)) j = xV z ex (mTag ((mFt ci).getD j 0), mDef ci j) := by
      unfold vp_V
      rw [List.getD_eq_getElem?_getD, hv]
      rfl
    show defaultValue (ty j) = vp_V _ j
    rw [hvp]
    rcases e6 j hj with ⟨t1, t2⟩ | ⟨t1, t2⟩ | ⟨t1, t2⟩
    · rw [t1, t2]; unfold mDef; rw [t1]; rfl
    · rw [t1]; unfold mDef; rw [t1]
      rcases t2 with ⟨n, t2⟩ | ⟨n, t2⟩ <;> rw [t2] <;> rfl
    · rw [t1, t2]; unfold mDef; rw [t1]; rfl
  · rw [k3 q (by have := hS.1; have := hP.2.1; omega)]
    exact hS.2.1 q q1 q2
theorem xNewa {ty : ArrayType} {kd : Nat} {n : Int} (C : xCtx p m c s args meth cc nL own ini D z ex aV cA sc) (hdec : decode cc pc = .ok (.newarray ty, 2)) (hk : (kd = 20 ∧ ty = .int) ∨ (kd = 21 ∧ ty = .boolean)) (h0 : 0 ≤ n) (hn : n < 100000) (hP : xP D z ex cA HB h H) (hS : va_S (xA z) s.heap H locs)
    (hr1 : cells + 1 ≤ R.cells) (hr2 : slots + n.toNat ≤ R.slots)
    (kk : ∀ H', xP D z ex cA HB (mNew h kd n.toNat (fun _ => 0)) H' → va_S (xA z) s.heap H' locs → W p l e R s m args below meth c H' locs (cells + 1) (slots + n.toNat) Q (F0 m (pc + 2) ls (.ref (z + mN h) :: st.map (xV z ex)))) : W p l e R s m args below meth c H locs cells slots Q (F0 m pc ls (.int (Int32.ofInt n) :: st.map (xV z ex))) := by
  obtain ⟨⟨hx, hb, -, hown, hts⟩, -, hK, -⟩ := C
  have hc : (Int32.ofInt n).toNatClampNeg = n.toNat := Int32.toNatClampNeg_ofInt_of_le (by omega) (by omega)
  have hneg : ¬ Int32.ofInt n < 0 := by
    rw [show (0 : Int32) = Int32.ofInt 0 from rfl, ofInt_lt (by omega) (by omega)]
    omega
  have fin : ∀ (cX : ClassId), (∀ a, xC z ex cA (mNew h kd n.toNat (fun _ => 0)) (mN h) = a → ∀ H1 : Heap, H1[z + mN h]? = some (arrV cX n.toNat (fun _ => .int 0)) → va_at D vwCl (z + mN h, a) H1) → ∀ H1 : Heap, H1[z + mN h]? = some (arrV cX n.toNat (fun _ => .int 0)) → H1.size = z + mN h + 1 → (∀ q, q < z + mN h → H1[q]? = H[q]?) →
      W p l e R s m args below meth c H1 locs (cells + 1) (slots + n.toNat) Q (F0 m (pc + 2) ls (.ref (z + mN h) :: st.map (xV z ex))) := by
    intro cX hat H1 k1 k2 k3
    refine kk H1 (hP.new (by rw [k2, hP.2.1]) (fun q hq => k3 q (by rw [← hP.2.1]; exact hq)) (hat _ rfl H1 k1)) ⟨by rw [k2]; have := hS.1; have := hP.2.1; omega, fun q q1 q2 => ?_, hS.2.2⟩
    rw [k3 q (by have := hS.1; have := hP.2.1; omega)]
    exact hS.2.1 q q1 q2
  rcases hk with ⟨rfl, rfl⟩ | ⟨rfl, rfl⟩
  · refine va_newaK (atype := .int) hx hb (hts _ xArr_int) rfl hdec rfl hneg hc (by show n.toNat * 4 ≤ _; omega) hr1 hr2 hP.2.1 fun H1 cX k1 k2 k3 k4 k5 => ?_
    have hcA : cX = cA 0 := Option.some.inj (k5.symm.trans (va_nm_int (hK.2 0 _ rfl).2))
    subst hcA
    refine fin _ ?_ H1 k1 k2 k3
    intro a ha H2 k6
    subst ha
    rw [xC_i (by rw [mK_new, if_pos rfl])]
    show H2[z + mN h]? = some (arrV (cA 0) (mL (mNew h 20 n.toNat (fun _ => 0)) (mN h)) fun k => .int (Int32.ofInt (mC (mNew h 20 n.toNat (fun _ => 0)) (mN h) k)))
    rw [k6, mL_new, if_pos rfl]
    congr 2
    funext k
    rw [mC_new, if_pos rfl]
    rfl
  · refine va_newaK (atype := .boolean) hx hb (hts _ xArr_boolean) rfl hdec rfl hneg hc (by show n.toNat * 1 ≤ _; omega) hr1 hr2 hP.2.1 fun H1 cX k1 k2 k3 k4 k5 => ?_
    have hcA : cX = cA 1 := Option.some.inj (k5.symm.trans (va_nm_boolean (hK.2 1 _ rfl).2))
    subst hcA
    refine fin _ ?_ H1 k1 k2 k3
    intro a ha H2 k6
    subst ha
    rw [xC_z (by rw [mK_new, if_pos rfl])]
    show H2[z + mN h]? = some (arrV (cA 1) (mL (mNew h 21 n.toNat (fun _ => 0)) (mN h)) fun k => .int (Int32.ofInt (mC (mNew h 21 n.toNat (fun _ => 0)) (mN h) k)))
    rw [k6, mL_new, if_pos rfl]
    congr 2
    funext k
    rw [mC_new, if_pos rfl]
    rfl
theorem xNewq {idx : Nat} {n : Int} (C : xCtx p m c s args meth cc nL own ini D z ex aV cA sc) (hdec : decode cc pc = .ok (.anewarray idx, 3)) (hl : Cond.classLink (xCn own) idx "java/lang/Object" ∈ BW) (h0 : 0 ≤ n) (hn : n < 100000) (hP : xP D z ex cA HB h H) (hS : va_S (xA z) s.heap H locs)
    (hr1 : cells + 1 ≤ R.cells) (hr2 : slots + n.toNat ≤ R.slots)
    (kk : ∀ H', xP D z ex cA HB (mNew h 22 n.toNat (fun _ => -1)) H' → va_S (xA z) s.heap H' locs → W p l e R s m args below meth c H' locs (cells + 1) (slots + n.toNat) Q (F0 m (pc + 3) ls (.ref (z + mN h) :: st.map (xV z ex)))) : W p l e R s m args below meth c H locs cells slots Q (F0 m pc ls (.int (Int32.ofInt n) :: st.map (xV z ex))) := by
  obtain ⟨⟨hx, hb, -, hown, hts⟩, -, hK, hN, -⟩ := C
  have hc : (Int32.ofInt n).toNatClampNeg = n.toNat := Int32.toNatClampNeg_ofInt_of_le (by omega) (by omega)
  have hneg : ¬ Int32.ofInt n < 0 := by
    rw [show (0 : Int32) = Int32.ofInt 0 from rfl, ofInt_lt (by omega) (by omega)]
    omega
  refine W.anew hx hb hown (hts _ hl) (va_AO.use hN.2.2.2.2.1) rfl hdec rfl hneg (by rw [hc]; omega) hr1 (by rw [hc]; exact hr2) fun cX kX comp f1 f2 f3 f4 => ?_
  rw [hc, arrV_new]
  have hcA : cX = cA 2 := by
    obtain ⟨kA, comp, k1, k2, k3, k4⟩ := (hK.2 2 _ rfl).2
    exact Option.some.inj (f1.symm.trans k4)
  subst hcA
  have hz := hP.2.1
  have k3 : ∀ q, q < H.size → (H.push (arrV (cA 2) n.toNat (fun _ => .null)))[q]? = H[q]? := fun q hq => by rw [Array.getElem?_push_lt hq, Array.getElem?_eq_getElem hq]
  rw [hz]
  refine kk _ (hP.new (by rw [Array.size_push]) k3 ?_) ⟨by rw [Array.size_push]; have := hS.1; omega, fun q q1 q2 => ?_, hS.2.2⟩
  · rw [xC_q (by rw [mK_new, if_pos rfl])]
    show (H.push _)[z + mN h]? = some (arrV (cA 2) (mL (mNew h 22 n.toNat (fun _ => -1)) (mN h)) fun k => va_rf (xR z ex (mC (mNew h 22 n.toNat (fun _ => -1)) (mN h) k)))
    rw [← hz, Array.getElem?_push_size, mL_new, if_pos rfl]
    congr 2
    funext k
    rw [mC_new, if_pos rfl]
    rfl
  · rw [k3 q (by have := hS.1; omega)]
    exact hS.2.1 q q1 q2
theorem xAlen {q : Nat} (C : xCtx p m c s args meth cc nL own ini D z ex aV cA sc) (hdec : decode cc pc = .ok (.arraylength, 1)) (hP : xP D z ex cA HB h H) (hq : q < mN h) (hk : 20 ≤ mK h q ∧ mK h q < 23)
    (kk : W p l e R s m args below meth c H locs cells slots Q (F0 m (pc + 1) ls (.int (Int32.ofInt (mL h q : Int)) :: st.map (xV z ex)))) : W p l e R s m args below meth c H locs cells slots Q (F0 m pc ls (.ref (z + q) :: st.map (xV z ex))) := by
  obtain ⟨⟨hx, hb, -, hown, hts⟩, -, hK, -⟩ := C
  have hat := hP.1 q hq
  have e : Int32.ofNat (mL h q) = Int32.ofInt (mL h q : Int) := Int32.ofInt_eq_ofNat.symm
  rcases (show mK h q = 20 ∨ mK h q = 21 ∨ mK h q = 22 by omega) with hk | hk | hk
  · rw [xC_i hk] at hat
    exact va_alen hx hb hK (va_P1 hat) 0 0 rfl rfl e hdec kk
  · rw [xC_z hk] at hat
    exact va_alen hx hb hK (va_P1 hat) 0 1 rfl rfl e hdec kk
  · rw [xC_q hk] at hat
    exact va_alen hx hb hK (va_P1 hat) 0 2 rfl rfl e hdec kk
theorem xCast1 {q idx : Nat} (C : xCtx p m c s args meth cc nL own ini D z ex aV cA sc) (hdec : decode cc pc = .ok (.checkcast idx, 3)) (hl : Cond.classLink (xCn own) idx "LaidQuarrel$Bottle" ∈ BW) (hP : xP D z ex cA HB h H) (hq : q < mN h) (hk : mK h q < 13) (hi : mIsa (mK h q) 1 = true)
    (kk : W p l e R s m args below meth c H locs cells slots Q (F0 m (pc + 3) ls (.ref (z + q) :: st.map (xV z ex)))) : W p l e R s m args below meth c H locs cells slots Q (F0 m pc ls (.ref (z + q) :: st.map (xV z ex))) := by
  obtain ⟨⟨hx, hb, -, hown, hts⟩, -, hK, hN, -⟩ := C
  have hat := hP.1 q hq
  rw [xC_obj hk] at hat
  obtain ⟨C2, T2, N2, ty, e1, -⟩ := xCls _ hk
  have hrec := va_recv (q0 := 0) hK (va_P1 hat) e1 rfl
  have hat1 := (hK.1 _ _ e1).2
  by_cases h1 : mK h q = 1
  · rw [h1] at e1
    cases e1
    exact va_castS hx hb hown (hts _ hl) hat1 hrec hdec kk
  · have hcast : va_Nw (.castable C2 "LaidQuarrel$Bottle") s := by
      have hC : (C2, "LaidQuarrel$Bottle") ∈ xCast := by
        rcases xSub_1 hi with h | h | h | h | h | h | h
        · exact absurd h h1
        all_goals (rw [h] at e1; cases e1; decide +kernel)
      exact hN.2.1 _ hC
    exact va_castY hx hb hown (hts _ hl) hcast hrec hdec kk
theorem xSw {l : List (Int × Int)} {x a : Int} (h : ∀ q ∈ l, 0 ≤ q.2) (ha : 0 ≤ a) : 0 ≤ (l.lookup x).getD a := by
  cases e : l.lookup x with
  | none => exact ha
  | some v => exact h _ (lookup_mem e)
theorem xLook {ps : List (Int × Int)} {d x pc : Int} : ((ps.map fun q => (q.1, pc + q.2)).lookup x).getD (pc + d) = pc + Jvm.Op.lookupswitch.offset ps d x := by
  induction ps with
  | nil => rfl
  | cons q ps ih =>
    rw [List.map_cons, List.lookup_cons]
    by_cases e : x = q.1
    · subst e
      simp [Jvm.Op.lookupswitch.offset]
    · have e2 : (x == q.1) = false := by simp [e]
      rw [e2]
      simp only [Bool.false_eq_true, if_false]
      have e3 : ¬ q.1 = x := fun h => e h.symm
      have : Jvm.Op.lookupswitch.offset (q :: ps) d x = Jvm.Op.lookupswitch.offset ps d x := by simp [Jvm.Op.lookupswitch.offset, e3]
      rw [this]
      exact ih
theorem xLkR {lo x : Int} {n : Nat} {f : Nat → Int} (h1 : lo ≤ x) (h2 : (x - lo).toNat < n) : ((List.range n).map fun (j : Nat) => (lo + (j : Int), f j)).lookup x = some (f (x - lo).toNat) := by
  induction n with
  | zero => omega
  | succ n ih =>
    rw [List.range_succ, List.map_append, List.lookup_append]
    by_cases e : (x - lo).toNat < n
    · rw [ih e]
      rfl
    · have e2 : (x - lo).toNat = n := by omega
      have e3 : ((List.range n).map fun (j : Nat) => (lo + (j : Int), f j)).lookup x = none := by
        cases e : ((List.range n).map fun (j : Nat) => (lo + (j : Int), f j)).lookup x with
        | none => rfl
        | some v =>
          obtain ⟨j, hj, e4⟩ := List.mem_map.mp (lookup_mem e)
          have hj := List.mem_range.mp hj
          simp only [Prod.mk.injEq] at e4
          omega
      rw [e3, e2]
      have e4 : x = lo + (n : Int) := by omega
      simp [e4]

theorem xLenOf {i : Instr} {len n : Nat} (h : xLn i = 0 ∨ len = xLn i) (hn : n ≠ 0) (e : xLn i = n) : len = n := by
  rcases h with h | h
  · exact absurd (e.symm.trans h) hn
  · rw [h, e]
theorem ofInt8 {n : Int} (h : -128 ≤ n ∧ n < 128) : (Int8.ofInt n).toInt32 = Int32.ofInt n := by
  rw [← Int32.ofInt_toInt (Int8.ofInt n).toInt32, Int8.toInt_toInt32, Int8.toInt_ofInt_of_le (by omega) (by omega)]
theorem ofInt16 {n : Int} (h : -32768 ≤ n ∧ n < 32768) : (Int16.ofInt n).toInt32 = Int32.ofInt n := by
  rw [← Int32.ofInt_toInt (Int16.ofInt n).toInt32, Int16.toInt_toInt32, Int16.toInt_ofInt_of_le (by omega) (by omega)]
theorem ofInt_ne0 {y : Int} (h : inR y) (h0 : y ≠ 0) : ¬ Int32.ofInt y = 0 := by
  rw [show (0 : Int32) = Int32.ofInt 0 from rfl, ofInt_inj h (by omega)]
  exact h0
theorem ofInt64_inj {x y : Int} (hx : inR64 x) (hy : inR64 y) : Int64.ofInt x = Int64.ofInt y ↔ x = y := by
  constructor
  · intro h
    have h2 := congrArg Int64.toInt h
    rwa [Int64.toInt_ofInt_of_le (by omega) (by omega), Int64.toInt_ofInt_of_le (by omega) (by omega)] at h2
  · intro h
    rw [h]
theorem ofInt64_lt {x y : Int} (hx : inR64 x) (hy : inR64 y) : Int64.ofInt x < Int64.ofInt y ↔ x < y := by
  rw [Int64.lt_iff_toInt_lt, Int64.toInt_ofInt_of_le (by omega) (by omega), Int64.toInt_ofInt_of_le (by omega) (by omega)]
theorem xRneq {z : Nat} {ex : Int → Nat} {x y : Int} (hx : ex (-2) < z) (h1 : x = -2 ∨ x = -1 ∨ 0 ≤ x) (h2 : y = -2 ∨ y = -1 ∨ 0 ≤ y) : xR z ex x = xR z ex y ↔ x = y := by
  constructor
  · intro h
    rcases h1 with rfl | rfl | h1
    · rw [xR_ex (by decide)] at h
      rcases h2 with rfl | rfl | h2
      · rfl
      · rw [xR_null] at h; cases h
      · rw [xR_own h2] at h
        have := Option.some.inj h
        omega
    · rw [xR_null] at h
      rcases h2 with rfl | rfl | h2
      · rw [xR_ex (by decide)] at h; cases h
      · rfl
      · rw [xR_own h2] at h; cases h
    · rw [xR_own h1] at h
      rcases h2 with rfl | rfl | h2
      · rw [xR_ex (by decide)] at h
        have := Option.some.inj h
        omega
      · rw [xR_null] at h; cases h
      · rw [xR_own h2] at h
        have := Option.some.inj h
        omega
  · intro h
    rw [h]
theorem xRnn {z : Nat} {ex : Int → Nat} {x : Int} (h : x ≠ -1) : ∃ y, xR z ex x = some y := by
  unfold xR
  rw [if_neg h]
  exact ⟨_, rfl⟩
set_option maxHeartbeats 4000000 in
/-- every instruction that is no call and no return -/
theorem xStep {i : Instr} {len op pc' : Nat} {a b : Int} {tl : List (Int × Int)} {lv lv' st' : List AV} {h' : Hp} (C : xCtx p m c s args meth cc nL own ini D z ex aV cA sc) (hdec : decode cc pc = .ok (i, len)) (hln : xLn i = 0 ∨ len = xLn i) (hd : xDec own ini pc i = some (op, a, b, tl)) (hs : mStep sc op a b tl (pc + len) lv st h = some (pc', lv', st', h'))
    (hAL : xAL z ex ls nL lv) (hP : xP D z ex cA HB h H) (hS : va_S (xA z) s.heap H locs) (hr1 : cells + (mN h' - mN h) ≤ R.cells) (hr2 : slots + (mS h' - mS h) ≤ R.slots)
    (kk : ∀ H' locs' ls', xP D z ex cA HB h' H' → va_S (xA z) s.heap H' locs' → xAL z ex ls' nL lv' → W p l e R s m args below meth c H' locs' (cells + (mN h' - mN h)) (slots + (mS h' - mS h)) Q (F0 m pc' ls' (st'.map (xV z ex)))) :
    W p l e R s m args below meth c H locs cells slots Q (F0 m pc ls (st.map (xV z ex))) := by
  have kk0 : h' = h → ∀ ls', xAL z ex ls' nL lv' → W p l e R s m args below meth c H locs cells slots Q (F0 m pc' ls' (st'.map (xV z ex))) := by
    intro e1 ls' g
    subst e1
    have := kk H locs ls' hP hS g
    rwa [Nat.sub_self, Nat.sub_self, Nat.add_zero, Nat.add_zero] at this
  have kkp : ∀ (q k : Nat) (x : Int), h' = mPut h q k x → ∀ H' locs', xP D z ex cA HB (mPut h q k x) H' → va_S (xA z) s.heap H' locs' → lv' = lv → W p l e R s m args below meth c H' locs' cells slots Q (F0 m pc' ls (st'.map (xV z ex))) := by
    intro q k x e1 H' locs' g1 g2 e2
    subst e1
    subst e2
    have := kk H' locs' ls g1 g2 hAL
    rwa [mN_put, mS_put, Nat.sub_self, Nat.sub_self, Nat.add_zero, Nat.add_zero] at this
  have kkn : ∀ (kd ln : Nat) (v : Nat → Int), h' = mNew h kd ln v → (cells + 1 ≤ R.cells ∧ slots + ln ≤ R.slots) ∧ ∀ H', xP D z ex cA HB (mNew h kd ln v) H' → va_S (xA z) s.heap H' locs → lv' = lv → W p l e R s m args below meth c H' locs (cells + 1) (slots + ln) Q (F0 m pc' ls (st'.map (xV z ex))) := by
    intro kd ln v e1
    subst e1
    rw [mN_new, Nat.add_sub_cancel_left] at hr1
    rw [mS_new, Nat.add_sub_cancel_left] at hr2
    refine ⟨⟨hr1, hr2⟩, fun H' g1 g2 e2 => ?_⟩
    subst e2
    have := kk H' locs ls g1 g2 hAL
    rwa [mN_new, mS_new, Nat.add_sub_cancel_left, Nat.add_sub_cancel_left] at this
  have C' := C
  obtain ⟨⟨hx, hb, hml, hown, hts⟩, hini, hK, hN, hz, hsc, hx2⟩ := C'
  clear kk
  cases i with
  | iload k =>
    obtain rfl : len = 2 := xLenOf hln (by decide) rfl
    simp only [xDec, Option.some.injEq, Prod.mk.injEq] at hd
    obtain ⟨rfl, rfl, rfl, rfl⟩ := hd
    simp only [mStep] at hs
    rw [Int.toNat_natCast] at hs
    split at hs
    · rename_i v hv
      split at hs
      · rename_i ht
        simp only [Option.some.injEq, Prod.mk.injEq] at hs
        obtain ⟨rfl, rfl, rfl, rfl⟩ := hs
        exact xLd (b := 0) C hdec (k := k) (Or.inl ⟨rfl, rfl, rfl⟩) hAL hv ht (kk0 rfl ls hAL)
      · cases hs
    · cases hs
  | aload k =>
    obtain rfl : len = 2 := xLenOf hln (by decide) rfl
    simp only [xDec, Option.some.injEq, Prod.mk.injEq] at hd
    obtain ⟨rfl, rfl, rfl, rfl⟩ := hd
    simp only [mStep] at hs
    rw [Int.toNat_natCast] at hs
    split at hs
    · rename_i v hv
      split at hs
      · rename_i ht
        simp only [Option.some.injEq, Prod.mk.injEq] at hs
        obtain ⟨rfl, rfl, rfl, rfl⟩ := hs
        exact xLd (b := 0) C hdec (k := k) (Or.inr (Or.inl ⟨rfl, rfl, rfl⟩)) hAL hv ht (kk0 rfl ls hAL)
      · cases hs
    · cases hs
  | lload k =>
    obtain rfl : len = 2 := xLenOf hln (by decide) rfl
    simp only [xDec, Option.some.injEq, Prod.mk.injEq] at hd
    obtain ⟨rfl, rfl, rfl, rfl⟩ := hd
    simp only [mStep] at hs
    rw [Int.toNat_natCast] at hs
    split at hs
    · rename_i v hv
      split at hs
      · rename_i ht
        simp only [Option.some.injEq, Prod.mk.injEq] at hs
        obtain ⟨rfl, rfl, rfl, rfl⟩ := hs
        exact xLd (b := 0) C hdec (k := k) (Or.inr (Or.inr (Or.inl ⟨rfl, rfl, rfl⟩))) hAL hv ht (kk0 rfl ls hAL)
      · cases hs
    · cases hs
  | iload_n k =>
    obtain rfl : len = 1 := xLenOf hln (by decide) rfl
    simp only [xDec, Option.some.injEq, Prod.mk.injEq] at hd
    obtain ⟨rfl, rfl, rfl, rfl⟩ := hd
    simp only [mStep] at hs
    rw [Int.toNat_natCast] at hs
    split at hs
    · rename_i v hv
      split at hs
      · rename_i ht
        simp only [Option.some.injEq, Prod.mk.injEq] at hs
        obtain ⟨rfl, rfl, rfl, rfl⟩ := hs
        exact xLd (b := 0) C hdec (k := (k : Nat)) (Or.inr (Or.inr (Or.inr ⟨k, rfl, rfl, Or.inl ⟨rfl, rfl⟩⟩))) hAL hv ht (kk0 rfl ls hAL)
      · cases hs
    · cases hs
  | aload_n k =>
    obtain rfl : len = 1 := xLenOf hln (by decide) rfl
    simp only [xDec, Option.some.injEq, Prod.mk.injEq] at hd
    obtain ⟨rfl, rfl, rfl, rfl⟩ := hd
    simp only [mStep] at hs
    rw [Int.toNat_natCast] at hs
    split at hs
    · rename_i v hv
      split at hs
      · rename_i ht
        simp only [Option.some.injEq, Prod.mk.injEq] at hs
        obtain ⟨rfl, rfl, rfl, rfl⟩ := hs
        exact xLd (b := 0) C hdec (k := (k : Nat)) (Or.inr (Or.inr (Or.inr ⟨k, rfl, rfl, Or.inr (Or.inl ⟨rfl, rfl⟩)⟩))) hAL hv ht (kk0 rfl ls hAL)
      · cases hs
    · cases hs
  | lload_n k =>
    obtain rfl : len = 1 := xLenOf hln (by decide) rfl
    simp only [xDec, Option.some.injEq, Prod.mk.injEq] at hd
    obtain ⟨rfl, rfl, rfl, rfl⟩ := hd
    simp only [mStep] at hs
    rw [Int.toNat_natCast] at hs
    split at hs
    · rename_i v hv
      split at hs
      · rename_i ht
        simp only [Option.some.injEq, Prod.mk.injEq] at hs
        obtain ⟨rfl, rfl, rfl, rfl⟩ := hs
        exact xLd (b := 0) C hdec (k := (k : Nat)) (Or.inr (Or.inr (Or.inr ⟨k, rfl, rfl, Or.inr (Or.inr ⟨rfl, rfl⟩)⟩))) hAL hv ht (kk0 rfl ls hAL)
      · cases hs
    · cases hs
  | istore k =>
    obtain rfl : len = 2 := xLenOf hln (by decide) rfl
    simp only [xDec, Option.some.injEq, Prod.mk.injEq] at hd
    obtain ⟨rfl, rfl, rfl, rfl⟩ := hd
    simp only [mStep] at hs
    rw [Int.toNat_natCast] at hs
    split at hs
    · rename_i v r
      split at hs
      · rename_i ht
        split at hs
        · rename_i lv2 hm
          simp only [Option.some.injEq, Prod.mk.injEq] at hs
          obtain ⟨rfl, rfl, rfl, rfl⟩ := hs
          exact xSto C hdec (Or.inl ⟨rfl, rfl, rfl⟩) hAL hm ht (kk0 rfl)
        · cases hs
      · cases hs
    · cases hs
  | astore k =>
    obtain rfl : len = 2 := xLenOf hln (by decide) rfl
    simp only [xDec, Option.some.injEq, Prod.mk.injEq] at hd
    obtain ⟨rfl, rfl, rfl, rfl⟩ := hd
    simp only [mStep] at hs
    rw [Int.toNat_natCast] at hs
    split at hs
    · rename_i v r
      split at hs
      · rename_i ht
        split at hs
        · rename_i lv2 hm
          simp only [Option.some.injEq, Prod.mk.injEq] at hs
          obtain ⟨rfl, rfl, rfl, rfl⟩ := hs
          exact xSto C hdec (Or.inr (Or.inl ⟨rfl, rfl, rfl⟩)) hAL hm ht (kk0 rfl)
        · cases hs
      · cases hs
    · cases hs
  | lstore k =>
    obtain rfl : len = 2 := xLenOf hln (by decide) rfl
    simp only [xDec, Option.some.injEq, Prod.mk.injEq] at hd
    obtain ⟨rfl, rfl, rfl, rfl⟩ := hd
    simp only [mStep] at hs
    rw [Int.toNat_natCast] at hs
    split at hs
    · rename_i v r
      split at hs
      · rename_i ht
        split at hs
        · rename_i lv2 hm
          simp only [Option.some.injEq, Prod.mk.injEq] at hs
          obtain ⟨rfl, rfl, rfl, rfl⟩ := hs
          exact xSto C hdec (Or.inr (Or.inr (Or.inl ⟨rfl, rfl, rfl⟩))) hAL hm ht (kk0 rfl)
        · cases hs
      · cases hs
    · cases hs
  | istore_n k =>
    obtain rfl : len = 1 := xLenOf hln (by decide) rfl
    simp only [xDec, Option.some.injEq, Prod.mk.injEq] at hd
    obtain ⟨rfl, rfl, rfl, rfl⟩ := hd
    simp only [mStep] at hs
    rw [Int.toNat_natCast] at hs
    split at hs
    · rename_i v r
      split at hs
      · rename_i ht
        split at hs
        · rename_i lv2 hm
          simp only [Option.some.injEq, Prod.mk.injEq] at hs
          obtain ⟨rfl, rfl, rfl, rfl⟩ := hs
          exact xSto C hdec (Or.inr (Or.inr (Or.inr ⟨k, rfl, rfl, Or.inl ⟨rfl, rfl⟩⟩))) hAL hm ht (kk0 rfl)
        · cases hs
      · cases hs
    · cases hs
  | astore_n k =>
    obtain rfl : len = 1 := xLenOf hln (by decide) rfl
    simp only [xDec, Option.some.injEq, Prod.mk.injEq] at hd
    obtain ⟨rfl, rfl, rfl, rfl⟩ := hd
    simp only [mStep] at hs
    rw [Int.toNat_natCast] at hs
    split at hs
    · rename_i v r
      split at hs
      · rename_i ht
        split at hs
        · rename_i lv2 hm
          simp only [Option.some.injEq, Prod.mk.injEq] at hs
          obtain ⟨rfl, rfl, rfl, rfl⟩ := hs
          exact xSto C hdec (Or.inr (Or.inr (Or.inr ⟨k, rfl, rfl, Or.inr (Or.inl ⟨rfl, rfl⟩)⟩))) hAL hm ht (kk0 rfl)
        · cases hs
      · cases hs
    · cases hs
  | lstore_n k =>
    obtain rfl : len = 1 := xLenOf hln (by decide) rfl
    simp only [xDec, Option.some.injEq, Prod.mk.injEq] at hd
    obtain ⟨rfl, rfl, rfl, rfl⟩ := hd
    simp only [mStep] at hs
    rw [Int.toNat_natCast] at hs
    split at hs
    · rename_i v r
      split at hs
      · rename_i ht
        split at hs
        · rename_i lv2 hm
          simp only [Option.some.injEq, Prod.mk.injEq] at hs
          obtain ⟨rfl, rfl, rfl, rfl⟩ := hs
          exact xSto C hdec (Or.inr (Or.inr (Or.inr ⟨k, rfl, rfl, Or.inr (Or.inr ⟨rfl, rfl⟩)⟩))) hAL hm ht (kk0 rfl)
        · cases hs
      · cases hs
    · cases hs
  | iconst n =>
    obtain rfl : len = 1 := xLenOf hln (by decide) rfl
    simp only [xDec, Option.some.injEq, Prod.mk.injEq] at hd
    obtain ⟨rfl, rfl, rfl, rfl⟩ := hd
    simp only [mStep] at hs
    simp only [Option.some.injEq, Prod.mk.injEq] at hs
    obtain ⟨rfl, rfl, rfl, rfl⟩ := hs
    exact lv_iconst hx hb hdec rfl (kk0 rfl ls hAL)
  | bipush n =>
    obtain rfl : len = 2 := xLenOf hln (by decide) rfl
    simp only [xDec] at hd
    split at hd
    · rename_i hr
      simp only [Option.some.injEq, Prod.mk.injEq] at hd
      obtain ⟨rfl, rfl, rfl, rfl⟩ := hd
      simp only [mStep] at hs
      simp only [Option.some.injEq, Prod.mk.injEq] at hs
      obtain ⟨rfl, rfl, rfl, rfl⟩ := hs
      exact lv_bipush hx hb hdec (ofInt8 hr) (kk0 rfl ls hAL)
    · cases hd
  | sipush n =>
    obtain rfl : len = 3 := xLenOf hln (by decide) rfl
    simp only [xDec] at hd
    split at hd
    · rename_i hr
      simp only [Option.some.injEq, Prod.mk.injEq] at hd
      obtain ⟨rfl, rfl, rfl, rfl⟩ := hd
      simp only [mStep] at hs
      simp only [Option.some.injEq, Prod.mk.injEq] at hs
      obtain ⟨rfl, rfl, rfl, rfl⟩ := hs
      exact lv_sipush hx hb hdec (ofInt16 hr) (kk0 rfl ls hAL)
    · cases hd
  | ldc k =>
    obtain rfl : len = 2 := xLenOf hln (by decide) rfl
    simp only [xDec] at hd
    split at hd
    · rename_i v hv
      simp only [Option.some.injEq, Prod.mk.injEq] at hd
      obtain ⟨rfl, rfl, rfl, rfl⟩ := hd
      simp only [mStep] at hs
      simp only [Option.some.injEq, Prod.mk.injEq] at hs
      obtain ⟨rfl, rfl, rfl, rfl⟩ := hs
      exact lv_ldc hx hb hown (hts _ (xLC_ok _ (lookup_mem hv))) hdec (kk0 rfl ls hAL)
    · split at hd
      · rename_i v hv
        simp only [Option.some.injEq, Prod.mk.injEq] at hd
        obtain ⟨rfl, rfl, rfl, rfl⟩ := hd
        simp only [mStep] at hs
        simp only [Option.some.injEq, Prod.mk.injEq] at hs
        obtain ⟨rfl, rfl, rfl, rfl⟩ := hs
        obtain ⟨q, hq, e1, e2, e3⟩ := xLS_ok _ (lookup_mem hv)
        have hr := hN.2.2.2.2.2.2.2.1 q hq
        have k := kk0 rfl ls hAL
        rw [List.map_cons, xV_ref, xR_ex (by omega)] at k
        rw [e1] at hr
        have e2 : q.2.1 = xCn own := e2
        have e3 : q.2.2.1 = _ := e3
        rw [e2, e3] at hr
        exact va_ldcS hx hb hown hr hdec k
      · cases hd
  | ldc_w k =>
    obtain rfl : len = 3 := xLenOf hln (by decide) rfl
    simp only [xDec] at hd
    split at hd
    · rename_i v hv
      simp only [Option.some.injEq, Prod.mk.injEq] at hd
      obtain ⟨rfl, rfl, rfl, rfl⟩ := hd
      simp only [mStep] at hs
      simp only [Option.some.injEq, Prod.mk.injEq] at hs
      obtain ⟨rfl, rfl, rfl, rfl⟩ := hs
      exact lv_ldcw hx hb hown (hts _ (xLC_ok _ (lookup_mem hv))) hdec (kk0 rfl ls hAL)
    · cases hd
  | ldc2_w k =>
    obtain rfl : len = 3 := xLenOf hln (by decide) rfl
    simp only [xDec] at hd
    split at hd
    · rename_i v hv
      simp only [Option.some.injEq, Prod.mk.injEq] at hd
      obtain ⟨rfl, rfl, rfl, rfl⟩ := hd
      simp only [mStep] at hs
      simp only [Option.some.injEq, Prod.mk.injEq] at hs
      obtain ⟨rfl, rfl, rfl, rfl⟩ := hs
      exact lv_ldc2 hx hb hown (hts _ (xLL_ok _ (lookup_mem hv))) hdec (kk0 rfl ls hAL)
    · cases hd
  | lconst n =>
    obtain rfl : len = 1 := xLenOf hln (by decide) rfl
    simp only [xDec, Option.some.injEq, Prod.mk.injEq] at hd
    obtain ⟨rfl, rfl, rfl, rfl⟩ := hd
    simp only [mStep] at hs
    simp only [Option.some.injEq, Prod.mk.injEq] at hs
    obtain ⟨rfl, rfl, rfl, rfl⟩ := hs
    exact lv_lconst hx hb hdec (by match n with | 0 => rfl | 1 => rfl) (kk0 rfl ls hAL)
  | iinc k n =>
    obtain rfl : len = 3 := xLenOf hln (by decide) rfl
    simp only [xDec, Option.some.injEq, Prod.mk.injEq] at hd
    obtain ⟨rfl, rfl, rfl, rfl⟩ := hd
    simp only [mStep] at hs
    rw [Int.toNat_natCast] at hs
    split at hs
    · rename_i x hv
      split at hs
      · rename_i lv2 hm
        simp only [Option.some.injEq, Prod.mk.injEq] at hs
        obtain ⟨rfl, rfl, rfl, rfl⟩ := hs
        have hk := (mSet_spec hm).1
        obtain ⟨j, hj⟩ : ∃ j, (xLs z ex lv)[j]? = some (k, Value.int (Int32.ofInt x)) := List.getElem?_of_mem (xLs_mem.mpr ⟨(0, x), hv, (by decide : (0 : Nat) ≠ 9), rfl⟩)
        exact lv_iinc hx hb hdec hAL.1 hj (Int32.ofInt_add x n).symm (by rw [← hAL.2]; exact hk) rfl (fun ls' g => kk0 rfl ls' (xAL.set1 (v := (0, x + n)) hAL.2 hm (by decide : (0 : Nat) ≠ 2) g))
      · cases hs
    · cases hs
  | iadd =>
    obtain rfl : len = 1 := xLenOf hln (by decide) rfl
    simp only [xDec, Option.some.injEq, Prod.mk.injEq] at hd
    obtain ⟨rfl, rfl, rfl, rfl⟩ := hd
    simp only [mStep] at hs
    split at hs
    · rename_i y x r
      have k := kk0
      simp only [mBin] at hs
      simp at hs
      obtain ⟨rfl, rfl, rfl, rfl⟩ := hs
      have k := kk0 rfl ls hAL
      rw [List.map_cons, xV_int, Int32.ofInt_add] at k
      exact lv_iadd hx hb hdec k
    · cases hs
  | isub =>
    obtain rfl : len = 1 := xLenOf hln (by decide) rfl
    simp only [xDec, Option.some.injEq, Prod.mk.injEq] at hd
    obtain ⟨rfl, rfl, rfl, rfl⟩ := hd
    simp only [mStep] at hs
    split at hs
    · rename_i y x r
      have k := kk0
      simp only [mBin] at hs
      simp at hs
      obtain ⟨rfl, rfl, rfl, rfl⟩ := hs
      have k := kk0 rfl ls hAL
      rw [List.map_cons, xV_int, Int32.ofInt_sub] at k
      exact lv_isub hx hb hdec k
    · cases hs
  | imul =>
    obtain rfl : len = 1 := xLenOf hln (by decide) rfl
    simp only [xDec, Option.some.injEq, Prod.mk.injEq] at hd
    obtain ⟨rfl, rfl, rfl, rfl⟩ := hd
    simp only [mStep] at hs
    split at hs
    · rename_i y x r
      have k := kk0
      simp only [mBin] at hs
      simp at hs
      obtain ⟨rfl, rfl, rfl, rfl⟩ := hs
      have k := kk0 rfl ls hAL
      rw [List.map_cons, xV_int, Int32.ofInt_mul] at k
      exact lv_imul hx hb hdec k
    · cases hs
  | iand =>
    obtain rfl : len = 1 := xLenOf hln (by decide) rfl
    simp only [xDec, Option.some.injEq, Prod.mk.injEq] at hd
    obtain ⟨rfl, rfl, rfl, rfl⟩ := hd
    simp only [mStep] at hs
    split at hs
    · rename_i y x r
      simp [mBin, mBit] at hs
      obtain ⟨rfl, rfl, rfl, rfl⟩ := hs
      have k := kk0 rfl ls hAL
      rw [List.map_cons, xV_int, Int32.ofInt_toInt] at k
      exact lv_iand hx hb hdec k
    · cases hs
  | ior =>
    obtain rfl : len = 1 := xLenOf hln (by decide) rfl
    simp only [xDec, Option.some.injEq, Prod.mk.injEq] at hd
    obtain ⟨rfl, rfl, rfl, rfl⟩ := hd
    simp only [mStep] at hs
    split at hs
    · rename_i y x r
      simp [mBin, mBit] at hs
      obtain ⟨rfl, rfl, rfl, rfl⟩ := hs
      have k := kk0 rfl ls hAL
      rw [List.map_cons, xV_int, Int32.ofInt_toInt] at k
      exact lv_ior hx hb hdec k
    · cases hs
  | ixor =>
    obtain rfl : len = 1 := xLenOf hln (by decide) rfl
    simp only [xDec, Option.some.injEq, Prod.mk.injEq] at hd
    obtain ⟨rfl, rfl, rfl, rfl⟩ := hd
    simp only [mStep] at hs
    split at hs
    · rename_i y x r
      simp [mBin, mBit] at hs
      obtain ⟨rfl, rfl, rfl, rfl⟩ := hs
      have k := kk0 rfl ls hAL
      rw [List.map_cons, xV_int, Int32.ofInt_toInt] at k
      exact lv_ixor hx hb hdec k
    · cases hs
  | ishl =>
    obtain rfl : len = 1 := xLenOf hln (by decide) rfl
    simp only [xDec, Option.some.injEq, Prod.mk.injEq] at hd
    obtain ⟨rfl, rfl, rfl, rfl⟩ := hd
    simp only [mStep] at hs
    split at hs
    · rename_i y x r
      simp [mBin, mBit] at hs
      obtain ⟨rfl, rfl, rfl, rfl⟩ := hs
      have k := kk0 rfl ls hAL
      rw [List.map_cons, xV_int, Int32.ofInt_toInt] at k
      exact lv_ishl hx hb hdec k
    · cases hs
  | ishr =>
    obtain rfl : len = 1 := xLenOf hln (by decide) rfl
    simp only [xDec, Option.some.injEq, Prod.mk.injEq] at hd
    obtain ⟨rfl, rfl, rfl, rfl⟩ := hd
    simp only [mStep] at hs
    split at hs
    · rename_i y x r
      simp [mBin, mBit] at hs
      obtain ⟨rfl, rfl, rfl, rfl⟩ := hs
      have k := kk0 rfl ls hAL
      rw [List.map_cons, xV_int, Int32.ofInt_toInt] at k
      exact lv_ishr hx hb hdec k
    · cases hs
  | iushr =>
    obtain rfl : len = 1 := xLenOf hln (by decide) rfl
    simp only [xDec, Option.some.injEq, Prod.mk.injEq] at hd
    obtain ⟨rfl, rfl, rfl, rfl⟩ := hd
    simp only [mStep] at hs
    split at hs
    · rename_i y x r
      simp [mBin, mBit] at hs
      obtain ⟨rfl, rfl, rfl, rfl⟩ := hs
      have k := kk0 rfl ls hAL
      rw [List.map_cons, xV_int, Int32.ofInt_toInt] at k
      exact lv_iushr hx hb hdec rfl k
    · cases hs
  | idiv =>
    obtain rfl : len = 1 := xLenOf hln (by decide) rfl
    simp only [xDec, Option.some.injEq, Prod.mk.injEq] at hd
    obtain ⟨rfl, rfl, rfl, rfl⟩ := hd
    simp only [mStep] at hs
    split at hs
    · rename_i y x r
      by_cases hc : (inR x ∧ inR y) ∧ y ≠ 0
      · have e : mBin ((3 : Int).toNat) x y = some ((Int32.ofInt x / Int32.ofInt y).toInt) := by
          show mBin 3 x y = _
          unfold mBin
          rw [if_neg (by decide), if_neg (by decide), if_neg (by decide), if_pos rfl, if_pos hc]
        rw [e] at hs
        simp only [Option.some.injEq, Prod.mk.injEq] at hs
        obtain ⟨rfl, rfl, rfl, rfl⟩ := hs
        have k := kk0 rfl ls hAL
        rw [List.map_cons, xV_int, Int32.ofInt_toInt] at k
        exact lv_idiv hx hb hdec (ofInt_ne0 hc.1.2 hc.2) k
      · have e : mBin ((3 : Int).toNat) x y = none := by
          show mBin 3 x y = _
          unfold mBin
          rw [if_neg (by decide), if_neg (by decide), if_neg (by decide), if_pos rfl, if_neg hc]
        rw [e] at hs
        cases hs
    · cases hs
  | irem =>
    obtain rfl : len = 1 := xLenOf hln (by decide) rfl
    simp only [xDec, Option.some.injEq, Prod.mk.injEq] at hd
    obtain ⟨rfl, rfl, rfl, rfl⟩ := hd
    simp only [mStep] at hs
    split at hs
    · rename_i y x r
      by_cases hc : (inR x ∧ inR y) ∧ y ≠ 0
      · have e : mBin ((4 : Int).toNat) x y = some ((Int32.ofInt x - Int32.ofInt x / Int32.ofInt y * Int32.ofInt y).toInt) := by
          show mBin 4 x y = _
          unfold mBin
          rw [if_neg (by decide), if_neg (by decide), if_neg (by decide), if_neg (by decide), if_pos rfl, if_pos hc]
        rw [e] at hs
        simp only [Option.some.injEq, Prod.mk.injEq] at hs
        obtain ⟨rfl, rfl, rfl, rfl⟩ := hs
        have k := kk0 rfl ls hAL
        rw [List.map_cons, xV_int, Int32.ofInt_toInt] at k
        exact lv_irem hx hb hdec (ofInt_ne0 hc.1.2 hc.2) k
      · have e : mBin ((4 : Int).toNat) x y = none := by
          show mBin 4 x y = _
          unfold mBin
          rw [if_neg (by decide), if_neg (by decide), if_neg (by decide), if_neg (by decide), if_pos rfl, if_neg hc]
        rw [e] at hs
        cases hs
    · cases hs
  | ineg =>
    obtain rfl : len = 1 := xLenOf hln (by decide) rfl
    simp only [xDec, Option.some.injEq, Prod.mk.injEq] at hd
    obtain ⟨rfl, rfl, rfl, rfl⟩ := hd
    simp only [mStep] at hs
    split at hs
    · rename_i x r
      simp only [Option.some.injEq, Prod.mk.injEq] at hs
      obtain ⟨rfl, rfl, rfl, rfl⟩ := hs
      have k := kk0 rfl ls hAL
      rw [List.map_cons, xV_int, Int32.ofInt_neg] at k
      exact lv_ineg hx hb hdec k
    · cases hs
  | ifCond cd off =>
    obtain rfl : len = 3 := xLenOf hln (by decide) rfl
    simp only [xDec] at hd
    split at hd
    rotate_left
    · cases hd
    rename_i ho
    simp only [Option.some.injEq, Prod.mk.injEq] at hd
    obtain ⟨rfl, rfl, rfl, rfl⟩ := hd
    simp only [mStep] at hs
    rw [Int.toNat_natCast] at hs
    split at hs
    · rename_i x r
      split at hs
      · rename_i hc
        simp only [Option.some.injEq, Prod.mk.injEq] at hs
        obtain ⟨rfl, rfl, rfl, rfl⟩ := hs
        exact xIf0 C hdec ho hc (kk0 rfl ls hAL)
      · cases hs
    · cases hs
  | if_icmp cd off =>
    obtain rfl : len = 3 := xLenOf hln (by decide) rfl
    simp only [xDec] at hd
    split at hd
    rotate_left
    · cases hd
    rename_i ho
    simp only [Option.some.injEq, Prod.mk.injEq] at hd
    obtain ⟨rfl, rfl, rfl, rfl⟩ := hd
    simp only [mStep] at hs
    rw [Int.toNat_natCast] at hs
    split at hs
    · rename_i y x r
      split at hs
      · rename_i hc
        simp only [Option.some.injEq, Prod.mk.injEq] at hs
        obtain ⟨rfl, rfl, rfl, rfl⟩ := hs
        exact xIcmp C hdec ho hc (kk0 rfl ls hAL)
      · cases hs
    · cases hs
  | ifnull off =>
    obtain rfl : len = 3 := xLenOf hln (by decide) rfl
    simp only [xDec] at hd
    split at hd
    rotate_left
    · cases hd
    rename_i ho
    simp only [Option.some.injEq, Prod.mk.injEq] at hd
    obtain ⟨rfl, rfl, rfl, rfl⟩ := hd
    simp only [mStep] at hs
    split at hs
    · rename_i x r
      simp only [Option.some.injEq, Prod.mk.injEq] at hs
      obtain ⟨rfl, rfl, rfl, rfl⟩ := hs
      have k := kk0 rfl ls hAL
      rw [List.map_cons, xV_ref]
      by_cases e : x = -1
      · subst e
        rw [xR_null]
        simp at k
        exact lv_ifnullN hx hb hdec (xTgt ho) k
      · obtain ⟨y, hy⟩ := xRnn (z := z) (ex := ex) e
        rw [hy]
        simp [e] at k
        exact lv_ifnull hx hb hdec k
    · cases hs
  | ifnonnull off =>
    obtain rfl : len = 3 := xLenOf hln (by decide) rfl
    simp only [xDec] at hd
    split at hd
    rotate_left
    · cases hd
    rename_i ho
    simp only [Option.some.injEq, Prod.mk.injEq] at hd
    obtain ⟨rfl, rfl, rfl, rfl⟩ := hd
    simp only [mStep] at hs
    split at hs
    · rename_i x r
      simp only [Option.some.injEq, Prod.mk.injEq] at hs
      obtain ⟨rfl, rfl, rfl, rfl⟩ := hs
      have k := kk0 rfl ls hAL
      rw [List.map_cons, xV_ref]
      by_cases e : x = -1
      · subst e
        rw [xR_null]
        simp at k
        exact lv_ifnonnullN hx hb hdec k
      · obtain ⟨y, hy⟩ := xRnn (z := z) (ex := ex) e
        rw [hy]
        simp [e] at k
        exact lv_ifnonnull hx hb hdec (xTgt ho) k
    · cases hs
  | if_acmp cd off =>
    obtain rfl : len = 3 := xLenOf hln (by decide) rfl
    cases cd with
    | eq =>
      simp only [xDec] at hd
      split at hd
      rotate_left
      · cases hd
      rename_i ho
      simp only [Option.some.injEq, Prod.mk.injEq] at hd
      obtain ⟨rfl, rfl, rfl, rfl⟩ := hd
      simp only [mStep] at hs
      split at hs
      · rename_i y x r
        split at hs
        · rename_i hc
          simp only [Option.some.injEq, Prod.mk.injEq] at hs
          obtain ⟨rfl, rfl, rfl, rfl⟩ := hs
          have k := kk0 rfl ls hAL
          have hq := xRneq (ex := ex) hx2 hc.1 hc.2
          rw [List.map_cons, List.map_cons, xV_ref, xV_ref]
          refine lv_acmp_eq hx hb hdec (xTgt ho) (fun g => ?_) (fun g => ?_)
          · rw [hq] at g
            simp [g] at k
            exact k
          · rw [hq] at g
            simp [g] at k
            exact k
        · cases hs
      · cases hs
    | ne =>
      simp only [xDec] at hd
      split at hd
      rotate_left
      · cases hd
      rename_i ho
      simp only [Option.some.injEq, Prod.mk.injEq] at hd
      obtain ⟨rfl, rfl, rfl, rfl⟩ := hd
      simp only [mStep] at hs
      split at hs
      · rename_i y x r
        split at hs
        · rename_i hc
          simp only [Option.some.injEq, Prod.mk.injEq] at hs
          obtain ⟨rfl, rfl, rfl, rfl⟩ := hs
          have k := kk0 rfl ls hAL
          have hq := xRneq (ex := ex) hx2 hc.1 hc.2
          rw [List.map_cons, List.map_cons, xV_ref, xV_ref]
          refine lv_acmp_ne hx hb hdec (xTgt ho) (fun g => ?_) (fun g => ?_)
          · rw [hq] at g
            simp [g] at k
            exact k
          · rw [hq] at g
            simp [g] at k
            exact k
        · cases hs
      · cases hs
  | goto off =>
    obtain rfl : len = 3 := xLenOf hln (by decide) rfl
    simp only [xDec] at hd
    split at hd
    rotate_left
    · cases hd
    rename_i ho
    simp only [Option.some.injEq, Prod.mk.injEq] at hd
    obtain ⟨rfl, rfl, rfl, rfl⟩ := hd
    simp only [mStep] at hs
    simp only [Option.some.injEq, Prod.mk.injEq] at hs
    obtain ⟨rfl, rfl, rfl, rfl⟩ := hs
    exact lv_goto hx hb hdec (xTgt ho) (kk0 rfl ls hAL)
  | dup =>
    obtain rfl : len = 1 := xLenOf hln (by decide) rfl
    simp only [xDec, Option.some.injEq, Prod.mk.injEq] at hd
    obtain ⟨rfl, rfl, rfl, rfl⟩ := hd
    simp only [mStep] at hs
    split at hs
    · rename_i v r
      split at hs
      · rename_i hv
        simp only [Option.some.injEq, Prod.mk.injEq] at hs
        obtain ⟨rfl, rfl, rfl, rfl⟩ := hs
        exact lv_dup hx hb hdec (xV_cat (by omega)) (kk0 rfl ls hAL)
      · cases hs
    · cases hs
  | pop =>
    obtain rfl : len = 1 := xLenOf hln (by decide) rfl
    simp only [xDec, Option.some.injEq, Prod.mk.injEq] at hd
    obtain ⟨rfl, rfl, rfl, rfl⟩ := hd
    simp only [mStep] at hs
    split at hs
    · rename_i v r
      split at hs
      · rename_i hv
        simp only [Option.some.injEq, Prod.mk.injEq] at hs
        obtain ⟨rfl, rfl, rfl, rfl⟩ := hs
        exact lv_pop hx hb hdec (xV_cat (by omega)) (kk0 rfl ls hAL)
      · cases hs
    · cases hs
  | dup_x1 =>
    obtain rfl : len = 1 := xLenOf hln (by decide) rfl
    simp only [xDec, Option.some.injEq, Prod.mk.injEq] at hd
    obtain ⟨rfl, rfl, rfl, rfl⟩ := hd
    simp only [mStep] at hs
    split at hs
    · rename_i v w r
      split at hs
      · rename_i hv
        simp only [Option.some.injEq, Prod.mk.injEq] at hs
        obtain ⟨rfl, rfl, rfl, rfl⟩ := hs
        exact lv_dup_x1 hx hb hdec (xV_cat (by omega)) (xV_cat (by omega)) (kk0 rfl ls hAL)
      · cases hs
    · cases hs
  | dup2 =>
    obtain rfl : len = 1 := xLenOf hln (by decide) rfl
    simp only [xDec, Option.some.injEq, Prod.mk.injEq] at hd
    obtain ⟨rfl, rfl, rfl, rfl⟩ := hd
    simp only [mStep] at hs
    split at hs
    · rename_i v w r
      split at hs
      · rename_i hv
        simp only [Option.some.injEq, Prod.mk.injEq] at hs
        obtain ⟨rfl, rfl, rfl, rfl⟩ := hs
        exact lv_dup2_11 hx hb hdec (xV_cat (by omega)) (xV_cat (by omega)) (kk0 rfl ls hAL)
      · cases hs
    · cases hs
  | aconst_null =>
    obtain rfl : len = 1 := xLenOf hln (by decide) rfl
    simp only [xDec, Option.some.injEq, Prod.mk.injEq] at hd
    obtain ⟨rfl, rfl, rfl, rfl⟩ := hd
    simp only [mStep] at hs
    simp only [Option.some.injEq, Prod.mk.injEq] at hs
    obtain ⟨rfl, rfl, rfl, rfl⟩ := hs
    exact lv_null hx hb hdec (kk0 rfl ls hAL)
  | getfield k =>
    obtain rfl : len = 3 := xLenOf hln (by decide) rfl
    simp only [xDec] at hd
    split at hd
    rotate_left
    · cases hd
    rename_i v hv
    simp only [Option.some.injEq, Prod.mk.injEq] at hd
    obtain ⟨rfl, rfl, rfl, rfl⟩ := hd
    simp only [mStep] at hs
    try simp only [Int.toNat_natCast] at hs
    split at hs
    · rename_i x r
      split at hs
      · rename_i q hq
        split at hs
        · rename_i hc
          simp only [Option.some.injEq, Prod.mk.injEq] at hs
          obtain ⟨rfl, rfl, rfl, rfl⟩ := hs
          rw [List.map_cons, xV_ref, xR_ad hq]
          obtain ⟨-, -, hqn⟩ := mAd_spec hq
          exact xGet C hdec (xLF_ok _ (lookup_mem hv)) hP hqn hc.1 hc.2.1 hc.2.2 (kk0 rfl ls hAL)
        · cases hs
      · cases hs
    · cases hs
  | putfield k =>
    obtain rfl : len = 3 := xLenOf hln (by decide) rfl
    simp only [xDec] at hd
    split at hd
    rotate_left
    · cases hd
    rename_i v hv
    simp only [Option.some.injEq, Prod.mk.injEq] at hd
    obtain ⟨rfl, rfl, rfl, rfl⟩ := hd
    simp only [mStep] at hs
    try simp only [Int.toNat_natCast] at hs
    split at hs
    · rename_i w x r
      split at hs
      · rename_i q hq
        split at hs
        · rename_i hc
          simp only [Option.some.injEq, Prod.mk.injEq] at hs
          obtain ⟨rfl, rfl, rfl, rfl⟩ := hs
          rw [List.map_cons, List.map_cons, xV_ref, xR_ad hq]
          obtain ⟨-, -, hqn⟩ := mAd_spec hq
          have hl : FlOk own k v.1 v.2 ∧ FpOk own k v.1 v.2 ini := by
            cases ini with
            | true => exact xLP1_ok _ (lookup_mem hv)
            | false => exact xLP0_ok _ (lookup_mem hv)
          exact xPut C hdec hl.1 hl.2 hP hS hqn hc.1 hc.2.1 hc.2.2.1 hc.2.2.2.1 hc.2.2.2.2 (fun H' locs' g1 g2 => kkp _ _ _ rfl H' locs' g1 g2 rfl)
        · cases hs
      · cases hs
    · cases hs
  | iaload =>
    obtain rfl : len = 1 := xLenOf hln (by decide) rfl
    simp only [xDec, Option.some.injEq, Prod.mk.injEq] at hd
    obtain ⟨rfl, rfl, rfl, rfl⟩ := hd
    simp only [mStep] at hs
    split at hs
    · rename_i i x r
      split at hs
      · rename_i hx5
        split at hs
        · rename_i L xs
          split at hs
          · rename_i hc
            simp only [Option.some.injEq, Prod.mk.injEq] at hs
            obtain ⟨rfl, rfl, rfl, rfl⟩ := hs
            subst hx5
            obtain ⟨k1, k2, k3⟩ := hsc
            obtain ⟨v1, v2⟩ := ofInt_in hc.1 hc.2.1 hc.2.2
            have k := kk0 rfl ls hAL
            rw [List.map_cons, xV_int] at k
            rw [List.map_cons, List.map_cons, xV_ref, xR_ex (by decide)]
            exact va_sld hx hb k1 k2 k3 hS v1 hdec (by rw [v2]; exact k)
          · cases hs
        · cases hs
      · split at hs
        · rename_i q hq
          split at hs
          · rename_i hc
            simp only [Option.some.injEq, Prod.mk.injEq] at hs
            obtain ⟨rfl, rfl, rfl, rfl⟩ := hs
            rw [List.map_cons, List.map_cons, xV_ref, xR_ad hq]
            obtain ⟨-, -, hqn⟩ := mAd_spec hq
            exact xIald C hdec hP hqn hc.1 hc.2.1 hc.2.2.1 hc.2.2.2 (kk0 rfl ls hAL)
          · cases hs
        · cases hs
    · cases hs
  | baload =>
    obtain rfl : len = 1 := xLenOf hln (by decide) rfl
    simp only [xDec, Option.some.injEq, Prod.mk.injEq] at hd
    obtain ⟨rfl, rfl, rfl, rfl⟩ := hd
    simp only [mStep] at hs
    split at hs
    · rename_i i x r
      split at hs
      · rename_i q hq
        split at hs
        · rename_i hc
          simp only [Option.some.injEq, Prod.mk.injEq] at hs
          obtain ⟨rfl, rfl, rfl, rfl⟩ := hs
          rw [List.map_cons, List.map_cons, xV_ref, xR_ad hq]
          obtain ⟨-, -, hqn⟩ := mAd_spec hq
          exact xBald C hdec hP hqn hc.1 hc.2.1 hc.2.2.1 hc.2.2.2 (kk0 rfl ls hAL)
        · cases hs
      · cases hs
    · cases hs
  | aaload =>
    obtain rfl : len = 1 := xLenOf hln (by decide) rfl
    simp only [xDec, Option.some.injEq, Prod.mk.injEq] at hd
    obtain ⟨rfl, rfl, rfl, rfl⟩ := hd
    simp only [mStep] at hs
    split at hs
    · rename_i i x r
      split at hs
      · rename_i q hq
        split at hs
        · rename_i hc
          simp only [Option.some.injEq, Prod.mk.injEq] at hs
          obtain ⟨rfl, rfl, rfl, rfl⟩ := hs
          rw [List.map_cons, List.map_cons, xV_ref, xR_ad hq]
          obtain ⟨-, -, hqn⟩ := mAd_spec hq
          exact xAald C hdec hP hqn hc.1 hc.2.1 hc.2.2.1 hc.2.2.2 (kk0 rfl ls hAL)
        · cases hs
      · cases hs
    · cases hs
  | iastore =>
    obtain rfl : len = 1 := xLenOf hln (by decide) rfl
    simp only [xDec, Option.some.injEq, Prod.mk.injEq] at hd
    obtain ⟨rfl, rfl, rfl, rfl⟩ := hd
    simp only [mStep] at hs
    split at hs
    · rename_i w i x r
      split at hs
      · rename_i q hq
        split at hs
        · rename_i hc
          simp only [Option.some.injEq, Prod.mk.injEq] at hs
          obtain ⟨rfl, rfl, rfl, rfl⟩ := hs
          rw [List.map_cons, List.map_cons, List.map_cons, xV_ref z ex x, xR_ad hq]
          obtain ⟨-, -, hqn⟩ := mAd_spec hq
          exact xIast C hdec hP hS hqn hc.1 hc.2.1 hc.2.2.1 hc.2.2.2 (fun H' locs' g1 g2 => kkp _ _ _ rfl H' locs' g1 g2 rfl)
        · cases hs
      · cases hs
    · cases hs
  | bastore =>
    obtain rfl : len = 1 := xLenOf hln (by decide) rfl
    simp only [xDec, Option.some.injEq, Prod.mk.injEq] at hd
    obtain ⟨rfl, rfl, rfl, rfl⟩ := hd
    simp only [mStep] at hs
    split at hs
    · rename_i w i x r
      split at hs
      · rename_i q hq
        split at hs
        · rename_i hc
          simp only [Option.some.injEq, Prod.mk.injEq] at hs
          obtain ⟨rfl, rfl, rfl, rfl⟩ := hs
          rw [List.map_cons, List.map_cons, List.map_cons, xV_ref z ex x, xR_ad hq]
          obtain ⟨-, -, hqn⟩ := mAd_spec hq
          exact xBast C hdec hP hS hqn hc.1 hc.2.1 hc.2.2.1 hc.2.2.2.1 hc.2.2.2.2 (fun H' locs' g1 g2 => kkp _ _ _ rfl H' locs' g1 g2 rfl)
        · cases hs
      · cases hs
    · cases hs
  | aastore =>
    obtain rfl : len = 1 := xLenOf hln (by decide) rfl
    simp only [xDec, Option.some.injEq, Prod.mk.injEq] at hd
    obtain ⟨rfl, rfl, rfl, rfl⟩ := hd
    simp only [mStep] at hs
    split at hs
    · rename_i w i x r
      split at hs
      · rename_i q hq
        split at hs
        · rename_i hc
          simp only [Option.some.injEq, Prod.mk.injEq] at hs
          obtain ⟨rfl, rfl, rfl, rfl⟩ := hs
          rw [List.map_cons, List.map_cons, List.map_cons, xV_ref z ex x, xR_ad hq]
          obtain ⟨-, -, hqn⟩ := mAd_spec hq
          exact xAast C hdec hP hS hqn hc.1 hc.2.1 hc.2.2.1 hc.2.2.2.1 hc.2.2.2.2 (fun H' locs' g1 g2 => kkp _ _ _ rfl H' locs' g1 g2 rfl)
        · cases hs
      · cases hs
    · cases hs
  | arraylength =>
    obtain rfl : len = 1 := xLenOf hln (by decide) rfl
    simp only [xDec, Option.some.injEq, Prod.mk.injEq] at hd
    obtain ⟨rfl, rfl, rfl, rfl⟩ := hd
    simp only [mStep] at hs
    split at hs
    · rename_i x r
      split at hs
      · rename_i hx5
        split at hs
        · rename_i L xs
          simp only [Option.some.injEq, Prod.mk.injEq] at hs
          obtain ⟨rfl, rfl, rfl, rfl⟩ := hs
          subst hx5
          obtain ⟨k1, k2, k3⟩ := hsc
          have k := kk0 rfl ls hAL
          rw [List.map_cons, xV_int, Int32.ofInt_eq_ofNat] at k
          rw [List.map_cons, xV_ref, xR_ex (by decide)]
          exact va_slen hx hb k1 k2 k3 hS hdec k
        · cases hs
      · split at hs
        · rename_i hx6
          simp only [Option.some.injEq, Prod.mk.injEq] at hs
          obtain ⟨rfl, rfl, rfl, rfl⟩ := hs
          subst hx6
          have k := kk0 rfl ls hAL
          rw [List.map_cons, xV_ref, xR_ex (by decide)]
          obtain ⟨cell, j1, j2, j3, j4, j5, j6, j7⟩ := hN.2.2.2.2.2.2.1
          refine W.alen (n := Int32.ofInt 0) hx hb (by rw [hS.2.1 _ (Nat.lt_of_lt_of_le hx2 hz) j7]; exact j1) j2 (by rw [j5]; rfl) rfl rfl hdec k
        · split at hs
          · rename_i q hq
            split at hs
            · rename_i hc
              simp only [Option.some.injEq, Prod.mk.injEq] at hs
              obtain ⟨rfl, rfl, rfl, rfl⟩ := hs
              rw [List.map_cons, xV_ref, xR_ad hq]
              obtain ⟨-, -, hqn⟩ := mAd_spec hq
              exact xAlen C hdec hP hqn hc (kk0 rfl ls hAL)
            · cases hs
          · cases hs
    · cases hs
  | new k =>
    obtain rfl : len = 3 := xLenOf hln (by decide) rfl
    simp only [xDec] at hd
    split at hd
    rotate_left
    · cases hd
    rename_i v hv
    simp only [Option.some.injEq, Prod.mk.injEq] at hd
    obtain ⟨rfl, rfl, rfl, rfl⟩ := hd
    simp only [mStep] at hs
    try simp only [Int.toNat_natCast] at hs
    split at hs
    · rename_i hc
      simp only [Option.some.injEq, Prod.mk.injEq] at hs
      obtain ⟨rfl, rfl, rfl, rfl⟩ := hs
      obtain ⟨⟨r1, r2⟩, k⟩ := kkn _ _ _ rfl
      have e : xV z ex (1, (mN h : Int)) = .ref (z + mN h) := by rw [xV_ref, xR_own (by omega), Int.toNat_natCast]; rfl
      simp only [List.map_cons, e] at k
      exact xNew C hdec (xLN_ok _ (lookup_mem hv)) hc hP hS r1 r2 (fun H' g1 g2 => k H' g1 g2 trivial)
    · cases hs
  | newarray ty =>
    obtain rfl : len = 2 := xLenOf hln (by decide) rfl
    cases ty with
    | int =>
      simp only [xDec, Option.some.injEq, Prod.mk.injEq] at hd
      obtain ⟨rfl, rfl, rfl, rfl⟩ := hd
      simp only [mStep] at hs
      split at hs
      · rename_i n r
        split at hs
        · rename_i hc
          simp only [Option.some.injEq, Prod.mk.injEq] at hs
          obtain ⟨rfl, rfl, rfl, rfl⟩ := hs
          obtain ⟨⟨r1, r2⟩, k⟩ := kkn _ _ _ rfl
          have e : xV z ex (1, (mN h : Int)) = .ref (z + mN h) := by rw [xV_ref, xR_own (by omega), Int.toNat_natCast]; rfl
          simp only [List.map_cons, e] at k
          exact xNewa C hdec (Or.inl ⟨rfl, rfl⟩) hc.1 hc.2.1 hP hS r1 r2 (fun H' g1 g2 => k H' g1 g2 trivial)
        · cases hs
      · cases hs
    | boolean =>
      simp only [xDec, Option.some.injEq, Prod.mk.injEq] at hd
      obtain ⟨rfl, rfl, rfl, rfl⟩ := hd
      simp only [mStep] at hs
      split at hs
      · rename_i n r
        split at hs
        · rename_i hc
          simp only [Option.some.injEq, Prod.mk.injEq] at hs
          obtain ⟨rfl, rfl, rfl, rfl⟩ := hs
          obtain ⟨⟨r1, r2⟩, k⟩ := kkn _ _ _ rfl
          have e : xV z ex (1, (mN h : Int)) = .ref (z + mN h) := by rw [xV_ref, xR_own (by omega), Int.toNat_natCast]; rfl
          simp only [List.map_cons, e] at k
          exact xNewa C hdec (Or.inr ⟨rfl, rfl⟩) hc.1 hc.2.1 hP hS r1 r2 (fun H' g1 g2 => k H' g1 g2 trivial)
        · cases hs
      · cases hs
    | _ => cases hd
  | anewarray k =>
    obtain rfl : len = 3 := xLenOf hln (by decide) rfl
    simp only [xDec] at hd
    split at hd
    rotate_left
    · cases hd
    rename_i v hv
    simp only [Option.some.injEq, Prod.mk.injEq] at hd
    obtain ⟨rfl, rfl, rfl, rfl⟩ := hd
    simp only [mStep] at hs
    try simp only [Int.toNat_natCast] at hs
    split at hs
    · rename_i n r
      split at hs
      · rename_i hc
        simp only [Option.some.injEq, Prod.mk.injEq] at hs
        obtain ⟨rfl, rfl, rfl, rfl⟩ := hs
        obtain ⟨⟨r1, r2⟩, k⟩ := kkn _ _ _ rfl
        have e : xV z ex (1, (mN h : Int)) = .ref (z + mN h) := by rw [xV_ref, xR_own (by omega), Int.toNat_natCast]; rfl
        simp only [List.map_cons, e] at k
        exact xNewq C hdec (xLA_ok _ (lookup_mem hv)) hc.1 hc.2 hP hS r1 r2 (fun H' g1 g2 => k H' g1 g2 trivial)
      · cases hs
    · cases hs
  | i2l =>
    obtain rfl : len = 1 := xLenOf hln (by decide) rfl
    simp only [xDec, Option.some.injEq, Prod.mk.injEq] at hd
    obtain ⟨rfl, rfl, rfl, rfl⟩ := hd
    simp only [mStep] at hs
    split at hs
    · rename_i x r
      split at hs
      · rename_i hc
        simp only [Option.some.injEq, Prod.mk.injEq] at hs
        obtain ⟨rfl, rfl, rfl, rfl⟩ := hs
        exact lv_i2l hx hb hdec (Int32.toInt64_ofInt (by have : Int32.minValue.toInt = -2147483648 := rfl; omega) (by have : Int32.maxValue.toInt = 2147483647 := rfl; omega)) (kk0 rfl ls hAL)
      · cases hs
    · cases hs
  | ladd =>
    obtain rfl : len = 1 := xLenOf hln (by decide) rfl
    simp only [xDec, Option.some.injEq, Prod.mk.injEq] at hd
    obtain ⟨rfl, rfl, rfl, rfl⟩ := hd
    simp only [mStep] at hs
    split at hs
    · rename_i y x r
      simp only [Option.some.injEq, Prod.mk.injEq] at hs
      obtain ⟨rfl, rfl, rfl, rfl⟩ := hs
      have k := kk0 rfl ls hAL
      rw [List.map_cons, xV_long, Int64.ofInt_add] at k
      exact lv_ladd hx hb hdec k
    · cases hs
  | lneg =>
    obtain rfl : len = 1 := xLenOf hln (by decide) rfl
    simp only [xDec, Option.some.injEq, Prod.mk.injEq] at hd
    obtain ⟨rfl, rfl, rfl, rfl⟩ := hd
    simp only [mStep] at hs
    split at hs
    · rename_i x r
      simp only [Option.some.injEq, Prod.mk.injEq] at hs
      obtain ⟨rfl, rfl, rfl, rfl⟩ := hs
      have k := kk0 rfl ls hAL
      rw [List.map_cons, xV_long, Int64.ofInt_neg] at k
      exact lv_lneg hx hb hdec k
    · cases hs
  | ldiv =>
    obtain rfl : len = 1 := xLenOf hln (by decide) rfl
    simp only [xDec, Option.some.injEq, Prod.mk.injEq] at hd
    obtain ⟨rfl, rfl, rfl, rfl⟩ := hd
    simp only [mStep] at hs
    split at hs
    · rename_i y x r
      split at hs
      · rename_i hc
        simp only [Option.some.injEq, Prod.mk.injEq] at hs
        obtain ⟨rfl, rfl, rfl, rfl⟩ := hs
        have k := kk0 rfl ls hAL
        rw [List.map_cons, xV_long] at k
        simp only [Int64.ofInt_sub, Int64.ofInt_mul, Int64.ofInt_toInt] at k
        exact lv_ldiv hx hb hdec (by rw [show (0 : Int64) = Int64.ofInt 0 from rfl, ofInt64_inj hc.1.2 (by omega)]; exact hc.2) k
      · cases hs
    · cases hs
  | lrem =>
    obtain rfl : len = 1 := xLenOf hln (by decide) rfl
    simp only [xDec, Option.some.injEq, Prod.mk.injEq] at hd
    obtain ⟨rfl, rfl, rfl, rfl⟩ := hd
    simp only [mStep] at hs
    split at hs
    · rename_i y x r
      split at hs
      · rename_i hc
        simp only [Option.some.injEq, Prod.mk.injEq] at hs
        obtain ⟨rfl, rfl, rfl, rfl⟩ := hs
        have k := kk0 rfl ls hAL
        rw [List.map_cons, xV_long] at k
        simp only [Int64.ofInt_sub, Int64.ofInt_mul, Int64.ofInt_toInt] at k
        exact lv_lrem hx hb hdec (by rw [show (0 : Int64) = Int64.ofInt 0 from rfl, ofInt64_inj hc.1.2 (by omega)]; exact hc.2) k
      · cases hs
    · cases hs
  | lcmp =>
    obtain rfl : len = 1 := xLenOf hln (by decide) rfl
    simp only [xDec, Option.some.injEq, Prod.mk.injEq] at hd
    obtain ⟨rfl, rfl, rfl, rfl⟩ := hd
    simp only [mStep] at hs
    split at hs
    · rename_i y x r
      split at hs
      · rename_i hc
        simp only [Option.some.injEq, Prod.mk.injEq] at hs
        obtain ⟨rfl, rfl, rfl, rfl⟩ := hs
        have k := kk0 rfl ls hAL
        rw [List.map_cons, xV_int] at k
        refine W.lcmp hx hb hdec ?_
        have e : lg_cmp (Int64.ofInt x) (Int64.ofInt y) = Int32.ofInt (if y < x then 1 else if x = y then 0 else -1) := by
          unfold lg_cmp
          simp only [gt_iff_lt, ofInt64_lt hc.2 hc.1, ofInt64_inj hc.1 hc.2]
          by_cases h1 : y < x
          · simp [h1]
          · by_cases h2 : x = y <;> simp [h1, h2]
        rw [e]
        exact k
      · split at hs
        · rename_i hc
          simp only [Option.some.injEq, Prod.mk.injEq] at hs
          obtain ⟨rfl, rfl, rfl, rfl⟩ := hs
          have k := kk0 rfl ls hAL
          rw [List.map_cons, xV_int] at k
          refine W.lcmp hx hb hdec ?_
          have e : lg_cmp (Int64.ofInt x) (Int64.ofInt y) = Int32.ofInt 0 := by
            rw [hc]
            unfold lg_cmp
            simp
          rw [e]
          exact k
        · cases hs
    · cases hs
  | getstatic k =>
    obtain rfl : len = 3 := xLenOf hln (by decide) rfl
    simp only [xDec] at hd
    split at hd
    rotate_left
    · cases hd
    rename_i v hv
    simp only [Option.some.injEq, Prod.mk.injEq] at hd
    obtain ⟨rfl, rfl, rfl, rfl⟩ := hd
    simp only [mStep] at hs
    try simp only [Int.toNat_natCast] at hs
    simp only [Option.some.injEq, Prod.mk.injEq] at hs
    obtain ⟨rfl, rfl, rfl, rfl⟩ := hs
    have k := kk0 rfl ls hAL
    rw [List.map_cons, xV_ref, xR_ex (by decide)] at k
    have hZ := hN.2.2.2.2.2.1
    have hS' : va_S (xA z) s.heap H locs := hS
    exact va_gets hx hb hZ hS' hown (hts _ (xLG_ok _ (lookup_mem hv))) (fun x h => h) hdec k
  | checkcast k =>
    obtain rfl : len = 3 := xLenOf hln (by decide) rfl
    simp only [xDec] at hd
    split at hd
    rotate_left
    · cases hd
    rename_i v hv
    simp only [Option.some.injEq, Prod.mk.injEq] at hd
    obtain ⟨rfl, rfl, rfl, rfl⟩ := hd
    simp only [mStep] at hs
    try simp only [Int.toNat_natCast] at hs
    split at hs
    · rename_i x r
      split at hs
      · rename_i q hq
        split at hs
        · rename_i hc
          simp only [Option.some.injEq, Prod.mk.injEq] at hs
          obtain ⟨rfl, rfl, rfl, rfl⟩ := hs
          obtain ⟨e1, e2⟩ := xLK_ok _ (lookup_mem hv)
          have e1 : v = 1 := e1
          subst e1
          have k := kk0 rfl ls hAL
          rw [List.map_cons, xV_ref, xR_ad hq] at k ⊢
          obtain ⟨-, -, hqn⟩ := mAd_spec hq
          exact xCast1 C hdec e2 hP hqn hc.1 hc.2 k
        · cases hs
      · cases hs
    · cases hs
  | tableswitch d lo hi offs =>
    simp only [xDec] at hd
    split at hd
    rotate_left
    · cases hd
    rename_i ho
    simp only [Option.some.injEq, Prod.mk.injEq] at hd
    obtain ⟨rfl, rfl, rfl, rfl⟩ := hd
    simp only [mStep] at hs
    split at hs
    · rename_i x r
      split at hs
      · rename_i hc
        simp only [Option.some.injEq, Prod.mk.injEq] at hs
        obtain ⟨rfl, rfl, rfl, rfl⟩ := hs
        have k := kk0 rfl ls hAL
        rw [List.map_cons, xV_int]
        have ex : (Int32.ofInt x).toInt = x := Int32.toInt_ofInt_of_le (by omega) (by omega)
        by_cases hin : x < lo ∨ hi < x
        · have e : ((List.range offs.size).map fun (j : Nat) => (lo + (j : Int), (pc : Int) + offs.toList.getD j 0)).lookup x = none := by
            cases e : ((List.range offs.size).map fun (j : Nat) => (lo + (j : Int), (pc : Int) + offs.toList.getD j 0)).lookup x with
            | none => rfl
            | some v =>
              obtain ⟨j, hj, e2⟩ := List.mem_map.mp (lookup_mem e)
              have hj := List.mem_range.mp hj
              simp only [Prod.mk.injEq] at e2
              omega
          rw [e] at k
          exact lv_tableOut hx hb hdec (by rw [ex]; exact hin) (xTgt ho.1) k
        · have hj : (x - lo).toNat < offs.size := by omega
          have e : ((List.range offs.size).map fun (j : Nat) => (lo + (j : Int), (pc : Int) + offs.toList.getD j 0)).lookup x = some ((pc : Int) + offs.toList.getD (x - lo).toNat 0) := xLkR (by omega) (by omega)
          rw [e] at k
          have hof : offs[(x - lo).toNat]? = some (offs.toList.getD (x - lo).toNat 0) := by
            rw [List.getD_eq_getElem?_getD, Array.getElem?_toList, Array.getElem?_eq_getElem hj]
            rfl
          have hpos : 0 ≤ (pc : Int) + offs.toList.getD (x - lo).toNat 0 := by
            have h1 := List.all_eq_true.mp ho.2.1 (offs.toList.getD (x - lo).toNat 0) (by
              rw [← Array.getElem?_toList] at hof
              exact List.mem_of_getElem? hof)
            exact of_decide_eq_true h1
          exact lv_tableIn hx hb hdec (by rw [ex]; omega) (by rw [ex]; omega) (by rw [ex]; exact hof) (xTgt hpos) k
      · cases hs
    · cases hs
  | lookupswitch d ps =>
    simp only [xDec] at hd
    split at hd
    rotate_left
    · cases hd
    rename_i ho
    simp only [Option.some.injEq, Prod.mk.injEq] at hd
    obtain ⟨rfl, rfl, rfl, rfl⟩ := hd
    simp only [mStep] at hs
    split at hs
    · rename_i x r
      split at hs
      · rename_i hc
        simp only [Option.some.injEq, Prod.mk.injEq] at hs
        obtain ⟨rfl, rfl, rfl, rfl⟩ := hs
        have k := kk0 rfl ls hAL
        rw [List.map_cons, xV_int]
        have ex : (Int32.ofInt x).toInt = x := Int32.toInt_ofInt_of_le (by omega) (by omega)
        have hpos : 0 ≤ ((ps.toList.map fun q => (q.1, (pc : Int) + q.2)).lookup x).getD ((pc : Int) + d) := xSw (fun q hq => by
          obtain ⟨q2, h1, rfl⟩ := List.mem_map.mp hq
          exact of_decide_eq_true (List.all_eq_true.mp ho.2.1 q2 h1)) ho.1
        rw [xLook] at k hpos
        exact lv_lookup hx hb hdec ho.2.2 (by rw [ex]) (xTgt hpos) k
      · cases hs
    · cases hs
  | _ => cases hd
end XMSTEP
