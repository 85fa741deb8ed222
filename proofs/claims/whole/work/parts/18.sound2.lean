/-! every run -/
/-- the texts' methods answer as the small machine has it -/
def XPr (l : Launch) (D : va_G) (z : Nat) (ex : Int → Nat) (aV : Nat → Nat) (cA : Nat → ClassId) (HB : Heap) : Prop :=
  ∀ (k : Nat) (as : List AV) (v : AV) (h : Hp), k < 2 → mPrim txt k as = some v → Met l (pNm k) (pWs k) (xRm 5 0 0) (xPc D z ex aV cA HB as h) (xQc D z ex cA HB (some v) h) 0 0 (xA z)
section XSOUND2
variable {l : Launch} {D : va_G} {z : Nat} {ex : Int → Nat} {aV : Nat → Nat} {cA : Nat → ClassId} {HB : Heap}
variable {p : Program} {e : Env} {R : Room} {s : State} {m : MethodId} {args : Array Value} {below : List Frame} {meth : Method} {c : Code} {H : Heap} {locs : List Loc} {cells slots : Nat} {Q : State → Prop} {cc : ByteArray} {nL own : Nat} {ini : Bool} {ls : Array Slot} {sc : Option (Nat × (Nat → Int))} {pc : Nat} {h : Hp}
theorem xPrimT {idx k : Nat} {st : List AV} {v : AV} (hPr : XPr l D z ex aV cA HB) (C : xCtx p m c s args meth cc nL own ini D z ex aV cA sc) (hdec : decode cc pc = .ok (.invokevirtual idx, 3)) (ok : PrOk k) (hk : k < 2) (hl : Cond.methodLink (xCn own) idx (pNm k) ∈ BW) (hb : k + 1 ≤ st.length) (hp : mPrim txt k (st.take (k + 1)).reverse = some v) (hc : mCats (st.drop (k + 1)) ≤ 8)
    (hP : xP D z ex cA HB h H) (hS : va_S (xA z) s.heap H locs) (hsize : ls.size = nL) (h1 : 6 ≤ R.frames) (h2 : 40 * 6 ≤ R.locals) (hr1 : cells ≤ R.cells) (hr2 : slots ≤ R.slots)
    (kk : ∀ H1 locs1, xP D z ex cA HB h H1 → va_S (xA z) s.heap H1 locs1 → W p l e R s m args below meth c H1 locs1 cells slots Q (F0 m (pc + 3) ls ((v :: st.drop (k + 1)).map (xV z ex)))) : W p l e R s m args below meth c H locs cells slots Q (F0 m pc ls (st.map (xV z ex))) := by
  have C' := C
  obtain ⟨⟨hx, hb', hml, hown, hts⟩, -, hK, hN, -⟩ := C'
  obtain ⟨m1, m2, m3, m4, m5, m6, m7⟩ := ok
  -- the receiver
  obtain ⟨x, as, e1, hx1, hx2⟩ : ∃ (x : Int) (as : List AV), (st.take (k + 1)).reverse = (1, x) :: as ∧ x ≤ -10 ∧ -20 < x := by
    match k, hk with
    | 0, _ =>
      unfold mPrim at hp
      split at hp
      · rename_i x h1' h2'
        split at hp
        · rename_i hc1
          exact ⟨x, [], by assumption, hc1.1, hc1.2⟩
        · cases hp
      all_goals first | (exfalso; omega) | cases hp
    | 1, _ =>
      unfold mPrim at hp
      split at hp
      · exfalso; omega
      · rename_i x i h1' h2'
        split at hp
        · rename_i hc1
          exact ⟨x, [(0, i)], by assumption, hc1.1, hc1.2.1⟩
        · cases hp
      all_goals first | (exfalso; omega) | cases hp
  have hst : st = as.reverse ++ (1, x) :: st.drop (k + 1) := by
    have g := congrArg List.reverse e1
    rw [List.reverse_reverse, List.reverse_cons] at g
    have g2 := List.take_append_drop (k + 1) st
    rw [g, List.append_assoc] at g2
    exact g2.symm
  have hlen : as.length = k := by
    have g := congrArg List.length e1
    rw [List.length_reverse, List.length_take, List.length_cons] at g
    omega
  have hM := hPr k _ v h hk hp
  rw [e1] at hM
  have hpre := xPre (as := (1, x) :: as) C hP hS
  rw [List.map_cons, xV_ref, xR_ex (by omega)] at hpre
  have hrec : ∃ cell : Cell, H[ex x]? = some cell ∧ cell.vm.isStatics = false ∧ s.vm.findClass "java/lang/String" = some cell.cls := by
    obtain ⟨⟨cell, k1, k2, k3, k4⟩, -⟩ := hN.2.2.2.2.2.2.2.2.1 (-10 - x).toNat (by omega)
    have ei : -10 - (((-10 - x).toNat : Nat) : Int) = x := by omega
    rw [ei] at k1 k4
    exact ⟨cell, by rw [hS.2.1 _ (Array.getElem?_eq_some_iff.mp k1).1 k4]; exact k1, k2, k3⟩
  have stm : st.map (xV z ex) = (as.map (xV z ex)).reverse ++ .ref (ex x) :: (st.drop (k + 1)).map (xV z ex) := by
    conv => lhs; rw [hst]
    rw [List.map_append, List.map_cons, List.map_reverse, xV_ref, xR_ex (by omega)]
    rfl
  rw [stm]
  have gd : GoodIn BW (pWs k) := by
    intro w hw
    rcases List.mem_cons.mp hw with rfl | hw
    · exact ⟨m1, BW_good m1⟩
    · exact ⟨hw, BW_good hw⟩
  have cb : CallB R s args (xCn own) idx (pNm k) (pBc k) (pMl k) (pRt k) (pWs k) (xRm 5 0 0) 0 0 k := ⟨rfl, rfl, h1, by show 8 + (pMl k + 11) + 40 * 5 ≤ R.locals; omega, pay_in hts gd, List.mem_cons_self, hts _ m1, hts _ m2, by rw [m3]; exact ⟨by decide, by decide⟩, xLenN m6, hts _ hl⟩
  have key := va_runV (e := e) (below := below) (meth := meth) (C := "java/lang/String") (H := H) (locs := locs) (cells := cells) (slots := slots) ⟨hx, hb', hml, hown, hts⟩ hM ⟨cb, hts _ m4, hts _ m5⟩ ⟨hpre.1, hrec, hpre.2⟩ (g := F0 m pc ls ((as.map (xV z ex)).reverse ++ .ref (ex x) :: (st.drop (k + 1)).map (xV z ex))) rfl (by rw [List.length_map]; exact hlen) hsize rfl (xCat hc rfl) hdec ⟨hr1, hr2⟩
  exact xUse (len := 3) key hS (fun H1 locs1 g1 g2 => kk H1 locs1 g1 g2)
theorem xMthN (k : Nat) : (k = 2 → xMth k = Lib.Math.abs.name) ∧ (k = 3 → xMth k = Lib.Math.max.name) ∧ (k = 4 → xMth k = Lib.Math.min.name) := ⟨fun h => by subst h; rfl, fun h => by subst h; rfl, fun h => by subst h; rfl⟩
theorem xPrimM {idx k b : Nat} {st : List AV} {v : AV} (C : xCtx p m c s args meth cc nL own ini D z ex aV cA sc) (hdec : decode cc pc = .ok (.invokestatic idx, 3)) (hk : (k, b) = (2, 1) ∨ (k, b) = (3, 2) ∨ (k, b) = (4, 2)) (hl : Cond.methodLink (xCn own) idx (xMth k) ∈ BW) (hb : b ≤ st.length) (hp : mPrim txt k (st.take b).reverse = some v) (hc : mCats (st.drop b) ≤ 8)
    (hsize : ls.size = nL) (h1 : 6 ≤ R.frames) (h2 : 40 * 6 ≤ R.locals) (hr1 : cells ≤ R.cells) (hr2 : slots ≤ R.slots)
    (kk : W p l e R s m args below meth c H locs cells slots Q (F0 m (pc + 3) ls ((v :: st.drop b).map (xV z ex)))) : W p l e R s m args below meth c H locs cells slots Q (F0 m pc ls (st.map (xV z ex))) := by
  obtain ⟨⟨hx, hb', hml, hown, hts⟩, -⟩ := C
  have hcat : ((st.drop b).map (xV z ex)).map (fun v => v.category) = (st.drop b).map mCat := xV_cats _
  have hloc : (((st.drop b).map (xV z ex)).map fun v => v.category).sum + 13 ≤ R.locals := by
    rw [hcat]
    unfold mCats at hc
    omega
  have back : ∀ as : List AV, (st.take b).reverse = as → st = as.reverse ++ st.drop b := by
    intro as e1
    have g := congrArg List.reverse e1
    rw [List.reverse_reverse] at g
    rw [← g, List.take_append_drop]
  rcases hk with hk | hk | hk <;> (simp only [Prod.mk.injEq] at hk; obtain ⟨rfl, rfl⟩ := hk)
  · unfold mPrim at hp
    split at hp
    · exfalso; omega
    · exfalso; omega
    · rename_i x _ e1
      split at hp
      · rename_i hr
        cases hp
        have hst := back _ (by assumption)
        have stm : st.map (xV z ex) = .int (Int32.ofInt x) :: (st.drop 1).map (xV z ex) := by
          conv => lhs; rw [hst]
          rfl
        rw [stm]
        obtain ⟨n1, n2, n3⟩ := xMth_2
        have hl' := hts _ hl
        rw [(xMthN 2).1 rfl] at hl'
        refine va_mabs hx hb' (hml.trans hsize.symm) hown hl' (hts _ n1) (hts _ n2) (hts _ n3) (by omega) hloc hr1 hr2 hdec ?_
        have e : (if 0 ≤ Int32.ofInt x then Int32.ofInt x else 0 - Int32.ofInt x) = Int32.ofInt (if x < 0 then -x else x) := by
          rw [show (0 : Int32) = Int32.ofInt 0 from rfl]
          by_cases g : x < 0
          · rw [if_pos g, if_neg (by rw [ofInt_le (by omega) hr.1]; omega), ← Int32.ofInt_sub, Int.zero_sub]
          · rw [if_neg g, if_pos (by rw [ofInt_le (by omega) hr.1]; omega)]
        rw [e]
        exact kk
      · cases hp
    all_goals first | (exfalso; omega) | cases hp
  · unfold mPrim at hp
    split at hp
    · exfalso; omega
    · exfalso; omega
    · exfalso; omega
    · rename_i x y _ e1
      split at hp
      · rename_i hr
        cases hp
        have hst := back _ (by assumption)
        have stm : st.map (xV z ex) = .int (Int32.ofInt y) :: .int (Int32.ofInt x) :: (st.drop 2).map (xV z ex) := by
          conv => lhs; rw [hst]
          rfl
        rw [stm]
        obtain ⟨n1, n2, n3⟩ := xMth_3
        have hl' := hts _ hl
        rw [(xMthN 3).2.1 rfl] at hl'
        refine va_mmax hx hb' (hml.trans hsize.symm) hown hl' (hts _ n1) (hts _ n2) (hts _ n3) (by omega) hloc hr1 hr2 hdec ?_
        have e : (if Int32.ofInt x < Int32.ofInt y then Int32.ofInt y else Int32.ofInt x) = Int32.ofInt (if x < y then y else x) := by
          by_cases g : x < y
          · rw [if_pos g, if_pos (by rw [ofInt_lt hr.1 hr.2]; exact g)]
          · rw [if_neg g, if_neg (by rw [ofInt_lt hr.1 hr.2]; exact g)]
        rw [e]
        exact kk
      · cases hp
    all_goals first | (exfalso; omega) | cases hp
  · unfold mPrim at hp
    split at hp
    · exfalso; omega
    · exfalso; omega
    · exfalso; omega
    · exfalso; omega
    · rename_i x y _ e1
      split at hp
      · rename_i hr
        cases hp
        have hst := back _ (by assumption)
        have stm : st.map (xV z ex) = .int (Int32.ofInt y) :: .int (Int32.ofInt x) :: (st.drop 2).map (xV z ex) := by
          conv => lhs; rw [hst]
          rfl
        rw [stm]
        obtain ⟨n1, n2, n3⟩ := xMth_4
        have hl' := hts _ hl
        rw [(xMthN 4).2.2 rfl] at hl'
        refine va_mmin hx hb' (hml.trans hsize.symm) hown hl' (hts _ n1) (hts _ n2) (hts _ n3) (by omega) hloc hr1 hr2 hdec ?_
        have e : (if Int32.ofInt y < Int32.ofInt x then Int32.ofInt y else Int32.ofInt x) = Int32.ofInt (if x < y then x else y) := by
          by_cases g : y < x
          · rw [if_pos (by rw [ofInt_lt hr.2 hr.1]; exact g), if_neg (by omega)]
          · rw [if_neg (by rw [ofInt_lt hr.2 hr.1]; exact g)]
            by_cases g2 : x < y
            · rw [if_pos g2]
            · rw [if_neg g2, show x = y by omega]
        rw [e]
        exact kk
      · cases hp
    all_goals first | (exfalso; omega) | cases hp
end XSOUND2
