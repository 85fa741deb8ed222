set_option maxHeartbeats 4000000 in
set_option maxRecDepth 100000 in
theorem c_text {h : Hp} {c : Nat → Nat → Int} {g : Nat → Int} {n D : Nat} (hL : Lay h) (hE : Ends g n) (hC : Cc c) (hT : TapeS c g n) : Ok (D + 21) 30 [(1, ((35 : Nat) : Int))] (wC h c) (TxQ h c g n (pTxt g n 10 0 [])) := by
  show Ex _ none t_X1_readText 0 0 _ [] (wC h c) _
  refine E_load rfl rfl rfl ?_
  refine E_getr (c := 2) (r := 36) rfl (hL.lt 35 rfl) (hL.k 35 rfl) rfl (hC.g 35 1 36 (by decide)) ?_
  refine E_V0 (q := 36) (c := 8) (y := 62) rfl rfl (hL.lt 36 rfl) (hL.k 36 rfl) rfl rfl rfl rfl (s_clear (sh36 hL hC) (by decide) (by decide)) (fun r h2 hq => ?_)
  obtain ⟨rfl, c_1, hh, hc_1⟩ := hq
  subst hh
  have hC_1 : Cc c_1 := hC.of fun e he => by
    rw [hc_1]
    exact up2_fldN (by have : ∀ e ∈ CT, e.1 ≠ 36 ∨ e.2.1 < 3 := by decide
                       have := this e he
                       omega)
  refine E_load rfl rfl rfl ?_
  refine E_getr (c := 2) (r := 39) rfl (hL.lt 35 rfl) (hL.k 35 rfl) rfl (hC_1.g 35 2 39 (by decide)) ?_
  refine E_V0 (q := 39) (c := 8) (y := 62) rfl rfl (hL.lt 39 rfl) (hL.k 39 rfl) rfl rfl rfl rfl (s_clear (sh39 hL hC_1) (by decide) (by decide)) (fun r h2 hq => ?_)
  obtain ⟨rfl, c_2, hh, hc_2⟩ := hq
  subst hh
  refine E_load rfl rfl rfl ?_
  refine E_const rfl ?_
  refine E_putg (cl := 2) rfl (hL.lt 35 rfl) (hL.k 35 rfl) rfl (fun c_3 hc_3 => ?_)
  refine E_const rfl ?_
  refine E_store rfl rfl rfl ?_
  have hE3 : EqP FrD c c_3 := by
    rw [hc_3, hc_2, hc_1]
    exact (EqP.up (by unfold FrD FrQ; omega)).trans ((EqP.up (by unfold FrD FrQ; omega)).trans (EqP.up (by unfold FrD FrQ; omega)))
  have hC_3 : Cc c_3 := hC.of fun e he => hE3 _ _ (by
    have : ∀ e ∈ CT, (e.1 ≠ 35 ∨ e.2.1 < 3) ∧ (e.1 ≠ 39 ∨ e.2.1 < 3) ∧ e.1 ≠ 40 ∧ (e.1 ≠ 36 ∨ e.2.1 < 3) ∧ e.1 ≠ 37 := by decide
    have := this e he
    unfold FrD FrQ
    omega)
  have hT_3 : TapeS c_3 g n := ⟨(hE3 1 3 (by unfold FrD FrQ; omega)).trans hT.1, fun j hj => (hE3 2 j (by unfold FrD FrQ; omega)).trans (hT.2 j hj)⟩
  exact l_text hL hE 10 0 0 [] c_3 rfl rfl (Nat.zero_le _) (Nat.zero_le _) ⟨hC_3, hT_3, by rw [hc_3]; exact up2_same⟩ ⟨by rw [hc_3, hc_2, hc_1]; exact (up2_fldN (by omega)).trans ((up2_fldN (by omega)).trans up2_same), True.intro⟩ ⟨by rw [hc_3, hc_2]; exact (up2_fldN (by omega)).trans up2_same, True.intro⟩ hE3
set_option maxHeartbeats 4000000 in
set_option maxRecDepth 100000 in
theorem c_hcopy {d : Nat} {h : Hp} {c : Nat → Nat → Int} (hL : Lay h) (hC : Cc c) : Ok (d + 2) 20 [(1, ((28 : Nat) : Int)), (1, ((35 : Nat) : Int))] (wC h c) (fun r h2 => r = none ∧ ∃ c2, h2 = wC h c2 ∧ (c2 29 3 = c 36 3 ∧ (∀ j, j < 30 → c2 30 j = c 37 j) ∧ c2 32 3 = c 39 3 ∧ ∀ j, j < 300 → c2 33 j = c 40 j) ∧ EqP (fun a k => a = 30 ∨ a = 33 ∨ (k = 3 ∧ (a = 29 ∨ a = 32))) c c2) := by
  show Ex _ none t_X1_copyFrom 0 0 _ [] (wC h c) _
  refine E_load rfl rfl rfl ?_
  refine E_getr (c := 2) (r := 29) rfl (hL.lt 28 rfl) (hL.k 28 rfl) rfl (hC.g 28 1 29 (by decide)) ?_
  refine E_load rfl rfl rfl ?_
  refine E_getr (c := 2) (r := 36) rfl (hL.lt 35 rfl) (hL.k 35 rfl) rfl (hC.g 35 1 36 (by decide)) ?_
  refine E_V1 (q := 29) (c := 8) (y := 63) rfl rfl (hL.lt 29 rfl) (hL.k 29 rfl) rfl rfl rfl rfl (s_copyFrom (sh29 hL hC) (by decide) (by decide) (sh36 hL hC) (by omega)) (fun r h2 hq => ?_)
  obtain ⟨rfl, c_1, hh, k1, j1, e1⟩ := hq
  subst hh
  have hC_1 : Cc c_1 := hC.of fun e he => e1 _ _ (by
    have : ∀ e ∈ CT, e.1 ≠ 30 ∧ (e.1 ≠ 29 ∨ e.2.1 ≠ 3) := by decide
    have := this e he
    omega)
  refine E_load rfl rfl rfl ?_
  refine E_getr (c := 2) (r := 32) rfl (hL.lt 28 rfl) (hL.k 28 rfl) rfl (hC_1.g 28 2 32 (by decide)) ?_
  refine E_load rfl rfl rfl ?_
  refine E_getr (c := 2) (r := 39) rfl (hL.lt 35 rfl) (hL.k 35 rfl) rfl (hC_1.g 35 2 39 (by decide)) ?_
  refine E_V1 (q := 32) (c := 8) (y := 63) rfl rfl (hL.lt 32 rfl) (hL.k 32 rfl) rfl rfl rfl rfl (s_copyFrom (sh32 hL hC_1) (by decide) (by decide) (sh39 hL hC_1) (by omega)) (fun r h2 hq => ?_)
  obtain ⟨rfl, c_2, hh, k2, j2, e2⟩ := hq
  subst hh
  refine E_vret rfl ?_
  exact ⟨rfl, c_2, rfl, ⟨(e2 29 3 (by omega)).trans k1, fun j hj => (e2 30 j (by omega)).trans (j1 j hj), k2.trans (e1 39 3 (by omega)), fun j hj => (j2 j hj).trans (e1 40 j (by omega))⟩, fun a k hk => (e2 a k (by omega)).trans (e1 a k (by omega))⟩
/-- another cellar than the one that holds is written -/
theorem HoldS.cel {s s' : Nat → Int} {l : List CLA} (h : HoldS s l) (hA : Inv s) (hc : s 30 ≤ 4) (e : Rh (s 30).toNat (upd1 s 34 0) s') : HoldS s' l := by
  have hH := hA.2.1
  have hX := hA.2.2.2.2.1
  have n30 := hA.2.2.1.1.2.1
  have e1 : ∀ k, k ≠ 34 → k ≠ 228 + (s 30).toNat → k ≠ 233 + (s 30).toNat → k ≠ 238 + (s 30).toNat → ¬ (243 + 140 * (s 30).toNat ≤ k ∧ k < 383 + 140 * (s 30).toNat) → s' k = s k := fun k a b c d f => (e k b c d f).trans (upd1_ne a)
  have e35 : s' 35 = s 35 := e1 35 (by omega) (by omega) (by omega) (by omega) (by omega)
  obtain ⟨h1, h2, h3⟩ := h
  refine ⟨?_, ?_, ?_⟩
  · rw [← h1]
    unfold stL
    rw [e35]
    by_cases hc : s 35 = -1
    · rw [if_pos hc, if_pos hc]
    · rw [if_neg hc, if_neg hc]
      rcases hH with hH | ⟨g1, g2, g3, g4, g5⟩
      · exact absurd hH hc
      · rw [e1 (238 + s 35).toNat (by omega) (by omega) (by omega) (by omega) (by omega)]
        refine List.map_congr_left fun i hi => ?_
        have := List.mem_range.mp hi
        exact e1 _ (by omega) (by omega) (by omega) (by omega) (by omega)
  · rw [← h2]
    unfold tlI
    rw [e35]
    by_cases hc : s 35 = -1
    · rw [if_pos hc, if_pos hc]
    · rw [if_neg hc, if_neg hc]
      rcases hH with hH | ⟨g1, -⟩
      · exact absurd hH hc
      · exact e1 _ (by omega) (by omega) (by omega) (by omega) (by omega)
  · rw [← h3]
    unfold tlI
    rw [e35]
    by_cases hc : s 35 = -1
    · rw [if_pos hc, if_pos hc]
    · rw [if_neg hc, if_neg hc]
      rcases hH with hH | ⟨g1, -⟩
      · exact absurd hH hc
      · exact e1 _ (by omega) (by omega) (by omega) (by omega) (by omega)
theorem CuR.hold {s' t : Nat → Int} {act : Nat} {l : List CLA} (h : CuR s' act l) (ha : act ≤ 4) (hl : (stepsC l).length ≤ 140) (e35 : t 35 = (act : Int)) (e : ∀ k, 36 ≤ k → t k = s' k) : HoldS t l := by
  obtain ⟨h1, h2, h3⟩ := h
  refine ⟨?_, ?_, ?_⟩
  · unfold stL
    rw [if_neg (by omega), e35, show (238 + (act : Int)).toNat = 238 + act by omega, e _ (by omega), h1.1, Int.toNat_natCast]
    refine List.ext_getElem (by simp) fun i i1 i2 => ?_
    simp only [List.getElem_map, List.getElem_range]
    rw [show (243 + 140 * (act : Int) + (i : Int)).toNat = 243 + 140 * act + i by omega, e _ (by omega), h1.2 i i2, List.getD_eq_getElem?_getD, List.getElem?_eq_getElem i2]
    rfl
  · unfold tlI
    rw [if_neg (by omega), e35, show (228 + (act : Int)).toNat = 228 + act by omega, e _ (by omega)]; exact h2
  · unfold tlI
    rw [if_neg (by omega), e35, show (233 + (act : Int)).toNat = 233 + act by omega, e _ (by omega)]; exact h3
