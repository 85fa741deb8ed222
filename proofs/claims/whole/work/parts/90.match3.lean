set_option maxHeartbeats 4000000 in
set_option maxRecDepth 100000 in
theorem Cl_cntX {d : Nat} {h : Hp} {c : Nat → Nat → Int} {B : Nat → Nat} {s im : Nat → Int} {hi : Int} {L : List Int} (hL : Lay h) (hR : RepC h c B s im hi L) (hG : InvG s) (hSd : SaidR c s) {v1 v2 v3 v4 v5 : AV} {oth : Int} (ho : inR oth ∧ s 29 ≤ oth) {Q : Option AV → Hp → Prop} (K : Ex (d + 5) none t_X10_countPairs 0 105 [(1, ((0 : Nat) : Int)), v1, v2, v3, v4, v5, (0, oth)] [] (wC h c) Q) : Ex (d + 5) none t_X10_countPairs 0 43 [(1, ((0 : Nat) : Int)), v1, v2, v3, v4, v5, (0, oth)] [] (wC h c) Q := by
  have n29 := hG.2.2.1.1
  refine E_load rfl rfl rfl ?_
  refine E_load rfl rfl rfl ?_
  refine E_getr (c := 11) (r := 22) rfl (hL.lt 0 rfl) (hL.k 0 rfl) rfl (hR.C.g 0 7 22 (by decide)) ?_
  refine E_getf (c := 8) (v := (0, (s 29))) rfl (hL.lt 22 rfl) (hL.k 22 rfl) rfl (fv (hSd.1)) ?_
  refine E_cmp3 rfl (by omega) (fun q1 => ?_) (fun q1 => ?_)
  · exact K
  · exfalso; omega
set_option maxHeartbeats 4000000 in
set_option maxRecDepth 100000 in
theorem Cl_cntE {d : Nat} {h : Hp} {c : Nat → Nat → Int} {B : Nat → Nat} {s im : Nat → Int} {hi : Int} {L : List Int} (hL : Lay h) (hR : RepC h c B s im hi L) (hG : InvG s) (hSd : SaidR c s) {x : Nat} (hT : TabR c s x) (hx : x < 64) {a : Int} (ha : a = mpS s (s 29).toNat 0 x) {x1 : Int} {v3 v4 v6 : AV} {Q : Option AV → Hp → Prop}
    (K : ∀ c2, RepC h c2 B s im hi L → SaidR c2 s → TabR c2 s (x + 1) → EqP (fun a k => (a = 25 ∧ k = 3) ∨ a = 26) c c2 → Ex (d + 5) none t_X10_countPairs 0 9 [(1, ((0 : Nat) : Int)), (0, x1), (0, ((x + 1 : Nat) : Int)), v3, v4, (0, a), v6] [] (wC h c2) Q) : Ex (d + 5) none t_X10_countPairs 0 105 [(1, ((0 : Nat) : Int)), (0, x1), (0, (x : Int)), v3, v4, (0, a), v6] [] (wC h c) Q := by
  have n29 := hG.2.2.1.1
  have h25 := hT.1
  refine E_load rfl rfl rfl ?_
  refine E_getr (c := 11) (r := 25) rfl (hL.lt 0 rfl) (hL.k 0 rfl) rfl (hR.C.g 0 8 25 (by decide)) ?_
  refine E_load rfl rfl rfl ?_
  refine E_const rfl ?_
  refine E_const rfl ?_
  refine E_V3 (q := 25) (c := 8) (y := 59) rfl rfl (hL.lt 25 rfl) (hL.k 25 rfl) rfl rfl rfl rfl (s_add1 (sh25 hL hR.C) (by decide) (by omega) (by omega)) (fun r h2 hq => ?_)
  obtain ⟨rfl, c_1, hh, hc_1⟩ := hq
  subst hh
  rw [if_pos (by omega)] at hc_1
  simp only [adS, Nat.not_lt_zero, if_false, show ¬ (1 < 1) by decide, show ¬ (2 < 1) by decide] at hc_1
  rw [h25, show ((x : Int) * ((1 : Nat) : Int)).toNat + 0 = x by omega] at hc_1
  have hE_1 : EqP (fun a k => (a = 25 ∧ k = 3) ∨ a = 26) c c_1 := by rw [hc_1]; exact (EqP.up (by omega)).trans (EqP.up (by omega))
  have hR_1 := hR.scr (hE_1.mono (fun a k e => Or.inl (by unfold fixS; omega)))
  refine E_pop rfl rfl ?_
  refine E_iinc rfl rfl rfl ?_
  refine E_goto rfl ?_
  refine K c_1 hR_1 (hSd.of (hE_1 22 3 (by omega)) (funext fun k => hE_1 23 k (by omega))) ⟨by rw [hc_1]; exact up2_same, fun y hy => ?_⟩ hE_1
  rw [hc_1, up2_fldN (by omega)]
  by_cases e : y = x
  · rw [e, ← ha]; exact up2_same
  · rw [up2_fldN (by omega)]; exact hT.2 y (by omega)
set_option maxHeartbeats 4000000 in
set_option maxRecDepth 100000 in
theorem Cl_cntA {d : Nat} {h : Hp} {B : Nat → Nat} {s im : Nat → Int} {hi : Int} {L : List Int} (hL : Lay h) (hG : InvG s)  : ∀ (n i : Nat), i + n = fuN s + 1 → ∀ (v3 v4 v5 v6 : AV), ∀ c, RepC h c B s im hi L → SaidR c s → TabR c s i → Ex (d + 5) none t_X10_countPairs 0 9 [(1, ((0 : Nat) : Int)), (0, (fuN s : Int)), (0, (i : Int)), v3, v4, v5, v6] [] (wC h c) (fun r h2 => r = none ∧ ∃ c2, h2 = wC h c2 ∧ TabR c2 s (fuN s + 1) ∧ EqP (fun a k => (a = 25 ∧ k = 3) ∨ a = 26) c c2) := by
  have hGG := hG
  obtain ⟨hI, hH, ⟨⟨n29, n30, n31, n32, n33, n34, n36⟩, nM⟩⟩ := hGG
  intro n
  induction n with
  | zero =>
    intro i hin v3 v4 v5 v6  c hR hSd hT
    have hfl := fuN_lt n29.2
    refine E_load rfl rfl rfl ?_
    refine E_load rfl rfl rfl ?_
    refine E_cmp4 rfl (by omega) (fun q1 => ?_) (fun q1 => ?_)
    · refine E_vret rfl ?_
      exact ⟨rfl, c, rfl, by rw [show fuN s + 1 = i by omega]; exact hT, EqP.nil⟩
    · exfalso; omega
  | succ n ih =>
    intro i hin v3 v4 v5 v6  c hR hSd hT
    have hfl := fuN_lt n29.2
    refine E_load rfl rfl rfl ?_
    refine E_load rfl rfl rfl ?_
    refine E_cmp4 rfl (by omega) (fun q1 => ?_) (fun q1 => ?_)
    · exfalso; omega
    · rcases Classical.em (i = 0) with h0 | h0
      · have hl0 : lwN i = 32 := by rw [h0]; rfl
        refine E_load rfl rfl rfl ?_
        refine E_S1 (y := 227) rfl rfl rfl rfl rfl (j_ntz (by omega)) (fun r h2 hq => ?_)
        obtain ⟨rfl, hh⟩ := hq
        subst hh
        refine E_store rfl rfl rfl ?_
        refine E_load rfl rfl rfl ?_
        refine E_load rfl rfl rfl ?_
        refine E_const rfl ?_
        refine E_sub rfl ?_
        refine E_bit (z := 0) rfl rfl ((rst0 ⟨i, by omega⟩).trans (if_pos h0)) ?_
        refine E_store rfl rfl rfl ?_
        refine E_load rfl rfl rfl ?_
        refine E_getr (c := 11) (r := 25) rfl (hL.lt 0 rfl) (hL.k 0 rfl) rfl (hR.C.g 0 8 25 (by decide)) ?_
        refine E_load rfl rfl rfl ?_
        refine E_const rfl ?_
        refine E_V2 (q := 25) (c := 8) (y := 60) rfl rfl (hL.lt 25 rfl) (hL.k 25 rfl) rfl rfl rfl rfl (s_atv (v := 0) (sh25 hL hR.C) (by decide) (by decide) (by omega) (by omega) (by rw [hT.1]; omega) (by rw [hT.1]; omega) ((tab_at (y := 0) hT (Or.inr rfl)).trans (mpS_zero _ _))) (fun r h2 hq => ?_)
        obtain ⟨rfl, hh⟩ := hq
        subst hh
        refine E_store rfl rfl rfl ?_
        refine E_load rfl rfl rfl ?_
        refine E_const rfl ?_
        refine E_add rfl ?_
        refine E_store rfl rfl rfl ?_
        refine Cl_cntX hL hR hG hSd (by omega) ?_
        rw [show (0 : Int) = mpS s (s 29).toNat 0 i by rw [h0, mpS_zero]]
        refine Cl_cntE hL hR hG hSd hT (by omega) rfl (fun c2 hR2 hS2 hT2 e2 => ?_)
        refine (ih (i + 1) (by omega) _ _ _ _ c2 hR2 hS2 hT2).mono ?_
        rintro r hE ⟨e1, c9, e4, e5, e6⟩
        exact ⟨e1, c9, e4, e5, EqP.trans e2 e6⟩
      · have hi64 : i < 64 := by omega
        obtain ⟨l1, l2, l3⟩ := lwB hi64 h0
        have hp1 := (takeB hi64 l1 l2).1.1
        have hp0 := Nat.pos_of_ne_zero (show 2 ^ lwN i ≠ 0 by simp)
        have hp2 : i - 2 ^ lwN i < i := Nat.sub_lt_of_pos_le hp0 hp1
        clear hp1 hp0
        refine E_load rfl rfl rfl ?_
        refine E_S1 (y := 227) rfl rfl rfl rfl rfl (j_ntz (by omega)) (fun r h2 hq => ?_)
        obtain ⟨rfl, hh⟩ := hq
        subst hh
        refine E_store rfl rfl rfl ?_
        refine E_load rfl rfl rfl ?_
        refine E_load rfl rfl rfl ?_
        refine E_const rfl ?_
        refine E_sub rfl ?_
        refine E_bit (z := (((i - 2 ^ lwN i) : Nat) : Int)) rfl rfl ((rst0 ⟨i, by omega⟩).trans (if_neg h0)) ?_
        refine E_store rfl rfl rfl ?_
        refine E_load rfl rfl rfl ?_
        refine E_getr (c := 11) (r := 25) rfl (hL.lt 0 rfl) (hL.k 0 rfl) rfl (hR.C.g 0 8 25 (by decide)) ?_
        refine E_load rfl rfl rfl ?_
        refine E_const rfl ?_
        refine E_V2 (q := 25) (c := 8) (y := 60) rfl rfl (hL.lt 25 rfl) (hL.k 25 rfl) rfl rfl rfl rfl (s_atv (v := mpS s (s 29).toNat 0 (i - 2 ^ lwN i)) (sh25 hL hR.C) (by decide) (by decide) (by omega) (by omega) (by rw [hT.1]; omega) (by rw [hT.1]; omega) (tab_at hT (by omega))) (fun r h2 hq => ?_)
        obtain ⟨rfl, hh⟩ := hq
        subst hh
        refine E_store rfl rfl rfl ?_
        refine E_load rfl rfl rfl ?_
        refine E_const rfl ?_
        refine E_add rfl ?_
        refine E_store rfl rfl rfl ?_
        refine Cl_cntB hL hR hG hSd hT (by omega) h0 (fun v6 => ?_) _ 0 (Nat.zero_add _) _ (mp_set (s := s) (N := (s 29).toNat) (by omega) hi64 h0 (lw_lt n29 (by omega) h0)).2.1
        refine Cl_cntE hL hR hG hSd hT (by omega) rfl (fun c2 hR2 hS2 hT2 e2 => ?_)
        refine (ih (i + 1) (by omega) _ _ _ _ c2 hR2 hS2 hT2).mono ?_
        rintro r hE ⟨e1, c9, e4, e5, e6⟩
        exact ⟨e1, c9, e4, e5, EqP.trans e2 e6⟩
set_option maxHeartbeats 4000000 in
set_option maxRecDepth 100000 in
theorem c_count {d : Nat} {h : Hp} {c : Nat → Nat → Int} {B : Nat → Nat} {s im : Nat → Int} {hi : Int} {L : List Int} (hL : Lay h) (hR : RepC h c B s im hi L) (hG : InvG s) (hSd : SaidR c s) : Ok (d + 5) 131 [(1, ((0 : Nat) : Int)), (0, (fuN s : Int))] (wC h c) (fun r h2 => r = none ∧ ∃ c2, h2 = wC h c2 ∧ TabR c2 s (fuN s + 1) ∧ EqP (fun a k => (a = 25 ∧ k = 3) ∨ a = 26) c c2) := by
  show Ex _ none t_X10_countPairs 0 0 _ [] (wC h c) _
  have hGG := hG
  obtain ⟨hI, hH, ⟨⟨n29, n30, n31, n32, n33, n34, n36⟩, nM⟩⟩ := hGG
  refine E_load rfl rfl rfl ?_
  refine E_getr (c := 11) (r := 25) rfl (hL.lt 0 rfl) (hL.k 0 rfl) rfl (hR.C.g 0 8 25 (by decide)) ?_
  refine E_V0 (q := 25) (c := 8) (y := 62) rfl rfl (hL.lt 25 rfl) (hL.k 25 rfl) rfl rfl rfl rfl (s_clear (sh25 hL hR.C) (by decide) (by decide)) (fun r h2 hq => ?_)
  obtain ⟨rfl, c_1, hh, hc_1⟩ := hq
  subst hh
  have hE_1 : EqP (fun a k => (a = 25 ∧ k = 3) ∨ a = 26) c c_1 := by rw [hc_1]; exact EqP.up (by omega)
  have hR_1 := hR.scr (hE_1.mono (fun a k e => Or.inl (by unfold fixS; omega)))
  refine E_const rfl ?_
  refine E_store rfl rfl rfl ?_
  refine (Cl_cntA hL hG _ 0 (Nat.zero_add _) _ _ _ _ c_1 hR_1 (hSd.of (hE_1 22 3 (by omega)) (funext fun k => hE_1 23 k (by omega))) ⟨by rw [hc_1]; exact up2_same, fun y hy => absurd hy (Nat.not_lt_zero y)⟩).mono ?_
  rintro r hE ⟨e1, c9, e2, e4, e3⟩
  exact ⟨e1, c9, e2, e4, EqP.trans hE_1 e3⟩
