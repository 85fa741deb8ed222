set_option maxHeartbeats 4000000 in
set_option maxRecDepth 100000 in
theorem n_much2 {h : Hp} {c : Nat → Nat → Int} {s g : Nat → Int} {act n k D : Nat} {l : List CLA} (hL : Lay h) (hE : Ends g n) (hact : act ≤ 4) (hR : RS c s act n k 0 0) (hT : TpR s g n) (hk : k ≤ n) (hCu : CuR s act l) (hl : (stepsC l).length ≤ k) : Ok (D + 21) 159 [(1, ((43 : Nat) : Int)), (0, -10), (1, -16)] (wC h c) (ClQ h c s act n l (pMuch g 2 (pSpell g [111, 102, 116, 101, 110, 32] k))) := by
  show Ex _ none t_X11_much 0 0 _ [] (wC h c) _
  have hn := hE.1
  have hsp := pSpell_in hE [111, 102, 116, 101, 110, 32] k (by decide) hk
  have hnu := pNum_in hE (k := (pSpell g [111, 102, 116, 101, 110, 32] k).2) hsp.1.2
  have hlt := fun z => hE.lt (k := (pNum g (pSpell g [111, 102, 116, 101, 110, 32] k).2).2.1) z
  have hSome : ItOK h g act n (D + 20) 158 0 (pSome g 5) := n_someR hL hE hact 5 D _ (by omega) (by omega)
  obtain ⟨hM, hs, f5, f6, f7, f8, f9⟩ := hR
  refine E_load rfl rfl rfl ?_
  refine E_load rfl rfl rfl ?_
  refine E_V1 (q := 43) (c := 12) (y := 152) rfl rfl (hL.lt 43 rfl) (hL.k 43 rfl) rfl rfl rfl rfl (n_spell0 (kt := 6) (W := [111, 102, 116, 101, 110, 32]) hL ⟨hM, hs, f5, f6, f7, f8, f9⟩ hE hT hk (by decide) (by decide) rfl) (fun r h2 hq => ?_)
  obtain ⟨rfl, c_1, hh, hQ_1, hE_1⟩ := hq
  subst hh
  obtain ⟨hM_1, hs_1, hf5_1, hf6_1, hf7_1, hf8_1, hf9_1⟩ := hQ_1
  rcases Bool.eq_false_or_eq_true ((pSpell g [111, 102, 116, 101, 110, 32] k).1) with hb1 | hb1
  · rw [if_pos hb1] at hf8_1
    refine E_load rfl rfl rfl ?_
    refine E_V0 (q := 43) (c := 12) (y := 153) rfl rfl (hL.lt 43 rfl) (hL.k 43 rfl) rfl rfl rfl rfl (n_fig0 (k := (pSpell g [111, 102, 116, 101, 110, 32] k).2) hL ⟨hM_1, hs_1, hf5_1, hf6_1, hf7_1, hf8_1, hf9_1⟩ hE hT (by omega)) (fun r h2 hq => ?_)
    obtain ⟨rfl, c_2, hh, hQ_2, hE_2⟩ := hq
    subst hh
    obtain ⟨hM_2, hs_2, hf5_2, hf6_2, hf7_2, hf8_2, hf9_2⟩ := hQ_2
    refine E_store rfl rfl rfl ?_
    rcases Bool.eq_false_or_eq_true ((pNum g (pSpell g [111, 102, 116, 101, 110, 32] k).2).1) with hb2 | hb2
    · rw [if_pos hb2] at hf8_2
      refine E_load rfl rfl rfl ?_
      refine E_const rfl ?_
      refine E_V1 (q := 43) (c := 12) (y := 151) rfl rfl (hL.lt 43 rfl) (hL.k 43 rfl) rfl rfl rfl rfl (n_must0 (k := (pNum g (pSpell g [111, 102, 116, 101, 110, 32] k).2).2.1) hL ⟨hM_2, hs_2, hf5_2, hf6_2, hf7_2, hf8_2, hf9_2⟩ hE hT hnu.1.2 (by decide)) (fun r h2 hq => ?_)
      obtain ⟨rfl, c_3, hh, hQ_3, hE_3⟩ := hq
      subst hh
      obtain ⟨hM_3, hs_3, hf5_3, hf6_3, hf7_3, hf8_3, hf9_3⟩ := hQ_3
      by_cases h32 : g (pNum g (pSpell g [111, 102, 116, 101, 110, 32] k).2).2.1 = 32
      · rw [if_pos h32] at hf6_3 hf8_3
        refine E_load rfl rfl rfl ?_
        refine E_V0 (q := 43) (c := 12) (y := 158) rfl rfl (hL.lt 43 rfl) (hL.k 43 rfl) rfl rfl rfl rfl (hSome ((pNum g (pSpell g [111, 102, 116, 101, 110, 32] k).2).2.1 + 1) s (stepsC l) c_3 (hlt (by omega)) (by omega) ⟨hM_3, hs_3, hf5_3, hf6_3, hf7_3, hf8_3, hf9_3⟩ hT hCu.1) (fun r h2 hq => ?_)
        obtain ⟨rfl, c_4, s_4, hh, hQ_4, hG_4, hS_4, hE_4⟩ := hq
        subst hh
        obtain ⟨hM_4, hs_4, hf5_4, hf6_4, hf7_4, hf8_4, hf9_4⟩ := hQ_4
        have hw := pSome_wf hE 5 ((pNum g (pSpell g [111, 102, 116, 101, 110, 32] k).2).2.1 + 1) (hlt (by omega))
        rcases Bool.eq_false_or_eq_true ((pSome g 5 ((pNum g (pSpell g [111, 102, 116, 101, 110, 32] k).2).2.1 + 1)).1) with hb | hb
        · rw [if_pos hb] at hf8_4
          have hw3 := hw.2 hb
          have hw4 := hw.1.2
          refine E_load rfl rfl rfl ?_
          refine E_load rfl rfl rfl ?_
          refine E_load rfl rfl rfl ?_
          refine E_sub rfl ?_
          refine E_V1 (q := 43) (c := 12) (y := 155) rfl rfl (hL.lt 43 rfl) (hL.k 43 rfl) rfl rfl rfl rfl (n_emits (k := (pSome g 5 ((pNum g (pSpell g [111, 102, 116, 101, 110, 32] k).2).2.1 + 1)).2.1) hL ⟨hM_4, hs_4, hf5_4, hf6_4, hf7_4, hf8_4, hf9_4⟩ hact (hS_4 hb) (by rw [List.length_append, List.length_map]; omega)) (fun r h2 hq => ?_)
          obtain ⟨rfl, c_5, s_5, hh, hQ_5, hG_5, hS_5, hE_5⟩ := hq
          subst hh
          obtain ⟨hM_5, hs_5, hf5_5, hf6_5, hf7_5, hf8_5, hf9_5⟩ := hQ_5
          refine E_vret rfl ?_
          rw [show pMuch g 2 (pSpell g [111, 102, 116, 101, 110, 32] k) = (true, (pSome g 5 ((pNum g (pSpell g [111, 102, 116, 101, 110, 32] k).2).2.1 + 1)).2.1, (2, (pNum g (pSpell g [111, 102, 116, 101, 110, 32] k).2).2.2, (pSome g 5 ((pNum g (pSpell g [111, 102, 116, 101, 110, 32] k).2).2.1 + 1)).2.2)) from (if_pos ⟨hb1, hb2, h32⟩).trans (by rw [hb])]
          exact ClQ.yes ⟨hM_5, hs_5, hf5_5, hf6_5, hf7_5, hf8_5, hf9_5⟩ (hG_4.trans hG_5).h (hCu.more hact (Or.inl rfl) (hG_4.trans hG_5) hS_5) (hE_1.trans (hE_2.trans (hE_3.trans (hE_4.trans hE_5))))
        · rw [if_neg (by rw [hb]; decide)] at hf8_4
          refine E_load rfl rfl rfl ?_
          refine E_load rfl rfl rfl ?_
          refine E_load rfl rfl rfl ?_
          refine E_sub rfl ?_
          refine E_V1 (q := 43) (c := 12) (y := 155) rfl rfl (hL.lt 43 rfl) (hL.k 43 rfl) rfl rfl rfl rfl (n_emitsW (k := (pSome g 5 ((pNum g (pSpell g [111, 102, 116, 101, 110, 32] k).2).2.1 + 1)).2.1) hL ⟨hM_4, hs_4, hf5_4, hf6_4, hf7_4, hf8_4, hf9_4⟩) (fun r h2 hq => ?_)
          obtain ⟨rfl, c_5, hh, hQ_5, hE_5⟩ := hq
          subst hh
          obtain ⟨hM_5, hs_5, hf5_5, hf6_5, hf7_5, hf8_5, hf9_5⟩ := hQ_5
          refine E_vret rfl ?_
          rw [show pMuch g 2 (pSpell g [111, 102, 116, 101, 110, 32] k) = (false, (pSome g 5 ((pNum g (pSpell g [111, 102, 116, 101, 110, 32] k).2).2.1 + 1)).2.1, (2, (pNum g (pSpell g [111, 102, 116, 101, 110, 32] k).2).2.2, (pSome g 5 ((pNum g (pSpell g [111, 102, 116, 101, 110, 32] k).2).2.1 + 1)).2.2)) from (if_pos ⟨hb1, hb2, h32⟩).trans (by rw [hb])]
          exact ClQ.no ⟨hM_5, hs_5, hf5_5, hf6_5, hf7_5, hf8_5, hf9_5⟩ hG_4.h (hE_1.trans (hE_2.trans (hE_3.trans (hE_4.trans hE_5))))
      · rw [if_neg h32] at hf6_3 hf8_3
        refine E_load rfl rfl rfl ?_
        refine E_V0 (q := 43) (c := 12) (y := 158) rfl rfl (hL.lt 43 rfl) (hL.k 43 rfl) rfl rfl rfl rfl (n_someW (k := (pNum g (pSpell g [111, 102, 116, 101, 110, 32] k).2).2.1) hL ⟨hM_3, hs_3, hf5_3, hf6_3, hf7_3, hf8_3, hf9_3⟩) (fun r h2 hq => ?_)
        obtain ⟨rfl, c_4, hh, hQ_4, hE_4⟩ := hq
        subst hh
        obtain ⟨hM_4, hs_4, hf5_4, hf6_4, hf7_4, hf8_4, hf9_4⟩ := hQ_4
        refine E_load rfl rfl rfl ?_
        refine E_load rfl rfl rfl ?_
        refine E_load rfl rfl rfl ?_
        refine E_sub rfl ?_
        refine E_V1 (q := 43) (c := 12) (y := 155) rfl rfl (hL.lt 43 rfl) (hL.k 43 rfl) rfl rfl rfl rfl (n_emitsW (k := (pNum g (pSpell g [111, 102, 116, 101, 110, 32] k).2).2.1) hL ⟨hM_4, hs_4, hf5_4, hf6_4, hf7_4, hf8_4, hf9_4⟩) (fun r h2 hq => ?_)
        obtain ⟨rfl, c_5, hh, hQ_5, hE_5⟩ := hq
        subst hh
        obtain ⟨hM_5, hs_5, hf5_5, hf6_5, hf7_5, hf8_5, hf9_5⟩ := hQ_5
        refine E_vret rfl ?_
        rw [show pMuch g 2 (pSpell g [111, 102, 116, 101, 110, 32] k) = (false, (pNum g (pSpell g [111, 102, 116, 101, 110, 32] k).2).2.1, (0, 0, [])) from (if_neg (fun z => h32 z.2.2)).trans (by rw [if_pos hb1])]
        exact ClQ.no ⟨hM_5, hs_5, hf5_5, hf6_5, hf7_5, hf8_5, hf9_5⟩ Rh.nil (hE_1.trans (hE_2.trans (hE_3.trans (hE_4.trans hE_5))))
    · rw [if_neg (by rw [hb2]; decide)] at hf8_2
      refine E_load rfl rfl rfl ?_
      refine E_const rfl ?_
      refine E_V1 (q := 43) (c := 12) (y := 151) rfl rfl (hL.lt 43 rfl) (hL.k 43 rfl) rfl rfl rfl rfl (n_mustW (k := (pNum g (pSpell g [111, 102, 116, 101, 110, 32] k).2).2.1) hL ⟨hM_2, hs_2, hf5_2, hf6_2, hf7_2, hf8_2, hf9_2⟩) (fun r h2 hq => ?_)
      obtain ⟨rfl, c_3, hh, hQ_3, hE_3⟩ := hq
      subst hh
      obtain ⟨hM_3, hs_3, hf5_3, hf6_3, hf7_3, hf8_3, hf9_3⟩ := hQ_3
      refine E_load rfl rfl rfl ?_
      refine E_V0 (q := 43) (c := 12) (y := 158) rfl rfl (hL.lt 43 rfl) (hL.k 43 rfl) rfl rfl rfl rfl (n_someW (k := (pNum g (pSpell g [111, 102, 116, 101, 110, 32] k).2).2.1) hL ⟨hM_3, hs_3, hf5_3, hf6_3, hf7_3, hf8_3, hf9_3⟩) (fun r h2 hq => ?_)
      obtain ⟨rfl, c_4, hh, hQ_4, hE_4⟩ := hq
      subst hh
      obtain ⟨hM_4, hs_4, hf5_4, hf6_4, hf7_4, hf8_4, hf9_4⟩ := hQ_4
      refine E_load rfl rfl rfl ?_
      refine E_load rfl rfl rfl ?_
      refine E_load rfl rfl rfl ?_
      refine E_sub rfl ?_
      refine E_V1 (q := 43) (c := 12) (y := 155) rfl rfl (hL.lt 43 rfl) (hL.k 43 rfl) rfl rfl rfl rfl (n_emitsW (k := (pNum g (pSpell g [111, 102, 116, 101, 110, 32] k).2).2.1) hL ⟨hM_4, hs_4, hf5_4, hf6_4, hf7_4, hf8_4, hf9_4⟩) (fun r h2 hq => ?_)
      obtain ⟨rfl, c_5, hh, hQ_5, hE_5⟩ := hq
      subst hh
      obtain ⟨hM_5, hs_5, hf5_5, hf6_5, hf7_5, hf8_5, hf9_5⟩ := hQ_5
      refine E_vret rfl ?_
      rw [show pMuch g 2 (pSpell g [111, 102, 116, 101, 110, 32] k) = (false, (pNum g (pSpell g [111, 102, 116, 101, 110, 32] k).2).2.1, (0, 0, [])) from (if_neg (fun z => by have z2 := z.2.1; rw [hb2] at z2; exact absurd z2 (by decide))).trans (by rw [if_pos hb1])]
      exact ClQ.no ⟨hM_5, hs_5, hf5_5, hf6_5, hf7_5, hf8_5, hf9_5⟩ Rh.nil (hE_1.trans (hE_2.trans (hE_3.trans (hE_4.trans hE_5))))
  · rw [if_neg (by rw [hb1]; decide)] at hf8_1
    refine E_load rfl rfl rfl ?_
    refine E_V0 (q := 43) (c := 12) (y := 153) rfl rfl (hL.lt 43 rfl) (hL.k 43 rfl) rfl rfl rfl rfl (n_fig1 (k := (pSpell g [111, 102, 116, 101, 110, 32] k).2) hL ⟨hM_1, hs_1, hf5_1, hf6_1, hf7_1, hf8_1, hf9_1⟩ hE hT (by omega)) (fun r h2 hq => ?_)
    obtain ⟨rfl, c_2, hh, hQ_2, hE_2⟩ := hq
    subst hh
    obtain ⟨hM_2, hs_2, hf5_2, hf6_2, hf7_2, hf8_2, hf9_2⟩ := hQ_2
    refine E_store rfl rfl rfl ?_
    refine E_load rfl rfl rfl ?_
    refine E_const rfl ?_
    refine E_V1 (q := 43) (c := 12) (y := 151) rfl rfl (hL.lt 43 rfl) (hL.k 43 rfl) rfl rfl rfl rfl (n_mustW (k := (pSpell g [111, 102, 116, 101, 110, 32] k).2) hL ⟨hM_2, hs_2, hf5_2, hf6_2, hf7_2, hf8_2, hf9_2⟩) (fun r h2 hq => ?_)
    obtain ⟨rfl, c_3, hh, hQ_3, hE_3⟩ := hq
    subst hh
    obtain ⟨hM_3, hs_3, hf5_3, hf6_3, hf7_3, hf8_3, hf9_3⟩ := hQ_3
    refine E_load rfl rfl rfl ?_
    refine E_V0 (q := 43) (c := 12) (y := 158) rfl rfl (hL.lt 43 rfl) (hL.k 43 rfl) rfl rfl rfl rfl (n_someW (k := (pSpell g [111, 102, 116, 101, 110, 32] k).2) hL ⟨hM_3, hs_3, hf5_3, hf6_3, hf7_3, hf8_3, hf9_3⟩) (fun r h2 hq => ?_)
    obtain ⟨rfl, c_4, hh, hQ_4, hE_4⟩ := hq
    subst hh
    obtain ⟨hM_4, hs_4, hf5_4, hf6_4, hf7_4, hf8_4, hf9_4⟩ := hQ_4
    refine E_load rfl rfl rfl ?_
    refine E_load rfl rfl rfl ?_
    refine E_load rfl rfl rfl ?_
    refine E_sub rfl ?_
    refine E_V1 (q := 43) (c := 12) (y := 155) rfl rfl (hL.lt 43 rfl) (hL.k 43 rfl) rfl rfl rfl rfl (n_emitsW (k := (pSpell g [111, 102, 116, 101, 110, 32] k).2) hL ⟨hM_4, hs_4, hf5_4, hf6_4, hf7_4, hf8_4, hf9_4⟩) (fun r h2 hq => ?_)
    obtain ⟨rfl, c_5, hh, hQ_5, hE_5⟩ := hq
    subst hh
    obtain ⟨hM_5, hs_5, hf5_5, hf6_5, hf7_5, hf8_5, hf9_5⟩ := hQ_5
    refine E_vret rfl ?_
    rw [show pMuch g 2 (pSpell g [111, 102, 116, 101, 110, 32] k) = (false, (pSpell g [111, 102, 116, 101, 110, 32] k).2, (0, 0, [])) from (if_neg (fun z => by have z1 := z.1; rw [hb1] at z1; exact absurd z1 (by decide))).trans (by rw [if_neg (by rw [hb1]; decide)])]
    exact ClQ.no ⟨hM_5, hs_5, hf5_5, hf6_5, hf7_5, hf8_5, hf9_5⟩ Rh.nil (hE_1.trans (hE_2.trans (hE_3.trans (hE_4.trans hE_5))))
set_option maxHeartbeats 4000000 in
set_option maxRecDepth 100000 in
theorem n_much3 {h : Hp} {c : Nat → Nat → Int} {s g : Nat → Int} {act n k D : Nat} {l : List CLA} (hL : Lay h) (hE : Ends g n) (hact : act ≤ 4) (hR : RS c s act n k 0 0) (hT : TpR s g n) (hk : k ≤ n) (hCu : CuR s act l) (hl : (stepsC l).length ≤ k) : Ok (D + 21) 159 [(1, ((43 : Nat) : Int)), (0, -200), (1, -19)] (wC h c) (ClQ h c s act n l (pMuch g 3 (pSpell g [104, 97, 114, 112, 101, 110, 32] k))) := by
  show Ex _ none t_X11_much 0 0 _ [] (wC h c) _
  have hn := hE.1
  have hsp := pSpell_in hE [104, 97, 114, 112, 101, 110, 32] k (by decide) hk
  have hnu := pNum_in hE (k := (pSpell g [104, 97, 114, 112, 101, 110, 32] k).2) hsp.1.2
  have hlt := fun z => hE.lt (k := (pNum g (pSpell g [104, 97, 114, 112, 101, 110, 32] k).2).2.1) z
  have hSome : ItOK h g act n (D + 20) 158 0 (pSome g 5) := n_someR hL hE hact 5 D _ (by omega) (by omega)
  obtain ⟨hM, hs, f5, f6, f7, f8, f9⟩ := hR
  refine E_load rfl rfl rfl ?_
  refine E_load rfl rfl rfl ?_
  refine E_V1 (q := 43) (c := 12) (y := 152) rfl rfl (hL.lt 43 rfl) (hL.k 43 rfl) rfl rfl rfl rfl (n_spell0 (kt := 9) (W := [104, 97, 114, 112, 101, 110, 32]) hL ⟨hM, hs, f5, f6, f7, f8, f9⟩ hE hT hk (by decide) (by decide) rfl) (fun r h2 hq => ?_)
  obtain ⟨rfl, c_1, hh, hQ_1, hE_1⟩ := hq
  subst hh
  obtain ⟨hM_1, hs_1, hf5_1, hf6_1, hf7_1, hf8_1, hf9_1⟩ := hQ_1
  rcases Bool.eq_false_or_eq_true ((pSpell g [104, 97, 114, 112, 101, 110, 32] k).1) with hb1 | hb1
  · rw [if_pos hb1] at hf8_1
    refine E_load rfl rfl rfl ?_
    refine E_V0 (q := 43) (c := 12) (y := 153) rfl rfl (hL.lt 43 rfl) (hL.k 43 rfl) rfl rfl rfl rfl (n_fig0 (k := (pSpell g [104, 97, 114, 112, 101, 110, 32] k).2) hL ⟨hM_1, hs_1, hf5_1, hf6_1, hf7_1, hf8_1, hf9_1⟩ hE hT (by omega)) (fun r h2 hq => ?_)
    obtain ⟨rfl, c_2, hh, hQ_2, hE_2⟩ := hq
    subst hh
    obtain ⟨hM_2, hs_2, hf5_2, hf6_2, hf7_2, hf8_2, hf9_2⟩ := hQ_2
    refine E_store rfl rfl rfl ?_
    rcases Bool.eq_false_or_eq_true ((pNum g (pSpell g [104, 97, 114, 112, 101, 110, 32] k).2).1) with hb2 | hb2
    · rw [if_pos hb2] at hf8_2
      refine E_load rfl rfl rfl ?_
      refine E_const rfl ?_
      refine E_V1 (q := 43) (c := 12) (y := 151) rfl rfl (hL.lt 43 rfl) (hL.k 43 rfl) rfl rfl rfl rfl (n_must0 (k := (pNum g (pSpell g [104, 97, 114, 112, 101, 110, 32] k).2).2.1) hL ⟨hM_2, hs_2, hf5_2, hf6_2, hf7_2, hf8_2, hf9_2⟩ hE hT hnu.1.2 (by decide)) (fun r h2 hq => ?_)
      obtain ⟨rfl, c_3, hh, hQ_3, hE_3⟩ := hq
      subst hh
      obtain ⟨hM_3, hs_3, hf5_3, hf6_3, hf7_3, hf8_3, hf9_3⟩ := hQ_3
      by_cases h32 : g (pNum g (pSpell g [104, 97, 114, 112, 101, 110, 32] k).2).2.1 = 32
      · rw [if_pos h32] at hf6_3 hf8_3
        refine E_load rfl rfl rfl ?_
        refine E_V0 (q := 43) (c := 12) (y := 158) rfl rfl (hL.lt 43 rfl) (hL.k 43 rfl) rfl rfl rfl rfl (hSome ((pNum g (pSpell g [104, 97, 114, 112, 101, 110, 32] k).2).2.1 + 1) s (stepsC l) c_3 (hlt (by omega)) (by omega) ⟨hM_3, hs_3, hf5_3, hf6_3, hf7_3, hf8_3, hf9_3⟩ hT hCu.1) (fun r h2 hq => ?_)
        obtain ⟨rfl, c_4, s_4, hh, hQ_4, hG_4, hS_4, hE_4⟩ := hq
        subst hh
        obtain ⟨hM_4, hs_4, hf5_4, hf6_4, hf7_4, hf8_4, hf9_4⟩ := hQ_4
        have hw := pSome_wf hE 5 ((pNum g (pSpell g [104, 97, 114, 112, 101, 110, 32] k).2).2.1 + 1) (hlt (by omega))
        rcases Bool.eq_false_or_eq_true ((pSome g 5 ((pNum g (pSpell g [104, 97, 114, 112, 101, 110, 32] k).2).2.1 + 1)).1) with hb | hb
        · rw [if_pos hb] at hf8_4
          have hw3 := hw.2 hb
          have hw4 := hw.1.2
          refine E_load rfl rfl rfl ?_
          refine E_load rfl rfl rfl ?_
          refine E_load rfl rfl rfl ?_
          refine E_sub rfl ?_
          refine E_V1 (q := 43) (c := 12) (y := 155) rfl rfl (hL.lt 43 rfl) (hL.k 43 rfl) rfl rfl rfl rfl (n_emits (k := (pSome g 5 ((pNum g (pSpell g [104, 97, 114, 112, 101, 110, 32] k).2).2.1 + 1)).2.1) hL ⟨hM_4, hs_4, hf5_4, hf6_4, hf7_4, hf8_4, hf9_4⟩ hact (hS_4 hb) (by rw [List.length_append, List.length_map]; omega)) (fun r h2 hq => ?_)
          obtain ⟨rfl, c_5, s_5, hh, hQ_5, hG_5, hS_5, hE_5⟩ := hq
          subst hh
          obtain ⟨hM_5, hs_5, hf5_5, hf6_5, hf7_5, hf8_5, hf9_5⟩ := hQ_5
          refine E_vret rfl ?_
          rw [show pMuch g 3 (pSpell g [104, 97, 114, 112, 101, 110, 32] k) = (true, (pSome g 5 ((pNum g (pSpell g [104, 97, 114, 112, 101, 110, 32] k).2).2.1 + 1)).2.1, (3, (pNum g (pSpell g [104, 97, 114, 112, 101, 110, 32] k).2).2.2, (pSome g 5 ((pNum g (pSpell g [104, 97, 114, 112, 101, 110, 32] k).2).2.1 + 1)).2.2)) from (if_pos ⟨hb1, hb2, h32⟩).trans (by rw [hb])]
          exact ClQ.yes ⟨hM_5, hs_5, hf5_5, hf6_5, hf7_5, hf8_5, hf9_5⟩ (hG_4.trans hG_5).h (hCu.more hact (Or.inr rfl) (hG_4.trans hG_5) hS_5) (hE_1.trans (hE_2.trans (hE_3.trans (hE_4.trans hE_5))))
        · rw [if_neg (by rw [hb]; decide)] at hf8_4
          refine E_load rfl rfl rfl ?_
          refine E_load rfl rfl rfl ?_
          refine E_load rfl rfl rfl ?_
          refine E_sub rfl ?_
          refine E_V1 (q := 43) (c := 12) (y := 155) rfl rfl (hL.lt 43 rfl) (hL.k 43 rfl) rfl rfl rfl rfl (n_emitsW (k := (pSome g 5 ((pNum g (pSpell g [104, 97, 114, 112, 101, 110, 32] k).2).2.1 + 1)).2.1) hL ⟨hM_4, hs_4, hf5_4, hf6_4, hf7_4, hf8_4, hf9_4⟩) (fun r h2 hq => ?_)
          obtain ⟨rfl, c_5, hh, hQ_5, hE_5⟩ := hq
          subst hh
          obtain ⟨hM_5, hs_5, hf5_5, hf6_5, hf7_5, hf8_5, hf9_5⟩ := hQ_5
          refine E_vret rfl ?_
          rw [show pMuch g 3 (pSpell g [104, 97, 114, 112, 101, 110, 32] k) = (false, (pSome g 5 ((pNum g (pSpell g [104, 97, 114, 112, 101, 110, 32] k).2).2.1 + 1)).2.1, (3, (pNum g (pSpell g [104, 97, 114, 112, 101, 110, 32] k).2).2.2, (pSome g 5 ((pNum g (pSpell g [104, 97, 114, 112, 101, 110, 32] k).2).2.1 + 1)).2.2)) from (if_pos ⟨hb1, hb2, h32⟩).trans (by rw [hb])]
          exact ClQ.no ⟨hM_5, hs_5, hf5_5, hf6_5, hf7_5, hf8_5, hf9_5⟩ hG_4.h (hE_1.trans (hE_2.trans (hE_3.trans (hE_4.trans hE_5))))
      · rw [if_neg h32] at hf6_3 hf8_3
        refine E_load rfl rfl rfl ?_
        refine E_V0 (q := 43) (c := 12) (y := 158) rfl rfl (hL.lt 43 rfl) (hL.k 43 rfl) rfl rfl rfl rfl (n_someW (k := (pNum g (pSpell g [104, 97, 114, 112, 101, 110, 32] k).2).2.1) hL ⟨hM_3, hs_3, hf5_3, hf6_3, hf7_3, hf8_3, hf9_3⟩) (fun r h2 hq => ?_)
        obtain ⟨rfl, c_4, hh, hQ_4, hE_4⟩ := hq
        subst hh
        obtain ⟨hM_4, hs_4, hf5_4, hf6_4, hf7_4, hf8_4, hf9_4⟩ := hQ_4
        refine E_load rfl rfl rfl ?_
        refine E_load rfl rfl rfl ?_
        refine E_load rfl rfl rfl ?_
        refine E_sub rfl ?_
        refine E_V1 (q := 43) (c := 12) (y := 155) rfl rfl (hL.lt 43 rfl) (hL.k 43 rfl) rfl rfl rfl rfl (n_emitsW (k := (pNum g (pSpell g [104, 97, 114, 112, 101, 110, 32] k).2).2.1) hL ⟨hM_4, hs_4, hf5_4, hf6_4, hf7_4, hf8_4, hf9_4⟩) (fun r h2 hq => ?_)
        obtain ⟨rfl, c_5, hh, hQ_5, hE_5⟩ := hq
        subst hh
        obtain ⟨hM_5, hs_5, hf5_5, hf6_5, hf7_5, hf8_5, hf9_5⟩ := hQ_5
        refine E_vret rfl ?_
        rw [show pMuch g 3 (pSpell g [104, 97, 114, 112, 101, 110, 32] k) = (false, (pNum g (pSpell g [104, 97, 114, 112, 101, 110, 32] k).2).2.1, (0, 0, [])) from (if_neg (fun z => h32 z.2.2)).trans (by rw [if_pos hb1])]
        exact ClQ.no ⟨hM_5, hs_5, hf5_5, hf6_5, hf7_5, hf8_5, hf9_5⟩ Rh.nil (hE_1.trans (hE_2.trans (hE_3.trans (hE_4.trans hE_5))))
    · rw [if_neg (by rw [hb2]; decide)] at hf8_2
      refine E_load rfl rfl rfl ?_
      refine E_const rfl ?_
      refine E_V1 (q := 43) (c := 12) (y := 151) rfl rfl (hL.lt 43 rfl) (hL.k 43 rfl) rfl rfl rfl rfl (n_mustW (k := (pNum g (pSpell g [104, 97, 114, 112, 101, 110, 32] k).2).2.1) hL ⟨hM_2, hs_2, hf5_2, hf6_2, hf7_2, hf8_2, hf9_2⟩) (fun r h2 hq => ?_)
      obtain ⟨rfl, c_3, hh, hQ_3, hE_3⟩ := hq
      subst hh
      obtain ⟨hM_3, hs_3, hf5_3, hf6_3, hf7_3, hf8_3, hf9_3⟩ := hQ_3
      refine E_load rfl rfl rfl ?_
      refine E_V0 (q := 43) (c := 12) (y := 158) rfl rfl (hL.lt 43 rfl) (hL.k 43 rfl) rfl rfl rfl rfl (n_someW (k := (pNum g (pSpell g [104, 97, 114, 112, 101, 110, 32] k).2).2.1) hL ⟨hM_3, hs_3, hf5_3, hf6_3, hf7_3, hf8_3, hf9_3⟩) (fun r h2 hq => ?_)
      obtain ⟨rfl, c_4, hh, hQ_4, hE_4⟩ := hq
      subst hh
      obtain ⟨hM_4, hs_4, hf5_4, hf6_4, hf7_4, hf8_4, hf9_4⟩ := hQ_4
      refine E_load rfl rfl rfl ?_
      refine E_load rfl rfl rfl ?_
      refine E_load rfl rfl rfl ?_
      refine E_sub rfl ?_
      refine E_V1 (q := 43) (c := 12) (y := 155) rfl rfl (hL.lt 43 rfl) (hL.k 43 rfl) rfl rfl rfl rfl (n_emitsW (k := (pNum g (pSpell g [104, 97, 114, 112, 101, 110, 32] k).2).2.1) hL ⟨hM_4, hs_4, hf5_4, hf6_4, hf7_4, hf8_4, hf9_4⟩) (fun r h2 hq => ?_)
      obtain ⟨rfl, c_5, hh, hQ_5, hE_5⟩ := hq
      subst hh
      obtain ⟨hM_5, hs_5, hf5_5, hf6_5, hf7_5, hf8_5, hf9_5⟩ := hQ_5
      refine E_vret rfl ?_
      rw [show pMuch g 3 (pSpell g [104, 97, 114, 112, 101, 110, 32] k) = (false, (pNum g (pSpell g [104, 97, 114, 112, 101, 110, 32] k).2).2.1, (0, 0, [])) from (if_neg (fun z => by have z2 := z.2.1; rw [hb2] at z2; exact absurd z2 (by decide))).trans (by rw [if_pos hb1])]
      exact ClQ.no ⟨hM_5, hs_5, hf5_5, hf6_5, hf7_5, hf8_5, hf9_5⟩ Rh.nil (hE_1.trans (hE_2.trans (hE_3.trans (hE_4.trans hE_5))))
  · rw [if_neg (by rw [hb1]; decide)] at hf8_1
    refine E_load rfl rfl rfl ?_
    refine E_V0 (q := 43) (c := 12) (y := 153) rfl rfl (hL.lt 43 rfl) (hL.k 43 rfl) rfl rfl rfl rfl (n_fig1 (k := (pSpell g [104, 97, 114, 112, 101, 110, 32] k).2) hL ⟨hM_1, hs_1, hf5_1, hf6_1, hf7_1, hf8_1, hf9_1⟩ hE hT (by omega)) (fun r h2 hq => ?_)
    obtain ⟨rfl, c_2, hh, hQ_2, hE_2⟩ := hq
    subst hh
    obtain ⟨hM_2, hs_2, hf5_2, hf6_2, hf7_2, hf8_2, hf9_2⟩ := hQ_2
    refine E_store rfl rfl rfl ?_
    refine E_load rfl rfl rfl ?_
    refine E_const rfl ?_
    refine E_V1 (q := 43) (c := 12) (y := 151) rfl rfl (hL.lt 43 rfl) (hL.k 43 rfl) rfl rfl rfl rfl (n_mustW (k := (pSpell g [104, 97, 114, 112, 101, 110, 32] k).2) hL ⟨hM_2, hs_2, hf5_2, hf6_2, hf7_2, hf8_2, hf9_2⟩) (fun r h2 hq => ?_)
    obtain ⟨rfl, c_3, hh, hQ_3, hE_3⟩ := hq
    subst hh
    obtain ⟨hM_3, hs_3, hf5_3, hf6_3, hf7_3, hf8_3, hf9_3⟩ := hQ_3
    refine E_load rfl rfl rfl ?_
    refine E_V0 (q := 43) (c := 12) (y := 158) rfl rfl (hL.lt 43 rfl) (hL.k 43 rfl) rfl rfl rfl rfl (n_someW (k := (pSpell g [104, 97, 114, 112, 101, 110, 32] k).2) hL ⟨hM_3, hs_3, hf5_3, hf6_3, hf7_3, hf8_3, hf9_3⟩) (fun r h2 hq => ?_)
    obtain ⟨rfl, c_4, hh, hQ_4, hE_4⟩ := hq
    subst hh
    obtain ⟨hM_4, hs_4, hf5_4, hf6_4, hf7_4, hf8_4, hf9_4⟩ := hQ_4
    refine E_load rfl rfl rfl ?_
    refine E_load rfl rfl rfl ?_
    refine E_load rfl rfl rfl ?_
    refine E_sub rfl ?_
    refine E_V1 (q := 43) (c := 12) (y := 155) rfl rfl (hL.lt 43 rfl) (hL.k 43 rfl) rfl rfl rfl rfl (n_emitsW (k := (pSpell g [104, 97, 114, 112, 101, 110, 32] k).2) hL ⟨hM_4, hs_4, hf5_4, hf6_4, hf7_4, hf8_4, hf9_4⟩) (fun r h2 hq => ?_)
    obtain ⟨rfl, c_5, hh, hQ_5, hE_5⟩ := hq
    subst hh
    obtain ⟨hM_5, hs_5, hf5_5, hf6_5, hf7_5, hf8_5, hf9_5⟩ := hQ_5
    refine E_vret rfl ?_
    rw [show pMuch g 3 (pSpell g [104, 97, 114, 112, 101, 110, 32] k) = (false, (pSpell g [104, 97, 114, 112, 101, 110, 32] k).2, (0, 0, [])) from (if_neg (fun z => by have z1 := z.1; rw [hb1] at z1; exact absurd z1 (by decide))).trans (by rw [if_neg (by rw [hb1]; decide)])]
    exact ClQ.no ⟨hM_5, hs_5, hf5_5, hf6_5, hf7_5, hf8_5, hf9_5⟩ Rh.nil (hE_1.trans (hE_2.trans (hE_3.trans (hE_4.trans hE_5))))
