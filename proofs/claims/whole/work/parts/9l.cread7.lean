set_option maxHeartbeats 4000000 in
set_option maxRecDepth 100000 in
theorem c_clause {h : Hp} {c : Nat → Nat → Int} {g : Nat → Int} {n k D : Nat} {l : List CLA} (hL : Lay h) (hE : Ends g n) (hK : KS c g n k) (hk0 : k ≤ n) (hCl : ClF c l) (hP : PaR c (partsC l)) (hl : (partsC l).length ≤ k) (hl9 : l.length ≤ 9) : Ok (D + 20) 31 [(1, ((35 : Nat) : Int))] (wC h c) (KcQ h c g n l (pCla g k)) := by
  have hn := hE.1
  have hg := hE.2.2 k
  have hg1 := hE.2.2 (k + 1)
  have hlt := fun z => hE.lt (k := k) z
  have hSm : CtOK h g n (D + 19) 33 0 (pSome g 5) := c_someR hL hE 5 D _ (by omega) (by omega)
  obtain ⟨hC, hT, hk⟩ := hK
  show Ex _ none t_X1_readClause 3 0 _ [] (wC h c) _
  refine E_load rfl rfl rfl ?_
  refine E_const rfl ?_
  refine E_V1 (q := 35) (c := 2) (y := 39) rfl rfl (hL.lt 35 rfl) (hL.k 35 rfl) rfl rfl rfl rfl (c_takes (k := k) hL hE ⟨hC, hT, hk⟩ (by omega) (by omega)) (fun r h2 hq => ?_)
  obtain ⟨rfl, c_1, hh, hQ_1, hE_1⟩ := hq
  subst hh
  obtain ⟨hC_1, hT_1, hk_1⟩ := hQ_1
  have hP_1 : PaR c_1 (partsC l) := hP.of (hE_1 39 3 (by omega)) (funext fun j => hE_1 40 j (by omega))
  replace hE_1 : EqP FrQ c c_1 := hE_1.mono (fun a k e => by unfold FrQ; omega)
  refine E_if0 rfl (bI_R _) (fun q1 => ?_) (fun q1 => ?_)
  · replace q1 := bI_z q1
    have hh9 : ¬ g k = 99 := by assumption
    rw [if_neg hh9] at hk_1
    clear hh9
    refine E_load rfl rfl rfl ?_
    refine E_const rfl ?_
    refine E_V1 (q := 35) (c := 2) (y := 39) rfl rfl (hL.lt 35 rfl) (hL.k 35 rfl) rfl rfl rfl rfl (c_takes (k := k) hL hE ⟨hC_1, hT_1, hk_1⟩ (by omega) (by omega)) (fun r h2 hq => ?_)
    obtain ⟨rfl, c_2, hh, hQ_2, hE_2⟩ := hq
    subst hh
    obtain ⟨hC_2, hT_2, hk_2⟩ := hQ_2
    have hP_2 : PaR c_2 (partsC l) := hP_1.of (hE_2 39 3 (by omega)) (funext fun j => hE_2 40 j (by omega))
    replace hE_2 : EqP FrQ c_1 c_2 := hE_2.mono (fun a k e => by unfold FrQ; omega)
    refine E_if0 rfl (bI_R _) (fun q2 => ?_) (fun q2 => ?_)
    · replace q2 := bI_z q2
      have hh9 : ¬ g k = 112 := by assumption
      rw [if_neg hh9] at hk_2
      clear hh9
      refine E_load rfl rfl rfl ?_
      refine E_const rfl ?_
      refine E_V1 (q := 35) (c := 2) (y := 39) rfl rfl (hL.lt 35 rfl) (hL.k 35 rfl) rfl rfl rfl rfl (c_takes (k := k) hL hE ⟨hC_2, hT_2, hk_2⟩ (by omega) (by omega)) (fun r h2 hq => ?_)
      obtain ⟨rfl, c_3, hh, hQ_3, hE_3⟩ := hq
      subst hh
      obtain ⟨hC_3, hT_3, hk_3⟩ := hQ_3
      have hP_3 : PaR c_3 (partsC l) := hP_2.of (hE_3 39 3 (by omega)) (funext fun j => hE_3 40 j (by omega))
      replace hE_3 : EqP FrQ c_2 c_3 := hE_3.mono (fun a k e => by unfold FrQ; omega)
      refine E_if1 rfl (bI_R _) (fun q3 => ?_) (fun q3 => ?_)
      · replace q3 := bI_nz q3
        have hgk : g k = 115 := by assumption
        rw [if_pos hgk] at hk_3
        have hk1 := hlt (by omega)
        refine E_load rfl rfl rfl ?_
        refine E_getr (c := 2) (r := 1) rfl (hL.lt 35 rfl) (hL.k 35 rfl) rfl (hC_3.g 35 0 1 (by decide)) ?_
        refine E_load rfl rfl rfl ?_
        refine E_getf (c := 2) (v := (0, (((k + 1) : Nat) : Int))) rfl (hL.lt 35 rfl) (hL.k 35 rfl) rfl (fv (hk_3)) ?_
        refine E_const rfl ?_
        refine E_V2 (q := 1) (c := 8) (y := 60) rfl rfl (hL.lt 1 rfl) (hL.k 1 rfl) rfl rfl rfl rfl (s_atv (sh1 hL hC_3) (by decide) (by decide) (by omega) (by omega) (by rw [hT_3.1]; omega) (by rw [hT_3.1]; omega) (tp_at (k := k + 1) hE hT_3)) (fun r h2 hq => ?_)
        obtain ⟨rfl, hh⟩ := hq
        subst hh
        refine E_const rfl ?_
        refine E_cmp1 rfl (by omega) (fun q4 => ?_) (fun q4 => ?_)
        · have ho : ¬ g (k + 1) = 111 := by assumption
          have hsp := pSpell_in hE [104, 97, 114, 112, 101, 110, 32] (k + 1) (by decide) hk1
          have hnu := pNum_in hE (k := (pSpell g [104, 97, 114, 112, 101, 110, 32] (k + 1)).2) hsp.1.2
          refine E_const rfl ?_
          refine E_store rfl rfl rfl ?_
          refine E_load rfl rfl rfl ?_
          refine E_load rfl rfl rfl ?_
          refine E_const rfl ?_
          refine E_cmp1 rfl (by omega) (fun q5 => ?_) (fun q5 => ?_)
          · refine E_str rfl ?_
            refine E_V1 (q := 35) (c := 2) (y := 40) rfl rfl (hL.lt 35 rfl) (hL.k 35 rfl) rfl rfl rfl rfl (c_takesAll (kt := 3) (W := [104, 97, 114, 112, 101, 110, 32]) (k := k + 1) hL hE ⟨hC_3, hT_3, hk_3⟩ hk1 (by decide) (by decide) rfl) (fun r h2 hq => ?_)
            obtain ⟨rfl, c_4, hh, hQ_4, hE_4⟩ := hq
            subst hh
            obtain ⟨hC_4, hT_4, hk_4⟩ := hQ_4
            have hP_4 : PaR c_4 (partsC l) := hP_3.of (hE_4 39 3 (by omega)) (funext fun j => hE_4 40 j (by omega))
            replace hE_4 : EqP FrQ c_3 c_4 := hE_4.mono (fun a k e => by unfold FrQ; omega)
            refine E_if0 rfl (bI_R _) (fun q6 => ?_) (fun q6 => ?_)
            · replace q6 := bI_z q6
              refine E_const rfl ?_
              refine E_iret rfl (fun _ => by decide) ?_
              rw [show pCla g k = pMuch g 3 (pSpell g [104, 97, 114, 112, 101, 110, 32] (k + 1)) from by unfold pCla; rw [if_neg (by omega), if_neg (by omega), if_pos hgk, if_neg ho], show pMuch g 3 (pSpell g [104, 97, 114, 112, 101, 110, 32] (k + 1)) = (false, (pSpell g [104, 97, 114, 112, 101, 110, 32] (k + 1)).2, (0, 0, [])) from (if_neg (fun z => absurd z.1 (by assumption))).trans (by rw [if_neg (by assumption)])]
              exact KcQ.no ⟨hC_4, hT_4, hk_4⟩ (hE_1.trans (hE_2.trans (hE_3.trans hE_4)))
            · replace q6 := bI_nz q6
              have hsb : (pSpell g [104, 97, 114, 112, 101, 110, 32] (k + 1)).1 = true := by assumption
              refine E_load rfl rfl rfl ?_
              refine E_V0 (q := 35) (c := 2) (y := 38) rfl rfl (hL.lt 35 rfl) (hL.k 35 rfl) rfl rfl rfl rfl (c_num (k := (pSpell g [104, 97, 114, 112, 101, 110, 32] (k + 1)).2) hL hE ⟨hC_4, hT_4, hk_4⟩ hsp.1.2) (fun r h2 hq => ?_)
              obtain ⟨rfl, c_5, hh, hQ_5, hm0_5, hE_5⟩ := hq
              subst hh
              obtain ⟨hC_5, hT_5, hk_5⟩ := hQ_5
              have hP_5 : PaR c_5 (partsC l) := hP_4.of (hE_5 39 3 (by omega)) (funext fun j => hE_5 40 j (by omega))
              replace hE_5 : EqP FrQ c_4 c_5 := hE_5.mono (fun a k e => by unfold FrQ; omega)
              refine E_if1 rfl (bI_R _) (fun q7 => ?_) (fun q7 => ?_)
              · replace q7 := bI_nz q7
                have hnb : (pNum g (pSpell g [104, 97, 114, 112, 101, 110, 32] (k + 1)).2).1 = true := by assumption
                have hlt2 := fun z => hE.lt (k := (pNum g (pSpell g [104, 97, 114, 112, 101, 110, 32] (k + 1)).2).2.1) z
                have hg2 := hE.2.2 (pNum g (pSpell g [104, 97, 114, 112, 101, 110, 32] (k + 1)).2).2.1
                have hnu2 := hnu.1.2
                refine E_load rfl rfl rfl ?_
                refine E_getf (c := 2) (v := (0, (pNum g (pSpell g [104, 97, 114, 112, 101, 110, 32] (k + 1)).2).2.2)) rfl (hL.lt 35 rfl) (hL.k 35 rfl) rfl (fv (hm0_5 hnb)) ?_
                refine E_store rfl rfl rfl ?_
                refine E_load rfl rfl rfl ?_
                refine E_const rfl ?_
                refine E_V1 (q := 35) (c := 2) (y := 39) rfl rfl (hL.lt 35 rfl) (hL.k 35 rfl) rfl rfl rfl rfl (c_takes (k := (pNum g (pSpell g [104, 97, 114, 112, 101, 110, 32] (k + 1)).2).2.1) hL hE ⟨hC_5, hT_5, hk_5⟩ (by omega) (by omega)) (fun r h2 hq => ?_)
                obtain ⟨rfl, c_6, hh, hQ_6, hE_6⟩ := hq
                subst hh
                obtain ⟨hC_6, hT_6, hk_6⟩ := hQ_6
                have hP_6 : PaR c_6 (partsC l) := hP_5.of (hE_6 39 3 (by omega)) (funext fun j => hE_6 40 j (by omega))
                replace hE_6 : EqP FrQ c_5 c_6 := hE_6.mono (fun a k e => by unfold FrQ; omega)
                refine E_if0 rfl (bI_R _) (fun q8 => ?_) (fun q8 => ?_)
                · replace q8 := bI_z q8
                  refine E_const rfl ?_
                  refine E_iret rfl (fun _ => by decide) ?_
                  rw [show pCla g k = pMuch g 3 (pSpell g [104, 97, 114, 112, 101, 110, 32] (k + 1)) from by unfold pCla; rw [if_neg (by omega), if_neg (by omega), if_pos hgk, if_neg ho], show pMuch g 3 (pSpell g [104, 97, 114, 112, 101, 110, 32] (k + 1)) = (false, (pNum g (pSpell g [104, 97, 114, 112, 101, 110, 32] (k + 1)).2).2.1, (0, 0, [])) from (if_neg (fun z => absurd z.2.2 (by assumption))).trans (by rw [if_pos hsb])]
                  have hh9 : ¬ g (pNum g (pSpell g [104, 97, 114, 112, 101, 110, 32] (k + 1)).2).2.1 = 32 := by assumption
                  rw [if_neg hh9] at hk_6
                  exact KcQ.no ⟨hC_6, hT_6, hk_6⟩ (hE_1.trans (hE_2.trans (hE_3.trans (hE_4.trans (hE_5.trans hE_6)))))
                · replace q8 := bI_nz q8
                  have h32 : g (pNum g (pSpell g [104, 97, 114, 112, 101, 110, 32] (k + 1)).2).2.1 = 32 := by assumption
                  rw [if_pos h32] at hk_6
                  have hk2 := hlt2 (by omega)
                  have hnu3 := hnu.1.1
                  have hsp3 := hsp.1.1
                  refine E_load rfl rfl rfl ?_
                  refine E_const rfl ?_
                  refine E_V1 (q := 35) (c := 2) (y := 33) rfl rfl (hL.lt 35 rfl) (hL.k 35 rfl) rfl rfl rfl rfl (hSm ((pNum g (pSpell g [104, 97, 114, 112, 101, 110, 32] (k + 1)).2).2.1 + 1) (partsC l) c_6 hk2 (by omega) ⟨hC_6, hT_6, hk_6⟩ hP_6) (fun r h2 hq => ?_)
                  obtain ⟨rfl, c_7, hh, hQ_7, hP0_7, hE_7⟩ := hq
                  subst hh
                  obtain ⟨hC_7, hT_7, hk_7⟩ := hQ_7
                  refine E_if0 rfl (bI_R _) (fun q9 => ?_) (fun q9 => ?_)
                  · replace q9 := bI_z q9
                    refine E_const rfl ?_
                    refine E_iret rfl (fun _ => by decide) ?_
                    rw [show pCla g k = pMuch g 3 (pSpell g [104, 97, 114, 112, 101, 110, 32] (k + 1)) from by unfold pCla; rw [if_neg (by omega), if_neg (by omega), if_pos hgk, if_neg ho], show pMuch g 3 (pSpell g [104, 97, 114, 112, 101, 110, 32] (k + 1)) = (false, (pSome g 5 ((pNum g (pSpell g [104, 97, 114, 112, 101, 110, 32] (k + 1)).2).2.1 + 1)).2.1, (3, (pNum g (pSpell g [104, 97, 114, 112, 101, 110, 32] (k + 1)).2).2.2, (pSome g 5 ((pNum g (pSpell g [104, 97, 114, 112, 101, 110, 32] (k + 1)).2).2.1 + 1)).2.2)) from (if_pos ⟨hsb, hnb, h32⟩).trans (by rw [show (pSome g 5 ((pNum g (pSpell g [104, 97, 114, 112, 101, 110, 32] (k + 1)).2).2.1 + 1)).1 = false from Bool.eq_false_iff.mpr (by assumption)])]
                    exact KcQ.no ⟨hC_7, hT_7, hk_7⟩ (hE_1.trans (hE_2.trans (hE_3.trans (hE_4.trans (hE_5.trans (hE_6.trans hE_7))))))
                  · replace q9 := bI_nz q9
                    have heb : (pSome g 5 ((pNum g (pSpell g [104, 97, 114, 112, 101, 110, 32] (k + 1)).2).2.1 + 1)).1 = true := by assumption
                    have hP_7 := hP0_7 heb
                    refine E_load rfl rfl rfl ?_
                    refine E_load rfl rfl rfl ?_
                    refine E_load rfl rfl rfl ?_
                    refine E_V2 (q := 35) (c := 2) (y := 32) rfl rfl (hL.lt 35 rfl) (hL.k 35 rfl) rfl rfl rfl rfl (c_addCl (p := (pSome g 5 ((pNum g (pSpell g [104, 97, 114, 112, 101, 110, 32] (k + 1)).2).2.1 + 1)).2.2) hL hC_7 (hCl.fq (hE_1.trans (hE_2.trans (hE_3.trans (hE_4.trans (hE_5.trans (hE_6.trans hE_7))))))) hl9 hP_7) (fun r h2 hq => ?_)
                    obtain ⟨rfl, c_8, hh, hF_8, hEF_8⟩ := hq
                    subst hh
                    refine E_if0 rfl (by omega) (fun q10 => ?_) (fun q10 => ?_)
                    · exfalso; omega
                    · refine E_const rfl ?_
                      refine E_goto rfl ?_
                      refine E_iret rfl (fun _ => by decide) ?_
                      rw [show pCla g k = pMuch g 3 (pSpell g [104, 97, 114, 112, 101, 110, 32] (k + 1)) from by unfold pCla; rw [if_neg (by omega), if_neg (by omega), if_pos hgk, if_neg ho], show pMuch g 3 (pSpell g [104, 97, 114, 112, 101, 110, 32] (k + 1)) = (true, (pSome g 5 ((pNum g (pSpell g [104, 97, 114, 112, 101, 110, 32] (k + 1)).2).2.1 + 1)).2.1, (3, (pNum g (pSpell g [104, 97, 114, 112, 101, 110, 32] (k + 1)).2).2.2, (pSome g 5 ((pNum g (pSpell g [104, 97, 114, 112, 101, 110, 32] (k + 1)).2).2.1 + 1)).2.2)) from (if_pos ⟨hsb, hnb, h32⟩).trans (by rw [heb])]
                      exact KcQ.yes ⟨hC_7, hT_7, hk_7⟩ hP_7 (hE_1.trans (hE_2.trans (hE_3.trans (hE_4.trans (hE_5.trans (hE_6.trans hE_7)))))) hF_8 hEF_8
              · replace q7 := bI_z q7
                refine E_const rfl ?_
                refine E_iret rfl (fun _ => by decide) ?_
                rw [show pCla g k = pMuch g 3 (pSpell g [104, 97, 114, 112, 101, 110, 32] (k + 1)) from by unfold pCla; rw [if_neg (by omega), if_neg (by omega), if_pos hgk, if_neg ho], show pMuch g 3 (pSpell g [104, 97, 114, 112, 101, 110, 32] (k + 1)) = (false, (pNum g (pSpell g [104, 97, 114, 112, 101, 110, 32] (k + 1)).2).2.1, (0, 0, [])) from (if_neg (fun z => absurd z.2.1 (by assumption))).trans (by rw [if_pos hsb])]
                exact KcQ.no ⟨hC_5, hT_5, hk_5⟩ (hE_1.trans (hE_2.trans (hE_3.trans (hE_4.trans hE_5))))
          · exfalso; omega
        · have ho : g (k + 1) = 111 := by assumption
          have hsp := pSpell_in hE [111, 102, 116, 101, 110, 32] (k + 1) (by decide) hk1
          have hnu := pNum_in hE (k := (pSpell g [111, 102, 116, 101, 110, 32] (k + 1)).2) hsp.1.2
          refine E_const rfl ?_
          refine E_goto rfl ?_
          refine E_store rfl rfl rfl ?_
          refine E_load rfl rfl rfl ?_
          refine E_load rfl rfl rfl ?_
          refine E_const rfl ?_
          refine E_cmp1 rfl (by omega) (fun q11 => ?_) (fun q11 => ?_)
          · exfalso; omega
          · refine E_str rfl ?_
            refine E_goto rfl ?_
            refine E_V1 (q := 35) (c := 2) (y := 40) rfl rfl (hL.lt 35 rfl) (hL.k 35 rfl) rfl rfl rfl rfl (c_takesAll (kt := 2) (W := [111, 102, 116, 101, 110, 32]) (k := k + 1) hL hE ⟨hC_3, hT_3, hk_3⟩ hk1 (by decide) (by decide) rfl) (fun r h2 hq => ?_)
            obtain ⟨rfl, c_9, hh, hQ_9, hE_9⟩ := hq
            subst hh
            obtain ⟨hC_9, hT_9, hk_9⟩ := hQ_9
            have hP_9 : PaR c_9 (partsC l) := hP_3.of (hE_9 39 3 (by omega)) (funext fun j => hE_9 40 j (by omega))
            replace hE_9 : EqP FrQ c_3 c_9 := hE_9.mono (fun a k e => by unfold FrQ; omega)
            refine E_if0 rfl (bI_R _) (fun q12 => ?_) (fun q12 => ?_)
            · replace q12 := bI_z q12
              refine E_const rfl ?_
              refine E_iret rfl (fun _ => by decide) ?_
              rw [show pCla g k = pMuch g 2 (pSpell g [111, 102, 116, 101, 110, 32] (k + 1)) from by unfold pCla; rw [if_neg (by omega), if_neg (by omega), if_pos hgk, if_pos ho], show pMuch g 2 (pSpell g [111, 102, 116, 101, 110, 32] (k + 1)) = (false, (pSpell g [111, 102, 116, 101, 110, 32] (k + 1)).2, (0, 0, [])) from (if_neg (fun z => absurd z.1 (by assumption))).trans (by rw [if_neg (by assumption)])]
              exact KcQ.no ⟨hC_9, hT_9, hk_9⟩ (hE_1.trans (hE_2.trans (hE_3.trans hE_9)))
            · replace q12 := bI_nz q12
              have hsb : (pSpell g [111, 102, 116, 101, 110, 32] (k + 1)).1 = true := by assumption
              refine E_load rfl rfl rfl ?_
              refine E_V0 (q := 35) (c := 2) (y := 38) rfl rfl (hL.lt 35 rfl) (hL.k 35 rfl) rfl rfl rfl rfl (c_num (k := (pSpell g [111, 102, 116, 101, 110, 32] (k + 1)).2) hL hE ⟨hC_9, hT_9, hk_9⟩ hsp.1.2) (fun r h2 hq => ?_)
              obtain ⟨rfl, c_10, hh, hQ_10, hm0_10, hE_10⟩ := hq
              subst hh
              obtain ⟨hC_10, hT_10, hk_10⟩ := hQ_10
              have hP_10 : PaR c_10 (partsC l) := hP_9.of (hE_10 39 3 (by omega)) (funext fun j => hE_10 40 j (by omega))
              replace hE_10 : EqP FrQ c_9 c_10 := hE_10.mono (fun a k e => by unfold FrQ; omega)
              refine E_if1 rfl (bI_R _) (fun q13 => ?_) (fun q13 => ?_)
              · replace q13 := bI_nz q13
                have hnb : (pNum g (pSpell g [111, 102, 116, 101, 110, 32] (k + 1)).2).1 = true := by assumption
                have hlt2 := fun z => hE.lt (k := (pNum g (pSpell g [111, 102, 116, 101, 110, 32] (k + 1)).2).2.1) z
                have hg2 := hE.2.2 (pNum g (pSpell g [111, 102, 116, 101, 110, 32] (k + 1)).2).2.1
                have hnu2 := hnu.1.2
                refine E_load rfl rfl rfl ?_
                refine E_getf (c := 2) (v := (0, (pNum g (pSpell g [111, 102, 116, 101, 110, 32] (k + 1)).2).2.2)) rfl (hL.lt 35 rfl) (hL.k 35 rfl) rfl (fv (hm0_10 hnb)) ?_
                refine E_store rfl rfl rfl ?_
                refine E_load rfl rfl rfl ?_
                refine E_const rfl ?_
                refine E_V1 (q := 35) (c := 2) (y := 39) rfl rfl (hL.lt 35 rfl) (hL.k 35 rfl) rfl rfl rfl rfl (c_takes (k := (pNum g (pSpell g [111, 102, 116, 101, 110, 32] (k + 1)).2).2.1) hL hE ⟨hC_10, hT_10, hk_10⟩ (by omega) (by omega)) (fun r h2 hq => ?_)
                obtain ⟨rfl, c_11, hh, hQ_11, hE_11⟩ := hq
                subst hh
                obtain ⟨hC_11, hT_11, hk_11⟩ := hQ_11
                have hP_11 : PaR c_11 (partsC l) := hP_10.of (hE_11 39 3 (by omega)) (funext fun j => hE_11 40 j (by omega))
                replace hE_11 : EqP FrQ c_10 c_11 := hE_11.mono (fun a k e => by unfold FrQ; omega)
                refine E_if0 rfl (bI_R _) (fun q14 => ?_) (fun q14 => ?_)
                · replace q14 := bI_z q14
                  refine E_const rfl ?_
                  refine E_iret rfl (fun _ => by decide) ?_
                  rw [show pCla g k = pMuch g 2 (pSpell g [111, 102, 116, 101, 110, 32] (k + 1)) from by unfold pCla; rw [if_neg (by omega), if_neg (by omega), if_pos hgk, if_pos ho], show pMuch g 2 (pSpell g [111, 102, 116, 101, 110, 32] (k + 1)) = (false, (pNum g (pSpell g [111, 102, 116, 101, 110, 32] (k + 1)).2).2.1, (0, 0, [])) from (if_neg (fun z => absurd z.2.2 (by assumption))).trans (by rw [if_pos hsb])]
                  have hh9 : ¬ g (pNum g (pSpell g [111, 102, 116, 101, 110, 32] (k + 1)).2).2.1 = 32 := by assumption
                  rw [if_neg hh9] at hk_11
                  exact KcQ.no ⟨hC_11, hT_11, hk_11⟩ (hE_1.trans (hE_2.trans (hE_3.trans (hE_9.trans (hE_10.trans hE_11)))))
                · replace q14 := bI_nz q14
                  have h32 : g (pNum g (pSpell g [111, 102, 116, 101, 110, 32] (k + 1)).2).2.1 = 32 := by assumption
                  rw [if_pos h32] at hk_11
                  have hk2 := hlt2 (by omega)
                  have hnu3 := hnu.1.1
                  have hsp3 := hsp.1.1
                  refine E_load rfl rfl rfl ?_
                  refine E_const rfl ?_
                  refine E_V1 (q := 35) (c := 2) (y := 33) rfl rfl (hL.lt 35 rfl) (hL.k 35 rfl) rfl rfl rfl rfl (hSm ((pNum g (pSpell g [111, 102, 116, 101, 110, 32] (k + 1)).2).2.1 + 1) (partsC l) c_11 hk2 (by omega) ⟨hC_11, hT_11, hk_11⟩ hP_11) (fun r h2 hq => ?_)
                  obtain ⟨rfl, c_12, hh, hQ_12, hP0_12, hE_12⟩ := hq
                  subst hh
                  obtain ⟨hC_12, hT_12, hk_12⟩ := hQ_12
                  refine E_if0 rfl (bI_R _) (fun q15 => ?_) (fun q15 => ?_)
                  · replace q15 := bI_z q15
                    refine E_const rfl ?_
                    refine E_iret rfl (fun _ => by decide) ?_
                    rw [show pCla g k = pMuch g 2 (pSpell g [111, 102, 116, 101, 110, 32] (k + 1)) from by unfold pCla; rw [if_neg (by omega), if_neg (by omega), if_pos hgk, if_pos ho], show pMuch g 2 (pSpell g [111, 102, 116, 101, 110, 32] (k + 1)) = (false, (pSome g 5 ((pNum g (pSpell g [111, 102, 116, 101, 110, 32] (k + 1)).2).2.1 + 1)).2.1, (2, (pNum g (pSpell g [111, 102, 116, 101, 110, 32] (k + 1)).2).2.2, (pSome g 5 ((pNum g (pSpell g [111, 102, 116, 101, 110, 32] (k + 1)).2).2.1 + 1)).2.2)) from (if_pos ⟨hsb, hnb, h32⟩).trans (by rw [show (pSome g 5 ((pNum g (pSpell g [111, 102, 116, 101, 110, 32] (k + 1)).2).2.1 + 1)).1 = false from Bool.eq_false_iff.mpr (by assumption)])]
                    exact KcQ.no ⟨hC_12, hT_12, hk_12⟩ (hE_1.trans (hE_2.trans (hE_3.trans (hE_9.trans (hE_10.trans (hE_11.trans hE_12))))))
                  · replace q15 := bI_nz q15
                    have heb : (pSome g 5 ((pNum g (pSpell g [111, 102, 116, 101, 110, 32] (k + 1)).2).2.1 + 1)).1 = true := by assumption
                    have hP_12 := hP0_12 heb
                    refine E_load rfl rfl rfl ?_
                    refine E_load rfl rfl rfl ?_
                    refine E_load rfl rfl rfl ?_
                    refine E_V2 (q := 35) (c := 2) (y := 32) rfl rfl (hL.lt 35 rfl) (hL.k 35 rfl) rfl rfl rfl rfl (c_addCl (p := (pSome g 5 ((pNum g (pSpell g [111, 102, 116, 101, 110, 32] (k + 1)).2).2.1 + 1)).2.2) hL hC_12 (hCl.fq (hE_1.trans (hE_2.trans (hE_3.trans (hE_9.trans (hE_10.trans (hE_11.trans hE_12))))))) hl9 hP_12) (fun r h2 hq => ?_)
                    obtain ⟨rfl, c_13, hh, hF_13, hEF_13⟩ := hq
                    subst hh
                    refine E_if0 rfl (by omega) (fun q16 => ?_) (fun q16 => ?_)
                    · exfalso; omega
                    · refine E_const rfl ?_
                      refine E_goto rfl ?_
                      refine E_iret rfl (fun _ => by decide) ?_
                      rw [show pCla g k = pMuch g 2 (pSpell g [111, 102, 116, 101, 110, 32] (k + 1)) from by unfold pCla; rw [if_neg (by omega), if_neg (by omega), if_pos hgk, if_pos ho], show pMuch g 2 (pSpell g [111, 102, 116, 101, 110, 32] (k + 1)) = (true, (pSome g 5 ((pNum g (pSpell g [111, 102, 116, 101, 110, 32] (k + 1)).2).2.1 + 1)).2.1, (2, (pNum g (pSpell g [111, 102, 116, 101, 110, 32] (k + 1)).2).2.2, (pSome g 5 ((pNum g (pSpell g [111, 102, 116, 101, 110, 32] (k + 1)).2).2.1 + 1)).2.2)) from (if_pos ⟨hsb, hnb, h32⟩).trans (by rw [heb])]
                      exact KcQ.yes ⟨hC_12, hT_12, hk_12⟩ hP_12 (hE_1.trans (hE_2.trans (hE_3.trans (hE_9.trans (hE_10.trans (hE_11.trans hE_12)))))) hF_13 hEF_13
              · replace q13 := bI_z q13
                refine E_const rfl ?_
                refine E_iret rfl (fun _ => by decide) ?_
                rw [show pCla g k = pMuch g 2 (pSpell g [111, 102, 116, 101, 110, 32] (k + 1)) from by unfold pCla; rw [if_neg (by omega), if_neg (by omega), if_pos hgk, if_pos ho], show pMuch g 2 (pSpell g [111, 102, 116, 101, 110, 32] (k + 1)) = (false, (pNum g (pSpell g [111, 102, 116, 101, 110, 32] (k + 1)).2).2.1, (0, 0, [])) from (if_neg (fun z => absurd z.2.1 (by assumption))).trans (by rw [if_pos hsb])]
                exact KcQ.no ⟨hC_10, hT_10, hk_10⟩ (hE_1.trans (hE_2.trans (hE_3.trans (hE_9.trans hE_10))))
      · replace q3 := bI_z q3
        refine E_const rfl ?_
        refine E_iret rfl (fun _ => by decide) ?_
        rw [show pCla g k = (false, k, (0, 0, [])) from by unfold pCla; rw [if_neg (by assumption), if_neg (by assumption), if_neg (by assumption)]]
        have hh9 : ¬ g k = 115 := by assumption
        rw [if_neg hh9] at hk_3
        exact KcQ.no ⟨hC_3, hT_3, hk_3⟩ (hE_1.trans (hE_2.trans hE_3))
    · replace q2 := bI_nz q2
      have hgk : g k = 112 := by assumption
      rw [if_pos hgk] at hk_2
      have hk1 := hlt (by omega)
      have hsp := pSpell_in hE [101, 97, 99, 101, 32] (k + 1) (by decide) hk1
      have hnu := pNum_in hE (k := (pSpell g [101, 97, 99, 101, 32] (k + 1)).2) hsp.1.2
      refine E_load rfl rfl rfl ?_
      refine E_str rfl ?_
      refine E_V1 (q := 35) (c := 2) (y := 40) rfl rfl (hL.lt 35 rfl) (hL.k 35 rfl) rfl rfl rfl rfl (c_takesAll (kt := 1) (W := [101, 97, 99, 101, 32]) (k := k + 1) hL hE ⟨hC_2, hT_2, hk_2⟩ hk1 (by decide) (by decide) rfl) (fun r h2 hq => ?_)
      obtain ⟨rfl, c_14, hh, hQ_14, hE_14⟩ := hq
      subst hh
      obtain ⟨hC_14, hT_14, hk_14⟩ := hQ_14
      have hP_14 : PaR c_14 (partsC l) := hP_2.of (hE_14 39 3 (by omega)) (funext fun j => hE_14 40 j (by omega))
      replace hE_14 : EqP FrQ c_2 c_14 := hE_14.mono (fun a k e => by unfold FrQ; omega)
      refine E_if0 rfl (bI_R _) (fun q17 => ?_) (fun q17 => ?_)
      · replace q17 := bI_z q17
        refine E_const rfl ?_
        refine E_iret rfl (fun _ => by decide) ?_
        rw [show pCla g k = pTell g 1 (pSpell g [101, 97, 99, 101, 32] (k + 1)) from by unfold pCla; rw [if_neg (by omega), if_pos hgk], show pTell g 1 (pSpell g [101, 97, 99, 101, 32] (k + 1)) = (false, (pSpell g [101, 97, 99, 101, 32] (k + 1)).2, (0, 0, [])) from if_neg (by assumption)]
        exact KcQ.no ⟨hC_14, hT_14, hk_14⟩ (hE_1.trans (hE_2.trans hE_14))
      · replace q17 := bI_nz q17
        have hsb : (pSpell g [101, 97, 99, 101, 32] (k + 1)).1 = true := by assumption
        refine E_load rfl rfl rfl ?_
        refine E_V0 (q := 35) (c := 2) (y := 38) rfl rfl (hL.lt 35 rfl) (hL.k 35 rfl) rfl rfl rfl rfl (c_num (k := (pSpell g [101, 97, 99, 101, 32] (k + 1)).2) hL hE ⟨hC_14, hT_14, hk_14⟩ hsp.1.2) (fun r h2 hq => ?_)
        obtain ⟨rfl, c_15, hh, hQ_15, hm0_15, hE_15⟩ := hq
        subst hh
        obtain ⟨hC_15, hT_15, hk_15⟩ := hQ_15
        have hP_15 : PaR c_15 (partsC l) := hP_14.of (hE_15 39 3 (by omega)) (funext fun j => hE_15 40 j (by omega))
        replace hE_15 : EqP FrQ c_14 c_15 := hE_15.mono (fun a k e => by unfold FrQ; omega)
        refine E_if0 rfl (bI_R _) (fun q18 => ?_) (fun q18 => ?_)
        · replace q18 := bI_z q18
          refine E_const rfl ?_
          refine E_iret rfl (fun _ => by decide) ?_
          rw [show pCla g k = pTell g 1 (pSpell g [101, 97, 99, 101, 32] (k + 1)) from by unfold pCla; rw [if_neg (by omega), if_pos hgk], show pTell g 1 (pSpell g [101, 97, 99, 101, 32] (k + 1)) = (false, (pNum g (pSpell g [101, 97, 99, 101, 32] (k + 1)).2).2.1, (1, (pNum g (pSpell g [101, 97, 99, 101, 32] (k + 1)).2).2.2, [])) from (if_pos hsb).trans (by rw [show (pNum g (pSpell g [101, 97, 99, 101, 32] (k + 1)).2).1 = false from Bool.eq_false_iff.mpr (by assumption)])]
          exact KcQ.no ⟨hC_15, hT_15, hk_15⟩ (hE_1.trans (hE_2.trans (hE_14.trans hE_15)))
        · replace q18 := bI_nz q18
          have hnb : (pNum g (pSpell g [101, 97, 99, 101, 32] (k + 1)).2).1 = true := by assumption
          refine E_load rfl rfl rfl ?_
          refine E_const rfl ?_
          refine E_load rfl rfl rfl ?_
          refine E_getf (c := 2) (v := (0, (pNum g (pSpell g [101, 97, 99, 101, 32] (k + 1)).2).2.2)) rfl (hL.lt 35 rfl) (hL.k 35 rfl) rfl (fv (hm0_15 hnb)) ?_
          refine E_V2 (q := 35) (c := 2) (y := 32) rfl rfl (hL.lt 35 rfl) (hL.k 35 rfl) rfl rfl rfl rfl (c_addCl (p := []) hL hC_15 (hCl.fq (hE_1.trans (hE_2.trans (hE_14.trans hE_15)))) hl9 (by rw [List.append_nil]; exact hP_15)) (fun r h2 hq => ?_)
          obtain ⟨rfl, c_16, hh, hF_16, hEF_16⟩ := hq
          subst hh
          refine E_if0 rfl (by omega) (fun q19 => ?_) (fun q19 => ?_)
          · exfalso; omega
          · refine E_const rfl ?_
            refine E_goto rfl ?_
            refine E_iret rfl (fun _ => by decide) ?_
            rw [show pCla g k = pTell g 1 (pSpell g [101, 97, 99, 101, 32] (k + 1)) from by unfold pCla; rw [if_neg (by omega), if_pos hgk], show pTell g 1 (pSpell g [101, 97, 99, 101, 32] (k + 1)) = (true, (pNum g (pSpell g [101, 97, 99, 101, 32] (k + 1)).2).2.1, (1, (pNum g (pSpell g [101, 97, 99, 101, 32] (k + 1)).2).2.2, [])) from (if_pos hsb).trans (by rw [hnb])]
            exact KcQ.yes ⟨hC_15, hT_15, hk_15⟩ (by rw [List.append_nil]; exact hP_15) (hE_1.trans (hE_2.trans (hE_14.trans hE_15))) hF_16 hEF_16
  · replace q1 := bI_nz q1
    have hgk : g k = 99 := by assumption
    rw [if_pos hgk] at hk_1
    have hk1 := hlt (by omega)
    have hsp := pSpell_in hE [97, 108, 109, 32] (k + 1) (by decide) hk1
    have hnu := pNum_in hE (k := (pSpell g [97, 108, 109, 32] (k + 1)).2) hsp.1.2
    refine E_load rfl rfl rfl ?_
    refine E_str rfl ?_
    refine E_V1 (q := 35) (c := 2) (y := 40) rfl rfl (hL.lt 35 rfl) (hL.k 35 rfl) rfl rfl rfl rfl (c_takesAll (kt := 0) (W := [97, 108, 109, 32]) (k := k + 1) hL hE ⟨hC_1, hT_1, hk_1⟩ hk1 (by decide) (by decide) rfl) (fun r h2 hq => ?_)
    obtain ⟨rfl, c_17, hh, hQ_17, hE_17⟩ := hq
    subst hh
    obtain ⟨hC_17, hT_17, hk_17⟩ := hQ_17
    have hP_17 : PaR c_17 (partsC l) := hP_1.of (hE_17 39 3 (by omega)) (funext fun j => hE_17 40 j (by omega))
    replace hE_17 : EqP FrQ c_1 c_17 := hE_17.mono (fun a k e => by unfold FrQ; omega)
    refine E_if0 rfl (bI_R _) (fun q20 => ?_) (fun q20 => ?_)
    · replace q20 := bI_z q20
      refine E_const rfl ?_
      refine E_iret rfl (fun _ => by decide) ?_
      rw [show pCla g k = pTell g 0 (pSpell g [97, 108, 109, 32] (k + 1)) from by unfold pCla; rw [if_pos hgk], show pTell g 0 (pSpell g [97, 108, 109, 32] (k + 1)) = (false, (pSpell g [97, 108, 109, 32] (k + 1)).2, (0, 0, [])) from if_neg (by assumption)]
      exact KcQ.no ⟨hC_17, hT_17, hk_17⟩ (hE_1.trans hE_17)
    · replace q20 := bI_nz q20
      have hsb : (pSpell g [97, 108, 109, 32] (k + 1)).1 = true := by assumption
      refine E_load rfl rfl rfl ?_
      refine E_V0 (q := 35) (c := 2) (y := 38) rfl rfl (hL.lt 35 rfl) (hL.k 35 rfl) rfl rfl rfl rfl (c_num (k := (pSpell g [97, 108, 109, 32] (k + 1)).2) hL hE ⟨hC_17, hT_17, hk_17⟩ hsp.1.2) (fun r h2 hq => ?_)
      obtain ⟨rfl, c_18, hh, hQ_18, hm0_18, hE_18⟩ := hq
      subst hh
      obtain ⟨hC_18, hT_18, hk_18⟩ := hQ_18
      have hP_18 : PaR c_18 (partsC l) := hP_17.of (hE_18 39 3 (by omega)) (funext fun j => hE_18 40 j (by omega))
      replace hE_18 : EqP FrQ c_17 c_18 := hE_18.mono (fun a k e => by unfold FrQ; omega)
      refine E_if0 rfl (bI_R _) (fun q21 => ?_) (fun q21 => ?_)
      · replace q21 := bI_z q21
        refine E_const rfl ?_
        refine E_iret rfl (fun _ => by decide) ?_
        rw [show pCla g k = pTell g 0 (pSpell g [97, 108, 109, 32] (k + 1)) from by unfold pCla; rw [if_pos hgk], show pTell g 0 (pSpell g [97, 108, 109, 32] (k + 1)) = (false, (pNum g (pSpell g [97, 108, 109, 32] (k + 1)).2).2.1, (0, (pNum g (pSpell g [97, 108, 109, 32] (k + 1)).2).2.2, [])) from (if_pos hsb).trans (by rw [show (pNum g (pSpell g [97, 108, 109, 32] (k + 1)).2).1 = false from Bool.eq_false_iff.mpr (by assumption)])]
        exact KcQ.no ⟨hC_18, hT_18, hk_18⟩ (hE_1.trans (hE_17.trans hE_18))
      · replace q21 := bI_nz q21
        have hnb : (pNum g (pSpell g [97, 108, 109, 32] (k + 1)).2).1 = true := by assumption
        refine E_load rfl rfl rfl ?_
        refine E_const rfl ?_
        refine E_load rfl rfl rfl ?_
        refine E_getf (c := 2) (v := (0, (pNum g (pSpell g [97, 108, 109, 32] (k + 1)).2).2.2)) rfl (hL.lt 35 rfl) (hL.k 35 rfl) rfl (fv (hm0_18 hnb)) ?_
        refine E_V2 (q := 35) (c := 2) (y := 32) rfl rfl (hL.lt 35 rfl) (hL.k 35 rfl) rfl rfl rfl rfl (c_addCl (p := []) hL hC_18 (hCl.fq (hE_1.trans (hE_17.trans hE_18))) hl9 (by rw [List.append_nil]; exact hP_18)) (fun r h2 hq => ?_)
        obtain ⟨rfl, c_19, hh, hF_19, hEF_19⟩ := hq
        subst hh
        refine E_if0 rfl (by omega) (fun q22 => ?_) (fun q22 => ?_)
        · exfalso; omega
        · refine E_const rfl ?_
          refine E_goto rfl ?_
          refine E_iret rfl (fun _ => by decide) ?_
          rw [show pCla g k = pTell g 0 (pSpell g [97, 108, 109, 32] (k + 1)) from by unfold pCla; rw [if_pos hgk], show pTell g 0 (pSpell g [97, 108, 109, 32] (k + 1)) = (true, (pNum g (pSpell g [97, 108, 109, 32] (k + 1)).2).2.1, (0, (pNum g (pSpell g [97, 108, 109, 32] (k + 1)).2).2.2, [])) from (if_pos hsb).trans (by rw [hnb])]
          exact KcQ.yes ⟨hC_18, hT_18, hk_18⟩ (by rw [List.append_nil]; exact hP_18) (hE_1.trans (hE_17.trans hE_18)) hF_19 hEF_19
