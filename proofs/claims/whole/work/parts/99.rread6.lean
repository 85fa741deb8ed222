set_option maxHeartbeats 4000000 in
set_option maxRecDepth 100000 in
theorem n_fac0 {h : Hp} {g : Nat → Int} {act n : Nat} (hL : Lay h) (hE : Ends g n) (hact : act ≤ 4) {D : Nat} : ItOK h g act n (D + 3) 156 (5 - ((0 : Nat) : Int)) (pFac g 0) := by
  intro k s L c hk hl hR hT hS
  have hn := hE.1
  have hr := hrV_or hE k
  have hlt := fun z => hE.lt (k := k) z
  have hRR := hR
  show Ex _ none t_X11_factor 0 0 _ [] (wC h c) _
  obtain ⟨hM, hs, f5, f6, f7, f8, f9⟩ := hR
  have f9 : c 43 9 = 5 := f9
  refine E_load rfl rfl rfl ?_
  refine E_getf (c := 12) (v := (0, 0)) rfl (hL.lt 43 rfl) (hL.k 43 rfl) rfl (fv f8) ?_
  refine E_if0 rfl (by omega) (fun q1 => ?_) (fun q1 => ?_)
  · refine E_load rfl rfl rfl ?_
    refine E_V0 (q := 43) (c := 12) (y := 150) rfl rfl (hL.lt 43 rfl) (hL.k 43 rfl) rfl rfl rfl rfl (n_here (k := k) hL ⟨hM, hs, f5, f6, f7, f8, f9⟩ hE hT (by omega)) (fun r h2 hq => ?_)
    obtain ⟨rfl, hh⟩ := hq
    subst hh
    refine E_store rfl rfl rfl ?_
    rcases (show hrV g n k = 33 ∨ hrV g n k = 40 ∨ (hrV g n k ≠ 33 ∧ hrV g n k ≠ 40) by omega) with e | e | e
    · refine E_load rfl rfl rfl ?_
      refine E_const rfl ?_
      refine E_cmp0 rfl (by omega) (fun q2 => ?_) (fun q2 => ?_)
      · refine E_load rfl rfl rfl ?_
        refine E_load rfl rfl rfl ?_
        refine E_getf (c := 12) (v := (0, 5)) rfl (hL.lt 43 rfl) (hL.k 43 rfl) rfl (fv f9) ?_
        refine E_const rfl ?_
        refine E_cmp1 rfl (by omega) (fun q3 => ?_) (fun q3 => ?_)
        · exfalso; omega
        · refine E_const rfl ?_
          refine E_goto rfl ?_
          refine E_putzg (cl := 12) rfl (hL.lt 43 rfl) (hL.k 43 rfl) rfl (by decide) (fun c_1 hc_1 => ?_)
          have hE_1 : Eqk PS c c_1 := by rw [hc_1]; exact Eqk.up rfl
          have hM_1 : Mc c_1 := by rw [hc_1]; exact hM.up43 rfl
          have hs_1 : c_1 44 = s := by rw [hc_1]; exact (up2_oth rfl).trans hs
          have hf5_1 : c_1 43 5 = ((act : Nat) : Int) := by rw [hc_1]; exact (up2_fld rfl).trans f5
          have hf6_1 : c_1 43 6 = ((k : Nat) : Int) := by rw [hc_1]; exact (up2_fld rfl).trans f6
          have hf7_1 : c_1 43 7 = ((n : Nat) : Int) := by rw [hc_1]; exact (up2_fld rfl).trans f7
          have hf9_1 : c_1 43 9 = 5 := by rw [hc_1]; exact (up2_fld rfl).trans f9
          have hf8_1 : c_1 43 8 = 1 := by rw [hc_1]; exact up2_same
          refine E_load rfl rfl rfl ?_
          refine E_dup rfl rfl ?_
          refine E_getf (c := 12) (v := (0, 5)) rfl (hL.lt 43 rfl) (hL.k 43 rfl) rfl (fv hf9_1) ?_
          refine E_const rfl ?_
          refine E_add rfl ?_
          refine E_putg (cl := 12) rfl (hL.lt 43 rfl) (hL.k 43 rfl) rfl (fun c_2 hc_2 => ?_)
          have hE_2 : Eqk PS c_1 c_2 := by rw [hc_2]; exact Eqk.up rfl
          have hM_2 : Mc c_2 := by rw [hc_2]; exact hM_1.up43 rfl
          have hs_2 : c_2 44 = s := by rw [hc_2]; exact (up2_oth rfl).trans hs_1
          have hf5_2 : c_2 43 5 = ((act : Nat) : Int) := by rw [hc_2]; exact (up2_fld rfl).trans hf5_1
          have hf6_2 : c_2 43 6 = ((k : Nat) : Int) := by rw [hc_2]; exact (up2_fld rfl).trans hf6_1
          have hf7_2 : c_2 43 7 = ((n : Nat) : Int) := by rw [hc_2]; exact (up2_fld rfl).trans hf7_1
          have hf8_2 : c_2 43 8 = 1 := by rw [hc_2]; exact (up2_fld rfl).trans hf8_1
          have hf9_2 : c_2 43 9 = (5 + 1) := by rw [hc_2]; exact up2_same
          refine E_load rfl rfl rfl ?_
          refine E_dup rfl rfl ?_
          refine E_getf (c := 12) (v := (0, ((k : Nat) : Int))) rfl (hL.lt 43 rfl) (hL.k 43 rfl) rfl (fv hf6_2) ?_
          refine E_load rfl rfl rfl ?_
          refine E_getf (c := 12) (v := (0, 1)) rfl (hL.lt 43 rfl) (hL.k 43 rfl) rfl (fv hf8_2) ?_
          refine E_if0 rfl (by omega) (fun q4 => ?_) (fun q4 => ?_)
          · exfalso; omega
          · refine E_const rfl ?_
            refine E_goto rfl ?_
            refine E_add rfl ?_
            refine E_putg (cl := 12) rfl (hL.lt 43 rfl) (hL.k 43 rfl) rfl (fun c_3 hc_3 => ?_)
            have hE_3 : Eqk PS c_2 c_3 := by rw [hc_3]; exact Eqk.up rfl
            have hM_3 : Mc c_3 := by rw [hc_3]; exact hM_2.up43 rfl
            have hs_3 : c_3 44 = s := by rw [hc_3]; exact (up2_oth rfl).trans hs_2
            have hf5_3 : c_3 43 5 = ((act : Nat) : Int) := by rw [hc_3]; exact (up2_fld rfl).trans hf5_2
            have hf7_3 : c_3 43 7 = ((n : Nat) : Int) := by rw [hc_3]; exact (up2_fld rfl).trans hf7_2
            have hf8_3 : c_3 43 8 = 1 := by rw [hc_3]; exact (up2_fld rfl).trans hf8_2
            have hf9_3 : c_3 43 9 = (5 + 1) := by rw [hc_3]; exact (up2_fld rfl).trans hf9_2
            have hf6_3 : c_3 43 6 = (((k : Nat) : Int) + 0) := by rw [hc_3]; exact up2_same
            refine E_load rfl rfl rfl ?_
            refine E_const rfl ?_
            refine E_cmp1 rfl (by omega) (fun q5 => ?_) (fun q5 => ?_)
            · exfalso; omega
            · refine E_load rfl rfl rfl ?_
              refine E_V0 (q := 43) (c := 12) (y := 156) rfl rfl (hL.lt 43 rfl) (hL.k 43 rfl) rfl rfl rfl rfl (n_facW (k := k) hL ⟨hM_3, hs_3, hf5_3, hf6_3.trans (Int.add_zero _), hf7_3, hf8_3, hf9_3⟩) (fun r h2 hq => ?_)
              obtain ⟨rfl, c_4, hh, hQ_4, hE_4⟩ := hq
              subst hh
              obtain ⟨hM_4, hs_4, hf5_4, hf6_4, hf7_4, hf8_4, hf9_4⟩ := hQ_4
              refine E_load rfl rfl rfl ?_
              refine E_const rfl ?_
              refine E_V1 (q := 43) (c := 12) (y := 155) rfl rfl (hL.lt 43 rfl) (hL.k 43 rfl) rfl rfl rfl rfl (n_emitsW (k := k) hL ⟨hM_4, hs_4, hf5_4, hf6_4, hf7_4, hf8_4, hf9_4⟩) (fun r h2 hq => ?_)
              obtain ⟨rfl, c_5, hh, hQ_5, hE_5⟩ := hq
              subst hh
              obtain ⟨hM_5, hs_5, hf5_5, hf6_5, hf7_5, hf8_5, hf9_5⟩ := hQ_5
              refine E_goto rfl ?_
              refine E_load rfl rfl rfl ?_
              refine E_dup rfl rfl ?_
              refine E_getf (c := 12) (v := (0, (5 + 1))) rfl (hL.lt 43 rfl) (hL.k 43 rfl) rfl (fv hf9_5) ?_
              refine E_const rfl ?_
              refine E_sub rfl ?_
              refine E_putg (cl := 12) rfl (hL.lt 43 rfl) (hL.k 43 rfl) rfl (fun c_6 hc_6 => ?_)
              have hE_6 : Eqk PS c_5 c_6 := by rw [hc_6]; exact Eqk.up rfl
              have hM_6 : Mc c_6 := by rw [hc_6]; exact hM_5.up43 rfl
              have hs_6 : c_6 44 = s := by rw [hc_6]; exact (up2_oth rfl).trans hs_5
              have hf5_6 : c_6 43 5 = ((act : Nat) : Int) := by rw [hc_6]; exact (up2_fld rfl).trans hf5_5
              have hf6_6 : c_6 43 6 = ((k : Nat) : Int) := by rw [hc_6]; exact (up2_fld rfl).trans hf6_5
              have hf7_6 : c_6 43 7 = ((n : Nat) : Int) := by rw [hc_6]; exact (up2_fld rfl).trans hf7_5
              have hf8_6 : c_6 43 8 = 1 := by rw [hc_6]; exact (up2_fld rfl).trans hf8_5
              have hf9_6 : c_6 43 9 = ((5 + 1) - 1) := by rw [hc_6]; exact up2_same
              refine E_vret rfl ?_
              rw [show pFac g 0 k = (false, k, []) from if_pos (by omega)]
              exact RdQ.no ⟨hM_6, hs_6, hf5_6, hf6_6, hf7_6, hf8_6, hf9_6.trans (by omega)⟩ Rg.nil (hE_1.trans (hE_2.trans (hE_3.trans (hE_4.trans (hE_5.trans hE_6)))))
      · exfalso; omega
    · refine E_load rfl rfl rfl ?_
      refine E_const rfl ?_
      refine E_cmp0 rfl (by omega) (fun q6 => ?_) (fun q6 => ?_)
      · exfalso; omega
      · refine E_load rfl rfl rfl ?_
        refine E_const rfl ?_
        refine E_cmp1 rfl (by omega) (fun q7 => ?_) (fun q7 => ?_)
        · exfalso; omega
        · refine E_load rfl rfl rfl ?_
          refine E_load rfl rfl rfl ?_
          refine E_getf (c := 12) (v := (0, 5)) rfl (hL.lt 43 rfl) (hL.k 43 rfl) rfl (fv f9) ?_
          refine E_const rfl ?_
          refine E_cmp1 rfl (by omega) (fun q8 => ?_) (fun q8 => ?_)
          · exfalso; omega
          · refine E_const rfl ?_
            refine E_goto rfl ?_
            refine E_putzg (cl := 12) rfl (hL.lt 43 rfl) (hL.k 43 rfl) rfl (by decide) (fun c_7 hc_7 => ?_)
            have hE_7 : Eqk PS c c_7 := by rw [hc_7]; exact Eqk.up rfl
            have hM_7 : Mc c_7 := by rw [hc_7]; exact hM.up43 rfl
            have hs_7 : c_7 44 = s := by rw [hc_7]; exact (up2_oth rfl).trans hs
            have hf5_7 : c_7 43 5 = ((act : Nat) : Int) := by rw [hc_7]; exact (up2_fld rfl).trans f5
            have hf6_7 : c_7 43 6 = ((k : Nat) : Int) := by rw [hc_7]; exact (up2_fld rfl).trans f6
            have hf7_7 : c_7 43 7 = ((n : Nat) : Int) := by rw [hc_7]; exact (up2_fld rfl).trans f7
            have hf9_7 : c_7 43 9 = 5 := by rw [hc_7]; exact (up2_fld rfl).trans f9
            have hf8_7 : c_7 43 8 = 1 := by rw [hc_7]; exact up2_same
            refine E_load rfl rfl rfl ?_
            refine E_dup rfl rfl ?_
            refine E_getf (c := 12) (v := (0, 5)) rfl (hL.lt 43 rfl) (hL.k 43 rfl) rfl (fv hf9_7) ?_
            refine E_const rfl ?_
            refine E_add rfl ?_
            refine E_putg (cl := 12) rfl (hL.lt 43 rfl) (hL.k 43 rfl) rfl (fun c_8 hc_8 => ?_)
            have hE_8 : Eqk PS c_7 c_8 := by rw [hc_8]; exact Eqk.up rfl
            have hM_8 : Mc c_8 := by rw [hc_8]; exact hM_7.up43 rfl
            have hs_8 : c_8 44 = s := by rw [hc_8]; exact (up2_oth rfl).trans hs_7
            have hf5_8 : c_8 43 5 = ((act : Nat) : Int) := by rw [hc_8]; exact (up2_fld rfl).trans hf5_7
            have hf6_8 : c_8 43 6 = ((k : Nat) : Int) := by rw [hc_8]; exact (up2_fld rfl).trans hf6_7
            have hf7_8 : c_8 43 7 = ((n : Nat) : Int) := by rw [hc_8]; exact (up2_fld rfl).trans hf7_7
            have hf8_8 : c_8 43 8 = 1 := by rw [hc_8]; exact (up2_fld rfl).trans hf8_7
            have hf9_8 : c_8 43 9 = (5 + 1) := by rw [hc_8]; exact up2_same
            refine E_load rfl rfl rfl ?_
            refine E_dup rfl rfl ?_
            refine E_getf (c := 12) (v := (0, ((k : Nat) : Int))) rfl (hL.lt 43 rfl) (hL.k 43 rfl) rfl (fv hf6_8) ?_
            refine E_load rfl rfl rfl ?_
            refine E_getf (c := 12) (v := (0, 1)) rfl (hL.lt 43 rfl) (hL.k 43 rfl) rfl (fv hf8_8) ?_
            refine E_if0 rfl (by omega) (fun q9 => ?_) (fun q9 => ?_)
            · exfalso; omega
            · refine E_const rfl ?_
              refine E_goto rfl ?_
              refine E_add rfl ?_
              refine E_putg (cl := 12) rfl (hL.lt 43 rfl) (hL.k 43 rfl) rfl (fun c_9 hc_9 => ?_)
              have hE_9 : Eqk PS c_8 c_9 := by rw [hc_9]; exact Eqk.up rfl
              have hM_9 : Mc c_9 := by rw [hc_9]; exact hM_8.up43 rfl
              have hs_9 : c_9 44 = s := by rw [hc_9]; exact (up2_oth rfl).trans hs_8
              have hf5_9 : c_9 43 5 = ((act : Nat) : Int) := by rw [hc_9]; exact (up2_fld rfl).trans hf5_8
              have hf7_9 : c_9 43 7 = ((n : Nat) : Int) := by rw [hc_9]; exact (up2_fld rfl).trans hf7_8
              have hf8_9 : c_9 43 8 = 1 := by rw [hc_9]; exact (up2_fld rfl).trans hf8_8
              have hf9_9 : c_9 43 9 = (5 + 1) := by rw [hc_9]; exact (up2_fld rfl).trans hf9_8
              have hf6_9 : c_9 43 6 = (((k : Nat) : Int) + 0) := by rw [hc_9]; exact up2_same
              refine E_load rfl rfl rfl ?_
              refine E_const rfl ?_
              refine E_cmp1 rfl (by omega) (fun q10 => ?_) (fun q10 => ?_)
              · refine E_load rfl rfl rfl ?_
                refine E_V0 (q := 43) (c := 12) (y := 158) rfl rfl (hL.lt 43 rfl) (hL.k 43 rfl) rfl rfl rfl rfl (n_someW (k := k) hL ⟨hM_9, hs_9, hf5_9, hf6_9.trans (Int.add_zero _), hf7_9, hf8_9, hf9_9⟩) (fun r h2 hq => ?_)
                obtain ⟨rfl, c_10, hh, hQ_10, hE_10⟩ := hq
                subst hh
                obtain ⟨hM_10, hs_10, hf5_10, hf6_10, hf7_10, hf8_10, hf9_10⟩ := hQ_10
                refine E_load rfl rfl rfl ?_
                refine E_const rfl ?_
                refine E_V1 (q := 43) (c := 12) (y := 151) rfl rfl (hL.lt 43 rfl) (hL.k 43 rfl) rfl rfl rfl rfl (n_mustW (k := k) hL ⟨hM_10, hs_10, hf5_10, hf6_10, hf7_10, hf8_10, hf9_10⟩) (fun r h2 hq => ?_)
                obtain ⟨rfl, c_11, hh, hQ_11, hE_11⟩ := hq
                subst hh
                obtain ⟨hM_11, hs_11, hf5_11, hf6_11, hf7_11, hf8_11, hf9_11⟩ := hQ_11
                refine E_load rfl rfl rfl ?_
                refine E_dup rfl rfl ?_
                refine E_getf (c := 12) (v := (0, (5 + 1))) rfl (hL.lt 43 rfl) (hL.k 43 rfl) rfl (fv hf9_11) ?_
                refine E_const rfl ?_
                refine E_sub rfl ?_
                refine E_putg (cl := 12) rfl (hL.lt 43 rfl) (hL.k 43 rfl) rfl (fun c_12 hc_12 => ?_)
                have hE_12 : Eqk PS c_11 c_12 := by rw [hc_12]; exact Eqk.up rfl
                have hM_12 : Mc c_12 := by rw [hc_12]; exact hM_11.up43 rfl
                have hs_12 : c_12 44 = s := by rw [hc_12]; exact (up2_oth rfl).trans hs_11
                have hf5_12 : c_12 43 5 = ((act : Nat) : Int) := by rw [hc_12]; exact (up2_fld rfl).trans hf5_11
                have hf6_12 : c_12 43 6 = ((k : Nat) : Int) := by rw [hc_12]; exact (up2_fld rfl).trans hf6_11
                have hf7_12 : c_12 43 7 = ((n : Nat) : Int) := by rw [hc_12]; exact (up2_fld rfl).trans hf7_11
                have hf8_12 : c_12 43 8 = 1 := by rw [hc_12]; exact (up2_fld rfl).trans hf8_11
                have hf9_12 : c_12 43 9 = ((5 + 1) - 1) := by rw [hc_12]; exact up2_same
                refine E_vret rfl ?_
                rw [show pFac g 0 k = (false, k, []) from if_pos (by omega)]
                exact RdQ.no ⟨hM_12, hs_12, hf5_12, hf6_12, hf7_12, hf8_12, hf9_12.trans (by omega)⟩ Rg.nil (hE_7.trans (hE_8.trans (hE_9.trans (hE_10.trans (hE_11.trans hE_12)))))
              · exfalso; omega
    · refine E_load rfl rfl rfl ?_
      refine E_const rfl ?_
      refine E_cmp0 rfl (by omega) (fun q11 => ?_) (fun q11 => ?_)
      · exfalso; omega
      · refine E_load rfl rfl rfl ?_
        refine E_const rfl ?_
        refine E_cmp1 rfl (by omega) (fun q12 => ?_) (fun q12 => ?_)
        · rw [pFac_tst (show g k ≠ 33 by omega) (show g k ≠ 40 by omega)]
          exact n_test hL hE hact hk hl hRR hT hS
        · exfalso; omega
  · exfalso; omega
set_option maxHeartbeats 4000000 in
set_option maxRecDepth 100000 in
theorem n_facS {h : Hp} {g : Nat → Int} {act n : Nat} (hL : Lay h) (hE : Ends g n) (hact : act ≤ 4) {D r : Nat} (hr100 : r ≤ 100) (hF : ItOK h g act n (D + 2) 156 (5 - (r : Int)) (pFac g r)) (hSm : ItOK h g act n (D + 2) 158 (5 - (r : Int)) (pSome g r)) : ItOK h g act n (D + 3) 156 (5 - ((r + 1 : Nat) : Int)) (pFac g (r + 1)) := by
  intro k s L c hk hl hR hT hS
  have hn := hE.1
  have hr := hrV_or hE k
  have hlt := fun z => hE.lt (k := k) z
  have hRR := hR
  show Ex _ none t_X11_factor 0 0 _ [] (wC h c) _
  obtain ⟨hM, hs, f5, f6, f7, f8, f9⟩ := hR
  refine E_load rfl rfl rfl ?_
  refine E_getf (c := 12) (v := (0, 0)) rfl (hL.lt 43 rfl) (hL.k 43 rfl) rfl (fv f8) ?_
  refine E_if0 rfl (by omega) (fun q1 => ?_) (fun q1 => ?_)
  · refine E_load rfl rfl rfl ?_
    refine E_V0 (q := 43) (c := 12) (y := 150) rfl rfl (hL.lt 43 rfl) (hL.k 43 rfl) rfl rfl rfl rfl (n_here (k := k) hL ⟨hM, hs, f5, f6, f7, f8, f9⟩ hE hT (by omega)) (fun r h2 hq => ?_)
    obtain ⟨rfl, hh⟩ := hq
    subst hh
    refine E_store rfl rfl rfl ?_
    rcases (show hrV g n k = 33 ∨ hrV g n k = 40 ∨ (hrV g n k ≠ 33 ∧ hrV g n k ≠ 40) by omega) with e | e | e
    · refine E_load rfl rfl rfl ?_
      refine E_const rfl ?_
      refine E_cmp0 rfl (by omega) (fun q2 => ?_) (fun q2 => ?_)
      · refine E_load rfl rfl rfl ?_
        refine E_load rfl rfl rfl ?_
        refine E_getf (c := 12) (v := (0, (5 - ((r + 1 : Nat) : Int)))) rfl (hL.lt 43 rfl) (hL.k 43 rfl) rfl (fv f9) ?_
        refine E_const rfl ?_
        refine E_cmp1 rfl (by omega) (fun q3 => ?_) (fun q3 => ?_)
        · refine E_const rfl ?_
          refine E_putzg (cl := 12) rfl (hL.lt 43 rfl) (hL.k 43 rfl) rfl (by decide) (fun c_1 hc_1 => ?_)
          have hE_1 : Eqk PS c c_1 := by rw [hc_1]; exact Eqk.up rfl
          have hM_1 : Mc c_1 := by rw [hc_1]; exact hM.up43 rfl
          have hs_1 : c_1 44 = s := by rw [hc_1]; exact (up2_oth rfl).trans hs
          have hf5_1 : c_1 43 5 = ((act : Nat) : Int) := by rw [hc_1]; exact (up2_fld rfl).trans f5
          have hf6_1 : c_1 43 6 = ((k : Nat) : Int) := by rw [hc_1]; exact (up2_fld rfl).trans f6
          have hf7_1 : c_1 43 7 = ((n : Nat) : Int) := by rw [hc_1]; exact (up2_fld rfl).trans f7
          have hf9_1 : c_1 43 9 = (5 - ((r + 1 : Nat) : Int)) := by rw [hc_1]; exact (up2_fld rfl).trans f9
          have hf8_1 : c_1 43 8 = 0 := by rw [hc_1]; exact up2_same
          refine E_load rfl rfl rfl ?_
          refine E_dup rfl rfl ?_
          refine E_getf (c := 12) (v := (0, (5 - ((r + 1 : Nat) : Int)))) rfl (hL.lt 43 rfl) (hL.k 43 rfl) rfl (fv hf9_1) ?_
          refine E_const rfl ?_
          refine E_add rfl ?_
          refine E_putg (cl := 12) rfl (hL.lt 43 rfl) (hL.k 43 rfl) rfl (fun c_2 hc_2 => ?_)
          have hE_2 : Eqk PS c_1 c_2 := by rw [hc_2]; exact Eqk.up rfl
          have hM_2 : Mc c_2 := by rw [hc_2]; exact hM_1.up43 rfl
          have hs_2 : c_2 44 = s := by rw [hc_2]; exact (up2_oth rfl).trans hs_1
          have hf5_2 : c_2 43 5 = ((act : Nat) : Int) := by rw [hc_2]; exact (up2_fld rfl).trans hf5_1
          have hf6_2 : c_2 43 6 = ((k : Nat) : Int) := by rw [hc_2]; exact (up2_fld rfl).trans hf6_1
          have hf7_2 : c_2 43 7 = ((n : Nat) : Int) := by rw [hc_2]; exact (up2_fld rfl).trans hf7_1
          have hf8_2 : c_2 43 8 = 0 := by rw [hc_2]; exact (up2_fld rfl).trans hf8_1
          have hf9_2 : c_2 43 9 = ((5 - ((r + 1 : Nat) : Int)) + 1) := by rw [hc_2]; exact up2_same
          refine E_load rfl rfl rfl ?_
          refine E_dup rfl rfl ?_
          refine E_getf (c := 12) (v := (0, ((k : Nat) : Int))) rfl (hL.lt 43 rfl) (hL.k 43 rfl) rfl (fv hf6_2) ?_
          refine E_load rfl rfl rfl ?_
          refine E_getf (c := 12) (v := (0, 0)) rfl (hL.lt 43 rfl) (hL.k 43 rfl) rfl (fv hf8_2) ?_
          refine E_if0 rfl (by omega) (fun q4 => ?_) (fun q4 => ?_)
          · refine E_const rfl ?_
            refine E_add rfl ?_
            refine E_putg (cl := 12) rfl (hL.lt 43 rfl) (hL.k 43 rfl) rfl (fun c_3 hc_3 => ?_)
            have hE_3 : Eqk PS c_2 c_3 := by rw [hc_3]; exact Eqk.up rfl
            have hM_3 : Mc c_3 := by rw [hc_3]; exact hM_2.up43 rfl
            have hs_3 : c_3 44 = s := by rw [hc_3]; exact (up2_oth rfl).trans hs_2
            have hf5_3 : c_3 43 5 = ((act : Nat) : Int) := by rw [hc_3]; exact (up2_fld rfl).trans hf5_2
            have hf7_3 : c_3 43 7 = ((n : Nat) : Int) := by rw [hc_3]; exact (up2_fld rfl).trans hf7_2
            have hf8_3 : c_3 43 8 = 0 := by rw [hc_3]; exact (up2_fld rfl).trans hf8_2
            have hf9_3 : c_3 43 9 = ((5 - ((r + 1 : Nat) : Int)) + 1) := by rw [hc_3]; exact (up2_fld rfl).trans hf9_2
            have hf6_3 : c_3 43 6 = (((k : Nat) : Int) + 1) := by rw [hc_3]; exact up2_same
            refine E_load rfl rfl rfl ?_
            refine E_const rfl ?_
            refine E_cmp1 rfl (by omega) (fun q5 => ?_) (fun q5 => ?_)
            · exfalso; omega
            · refine E_load rfl rfl rfl ?_
              refine E_V0 (q := 43) (c := 12) (y := 156) rfl rfl (hL.lt 43 rfl) (hL.k 43 rfl) rfl rfl rfl rfl (hF (k + 1) s L c_3 (hlt (by omega)) (by omega) ⟨hM_3, hs_3, hf5_3, hf6_3, hf7_3, hf8_3, hf9_3.trans (by omega)⟩ hT hS) (fun r h2 hq => ?_)
              obtain ⟨rfl, c_4, s_4, hh, hQ_4, hG_4, hS_4, hE_4⟩ := hq
              subst hh
              obtain ⟨hM_4, hs_4, hf5_4, hf6_4, hf7_4, hf8_4, hf9_4⟩ := hQ_4
              have hg : g k = 33 := by omega
              have hw := pFac_wf hE r (k + 1) (hlt (by omega))
              rcases Bool.eq_false_or_eq_true ((pFac g r (k + 1)).1) with hb | hb
              · rw [if_pos hb] at hf8_4
                have hw3 := hw.2 hb
                have hw4 := hw.1.2
                refine E_load rfl rfl rfl ?_
                refine E_const rfl ?_
                refine E_V1 (q := 43) (c := 12) (y := 155) rfl rfl (hL.lt 43 rfl) (hL.k 43 rfl) rfl rfl rfl rfl (n_emits (k := (pFac g r (k + 1)).2.1) hL ⟨hM_4, hs_4, hf5_4, hf6_4, hf7_4, hf8_4, hf9_4⟩ hact (hS_4 hb) (by rw [List.length_append, List.length_map]; omega)) (fun r h2 hq => ?_)
                obtain ⟨rfl, c_5, s_5, hh, hQ_5, hG_5, hS_5, hE_5⟩ := hq
                subst hh
                obtain ⟨hM_5, hs_5, hf5_5, hf6_5, hf7_5, hf8_5, hf9_5⟩ := hQ_5
                refine E_goto rfl ?_
                refine E_load rfl rfl rfl ?_
                refine E_dup rfl rfl ?_
                refine E_getf (c := 12) (v := (0, (5 - (r : Int)))) rfl (hL.lt 43 rfl) (hL.k 43 rfl) rfl (fv hf9_5) ?_
                refine E_const rfl ?_
                refine E_sub rfl ?_
                refine E_putg (cl := 12) rfl (hL.lt 43 rfl) (hL.k 43 rfl) rfl (fun c_6 hc_6 => ?_)
                have hE_6 : Eqk PS c_5 c_6 := by rw [hc_6]; exact Eqk.up rfl
                have hM_6 : Mc c_6 := by rw [hc_6]; exact hM_5.up43 rfl
                have hs_6 : c_6 44 = s_5 := by rw [hc_6]; exact (up2_oth rfl).trans hs_5
                have hf5_6 : c_6 43 5 = ((act : Nat) : Int) := by rw [hc_6]; exact (up2_fld rfl).trans hf5_5
                have hf6_6 : c_6 43 6 = (((pFac g r (k + 1)).2.1 : Nat) : Int) := by rw [hc_6]; exact (up2_fld rfl).trans hf6_5
                have hf7_6 : c_6 43 7 = ((n : Nat) : Int) := by rw [hc_6]; exact (up2_fld rfl).trans hf7_5
                have hf8_6 : c_6 43 8 = 0 := by rw [hc_6]; exact (up2_fld rfl).trans hf8_5
                have hf9_6 : c_6 43 9 = ((5 - (r : Int)) - 1) := by rw [hc_6]; exact up2_same
                refine E_vret rfl ?_
                rw [pFac_not hg, show pNot (pFac g r (k + 1)) = (true, (pFac g r (k + 1)).2.1, (pFac g r (k + 1)).2.2 ++ [NOTp]) from if_pos hb]
                exact RdQ.yes ⟨hM_6, hs_6, hf5_6, hf6_6, hf7_6, hf8_6, hf9_6.trans (by omega)⟩ (hG_4.trans hG_5) (by rw [List.map_append, ← List.append_assoc]; exact hS_5) (hE_1.trans (hE_2.trans (hE_3.trans (hE_4.trans (hE_5.trans hE_6)))))
              · rw [if_neg (by rw [hb]; decide)] at hf8_4
                refine E_load rfl rfl rfl ?_
                refine E_const rfl ?_
                refine E_V1 (q := 43) (c := 12) (y := 155) rfl rfl (hL.lt 43 rfl) (hL.k 43 rfl) rfl rfl rfl rfl (n_emitsW (k := (pFac g r (k + 1)).2.1) hL ⟨hM_4, hs_4, hf5_4, hf6_4, hf7_4, hf8_4, hf9_4⟩) (fun r h2 hq => ?_)
                obtain ⟨rfl, c_5, hh, hQ_5, hE_5⟩ := hq
                subst hh
                obtain ⟨hM_5, hs_5, hf5_5, hf6_5, hf7_5, hf8_5, hf9_5⟩ := hQ_5
                refine E_goto rfl ?_
                refine E_load rfl rfl rfl ?_
                refine E_dup rfl rfl ?_
                refine E_getf (c := 12) (v := (0, (5 - (r : Int)))) rfl (hL.lt 43 rfl) (hL.k 43 rfl) rfl (fv hf9_5) ?_
                refine E_const rfl ?_
                refine E_sub rfl ?_
                refine E_putg (cl := 12) rfl (hL.lt 43 rfl) (hL.k 43 rfl) rfl (fun c_6 hc_6 => ?_)
                have hE_6 : Eqk PS c_5 c_6 := by rw [hc_6]; exact Eqk.up rfl
                have hM_6 : Mc c_6 := by rw [hc_6]; exact hM_5.up43 rfl
                have hs_6 : c_6 44 = s_4 := by rw [hc_6]; exact (up2_oth rfl).trans hs_5
                have hf5_6 : c_6 43 5 = ((act : Nat) : Int) := by rw [hc_6]; exact (up2_fld rfl).trans hf5_5
                have hf6_6 : c_6 43 6 = (((pFac g r (k + 1)).2.1 : Nat) : Int) := by rw [hc_6]; exact (up2_fld rfl).trans hf6_5
                have hf7_6 : c_6 43 7 = ((n : Nat) : Int) := by rw [hc_6]; exact (up2_fld rfl).trans hf7_5
                have hf8_6 : c_6 43 8 = 1 := by rw [hc_6]; exact (up2_fld rfl).trans hf8_5
                have hf9_6 : c_6 43 9 = ((5 - (r : Int)) - 1) := by rw [hc_6]; exact up2_same
                refine E_vret rfl ?_
                rw [pFac_not hg, show pNot (pFac g r (k + 1)) = (false, (pFac g r (k + 1)).2.1, []) from if_neg (by rw [hb]; decide)]
                exact RdQ.no ⟨hM_6, hs_6, hf5_6, hf6_6, hf7_6, hf8_6, hf9_6.trans (by omega)⟩ hG_4 (hE_1.trans (hE_2.trans (hE_3.trans (hE_4.trans (hE_5.trans hE_6)))))
          · exfalso; omega
        · exfalso; omega
      · exfalso; omega
    · refine E_load rfl rfl rfl ?_
      refine E_const rfl ?_
      refine E_cmp0 rfl (by omega) (fun q6 => ?_) (fun q6 => ?_)
      · exfalso; omega
      · refine E_load rfl rfl rfl ?_
        refine E_const rfl ?_
        refine E_cmp1 rfl (by omega) (fun q7 => ?_) (fun q7 => ?_)
        · exfalso; omega
        · refine E_load rfl rfl rfl ?_
          refine E_load rfl rfl rfl ?_
          refine E_getf (c := 12) (v := (0, (5 - ((r + 1 : Nat) : Int)))) rfl (hL.lt 43 rfl) (hL.k 43 rfl) rfl (fv f9) ?_
          refine E_const rfl ?_
          refine E_cmp1 rfl (by omega) (fun q8 => ?_) (fun q8 => ?_)
          · refine E_const rfl ?_
            refine E_putzg (cl := 12) rfl (hL.lt 43 rfl) (hL.k 43 rfl) rfl (by decide) (fun c_5 hc_5 => ?_)
            have hE_5 : Eqk PS c c_5 := by rw [hc_5]; exact Eqk.up rfl
            have hM_5 : Mc c_5 := by rw [hc_5]; exact hM.up43 rfl
            have hs_5 : c_5 44 = s := by rw [hc_5]; exact (up2_oth rfl).trans hs
            have hf5_5 : c_5 43 5 = ((act : Nat) : Int) := by rw [hc_5]; exact (up2_fld rfl).trans f5
            have hf6_5 : c_5 43 6 = ((k : Nat) : Int) := by rw [hc_5]; exact (up2_fld rfl).trans f6
            have hf7_5 : c_5 43 7 = ((n : Nat) : Int) := by rw [hc_5]; exact (up2_fld rfl).trans f7
            have hf9_5 : c_5 43 9 = (5 - ((r + 1 : Nat) : Int)) := by rw [hc_5]; exact (up2_fld rfl).trans f9
            have hf8_5 : c_5 43 8 = 0 := by rw [hc_5]; exact up2_same
            refine E_load rfl rfl rfl ?_
            refine E_dup rfl rfl ?_
            refine E_getf (c := 12) (v := (0, (5 - ((r + 1 : Nat) : Int)))) rfl (hL.lt 43 rfl) (hL.k 43 rfl) rfl (fv hf9_5) ?_
            refine E_const rfl ?_
            refine E_add rfl ?_
            refine E_putg (cl := 12) rfl (hL.lt 43 rfl) (hL.k 43 rfl) rfl (fun c_6 hc_6 => ?_)
            have hE_6 : Eqk PS c_5 c_6 := by rw [hc_6]; exact Eqk.up rfl
            have hM_6 : Mc c_6 := by rw [hc_6]; exact hM_5.up43 rfl
            have hs_6 : c_6 44 = s := by rw [hc_6]; exact (up2_oth rfl).trans hs_5
            have hf5_6 : c_6 43 5 = ((act : Nat) : Int) := by rw [hc_6]; exact (up2_fld rfl).trans hf5_5
            have hf6_6 : c_6 43 6 = ((k : Nat) : Int) := by rw [hc_6]; exact (up2_fld rfl).trans hf6_5
            have hf7_6 : c_6 43 7 = ((n : Nat) : Int) := by rw [hc_6]; exact (up2_fld rfl).trans hf7_5
            have hf8_6 : c_6 43 8 = 0 := by rw [hc_6]; exact (up2_fld rfl).trans hf8_5
            have hf9_6 : c_6 43 9 = ((5 - ((r + 1 : Nat) : Int)) + 1) := by rw [hc_6]; exact up2_same
            refine E_load rfl rfl rfl ?_
            refine E_dup rfl rfl ?_
            refine E_getf (c := 12) (v := (0, ((k : Nat) : Int))) rfl (hL.lt 43 rfl) (hL.k 43 rfl) rfl (fv hf6_6) ?_
            refine E_load rfl rfl rfl ?_
            refine E_getf (c := 12) (v := (0, 0)) rfl (hL.lt 43 rfl) (hL.k 43 rfl) rfl (fv hf8_6) ?_
            refine E_if0 rfl (by omega) (fun q9 => ?_) (fun q9 => ?_)
            · refine E_const rfl ?_
              refine E_add rfl ?_
              refine E_putg (cl := 12) rfl (hL.lt 43 rfl) (hL.k 43 rfl) rfl (fun c_7 hc_7 => ?_)
              have hE_7 : Eqk PS c_6 c_7 := by rw [hc_7]; exact Eqk.up rfl
              have hM_7 : Mc c_7 := by rw [hc_7]; exact hM_6.up43 rfl
              have hs_7 : c_7 44 = s := by rw [hc_7]; exact (up2_oth rfl).trans hs_6
              have hf5_7 : c_7 43 5 = ((act : Nat) : Int) := by rw [hc_7]; exact (up2_fld rfl).trans hf5_6
              have hf7_7 : c_7 43 7 = ((n : Nat) : Int) := by rw [hc_7]; exact (up2_fld rfl).trans hf7_6
              have hf8_7 : c_7 43 8 = 0 := by rw [hc_7]; exact (up2_fld rfl).trans hf8_6
              have hf9_7 : c_7 43 9 = ((5 - ((r + 1 : Nat) : Int)) + 1) := by rw [hc_7]; exact (up2_fld rfl).trans hf9_6
              have hf6_7 : c_7 43 6 = (((k : Nat) : Int) + 1) := by rw [hc_7]; exact up2_same
              refine E_load rfl rfl rfl ?_
              refine E_const rfl ?_
              refine E_cmp1 rfl (by omega) (fun q10 => ?_) (fun q10 => ?_)
              · refine E_load rfl rfl rfl ?_
                refine E_V0 (q := 43) (c := 12) (y := 158) rfl rfl (hL.lt 43 rfl) (hL.k 43 rfl) rfl rfl rfl rfl (hSm (k + 1) s L c_7 (hlt (by omega)) (by omega) ⟨hM_7, hs_7, hf5_7, hf6_7, hf7_7, hf8_7, hf9_7.trans (by omega)⟩ hT hS) (fun r h2 hq => ?_)
                obtain ⟨rfl, c_8, s_8, hh, hQ_8, hG_8, hS_8, hE_8⟩ := hq
                subst hh
                obtain ⟨hM_8, hs_8, hf5_8, hf6_8, hf7_8, hf8_8, hf9_8⟩ := hQ_8
                have hg : g k = 40 := by omega
                have hw := pSome_wf hE r (k + 1) (hlt (by omega))
                rcases Bool.eq_false_or_eq_true ((pSome g r (k + 1)).1) with hb | hb
                · rw [if_pos hb] at hf8_8
                  refine E_load rfl rfl rfl ?_
                  refine E_const rfl ?_
                  refine E_V1 (q := 43) (c := 12) (y := 151) rfl rfl (hL.lt 43 rfl) (hL.k 43 rfl) rfl rfl rfl rfl (n_must0 (k := (pSome g r (k + 1)).2.1) hL ⟨hM_8, hs_8, hf5_8, hf6_8, hf7_8, hf8_8, hf9_8⟩ hE (hT.rg hG_8 hn) hw.1.2 (by decide)) (fun r h2 hq => ?_)
                  obtain ⟨rfl, c_9, hh, hQ_9, hE_9⟩ := hq
                  subst hh
                  obtain ⟨hM_9, hs_9, hf5_9, hf6_9, hf7_9, hf8_9, hf9_9⟩ := hQ_9
                  refine E_load rfl rfl rfl ?_
                  refine E_dup rfl rfl ?_
                  refine E_getf (c := 12) (v := (0, (5 - (r : Int)))) rfl (hL.lt 43 rfl) (hL.k 43 rfl) rfl (fv hf9_9) ?_
                  refine E_const rfl ?_
                  refine E_sub rfl ?_
                  refine E_putg (cl := 12) rfl (hL.lt 43 rfl) (hL.k 43 rfl) rfl (fun c_10 hc_10 => ?_)
                  have hE_10 : Eqk PS c_9 c_10 := by rw [hc_10]; exact Eqk.up rfl
                  have hM_10 : Mc c_10 := by rw [hc_10]; exact hM_9.up43 rfl
                  have hs_10 : c_10 44 = s_8 := by rw [hc_10]; exact (up2_oth rfl).trans hs_9
                  have hf5_10 : c_10 43 5 = ((act : Nat) : Int) := by rw [hc_10]; exact (up2_fld rfl).trans hf5_9
                  have hf6_10 : c_10 43 6 = (((if g (pSome g r (k + 1)).2.1 = 41 then (pSome g r (k + 1)).2.1 + 1 else (pSome g r (k + 1)).2.1) : Nat) : Int) := by rw [hc_10]; exact (up2_fld rfl).trans hf6_9
                  have hf7_10 : c_10 43 7 = ((n : Nat) : Int) := by rw [hc_10]; exact (up2_fld rfl).trans hf7_9
                  have hf8_10 : c_10 43 8 = (if g (pSome g r (k + 1)).2.1 = 41 then 0 else 1) := by rw [hc_10]; exact (up2_fld rfl).trans hf8_9
                  have hf9_10 : c_10 43 9 = ((5 - (r : Int)) - 1) := by rw [hc_10]; exact up2_same
                  refine E_vret rfl ?_
                  rw [pFac_bra hg]
                  by_cases h41 : g (pSome g r (k + 1)).2.1 = 41
                  · rw [if_pos h41] at hf6_10 hf8_10
                    rw [show pBra g (pSome g r (k + 1)) = (true, (pSome g r (k + 1)).2.1 + 1, (pSome g r (k + 1)).2.2) from (if_pos hb).trans (if_pos h41)]
                    exact RdQ.yes ⟨hM_10, hs_10, hf5_10, hf6_10, hf7_10, hf8_10, hf9_10.trans (by omega)⟩ hG_8 (hS_8 hb) (hE_5.trans (hE_6.trans (hE_7.trans (hE_8.trans (hE_9.trans hE_10)))))
                  · rw [if_neg h41] at hf6_10 hf8_10
                    rw [show pBra g (pSome g r (k + 1)) = (false, (pSome g r (k + 1)).2.1, []) from (if_pos hb).trans (if_neg h41)]
                    exact RdQ.no ⟨hM_10, hs_10, hf5_10, hf6_10, hf7_10, hf8_10, hf9_10.trans (by omega)⟩ hG_8 (hE_5.trans (hE_6.trans (hE_7.trans (hE_8.trans (hE_9.trans hE_10)))))
                · rw [if_neg (by rw [hb]; decide)] at hf8_8
                  refine E_load rfl rfl rfl ?_
                  refine E_const rfl ?_
                  refine E_V1 (q := 43) (c := 12) (y := 151) rfl rfl (hL.lt 43 rfl) (hL.k 43 rfl) rfl rfl rfl rfl (n_mustW (k := (pSome g r (k + 1)).2.1) hL ⟨hM_8, hs_8, hf5_8, hf6_8, hf7_8, hf8_8, hf9_8⟩) (fun r h2 hq => ?_)
                  obtain ⟨rfl, c_9, hh, hQ_9, hE_9⟩ := hq
                  subst hh
                  obtain ⟨hM_9, hs_9, hf5_9, hf6_9, hf7_9, hf8_9, hf9_9⟩ := hQ_9
                  refine E_load rfl rfl rfl ?_
                  refine E_dup rfl rfl ?_
                  refine E_getf (c := 12) (v := (0, (5 - (r : Int)))) rfl (hL.lt 43 rfl) (hL.k 43 rfl) rfl (fv hf9_9) ?_
                  refine E_const rfl ?_
                  refine E_sub rfl ?_
                  refine E_putg (cl := 12) rfl (hL.lt 43 rfl) (hL.k 43 rfl) rfl (fun c_10 hc_10 => ?_)
                  have hE_10 : Eqk PS c_9 c_10 := by rw [hc_10]; exact Eqk.up rfl
                  have hM_10 : Mc c_10 := by rw [hc_10]; exact hM_9.up43 rfl
                  have hs_10 : c_10 44 = s_8 := by rw [hc_10]; exact (up2_oth rfl).trans hs_9
                  have hf5_10 : c_10 43 5 = ((act : Nat) : Int) := by rw [hc_10]; exact (up2_fld rfl).trans hf5_9
                  have hf6_10 : c_10 43 6 = (((pSome g r (k + 1)).2.1 : Nat) : Int) := by rw [hc_10]; exact (up2_fld rfl).trans hf6_9
                  have hf7_10 : c_10 43 7 = ((n : Nat) : Int) := by rw [hc_10]; exact (up2_fld rfl).trans hf7_9
                  have hf8_10 : c_10 43 8 = 1 := by rw [hc_10]; exact (up2_fld rfl).trans hf8_9
                  have hf9_10 : c_10 43 9 = ((5 - (r : Int)) - 1) := by rw [hc_10]; exact up2_same
                  refine E_vret rfl ?_
                  rw [pFac_bra hg, show pBra g (pSome g r (k + 1)) = (false, (pSome g r (k + 1)).2.1, []) from if_neg (by rw [hb]; decide)]
                  exact RdQ.no ⟨hM_10, hs_10, hf5_10, hf6_10, hf7_10, hf8_10, hf9_10.trans (by omega)⟩ hG_8 (hE_5.trans (hE_6.trans (hE_7.trans (hE_8.trans (hE_9.trans hE_10)))))
              · exfalso; omega
            · exfalso; omega
          · exfalso; omega
    · refine E_load rfl rfl rfl ?_
      refine E_const rfl ?_
      refine E_cmp0 rfl (by omega) (fun q11 => ?_) (fun q11 => ?_)
      · exfalso; omega
      · refine E_load rfl rfl rfl ?_
        refine E_const rfl ?_
        refine E_cmp1 rfl (by omega) (fun q12 => ?_) (fun q12 => ?_)
        · rw [pFac_tst (show g k ≠ 33 by omega) (show g k ≠ 40 by omega)]
          exact n_test hL hE hact hk hl hRR hT hS
        · exfalso; omega
  · exfalso; omega
theorem n_factor {h : Hp} {g : Nat → Int} {act n : Nat} (hL : Lay h) (hE : Ends g n) (hact : act ≤ 4) : ∀ (r D M : Nat), r ≤ 100 → M = D + 3 * r + 3 → ItOK h g act n M 156 (5 - (r : Int)) (pFac g r)
  | 0, D, M, _, hM => by subst hM; exact n_fac0 hL hE hact
  | r + 1, D, M, hr, hM => by
    obtain rfl : M = (D + 3 * r + 3) + 3 := by omega
    refine n_facS hL hE hact (by omega) (n_factor hL hE hact r (D + 2) _ (by omega) (by omega)) ?_
    exact n_some (D := D + 3 * r + 3) hL hE hact (fun k hk => pEvery_wf hE r k hk) (n_every (D := D + 3 * r + 2) hL hE hact (fun k hk => pFac_wf hE r k hk) (n_factor hL hE hact r D _ (by omega) rfl))
theorem n_someR {h : Hp} {g : Nat → Int} {act n : Nat} (hL : Lay h) (hE : Ends g n) (hact : act ≤ 4) (r D M : Nat) (hr : r ≤ 100) (hM : M = D + 3 * r + 5) : ItOK h g act n M 158 (5 - (r : Int)) (pSome g r) := by
  subst hM
  exact n_some (D := D + 3 * r + 3) hL hE hact (fun k hk => pEvery_wf hE r k hk) (n_every (D := D + 3 * r + 2) hL hE hact (fun k hk => pFac_wf hE r k hk) (n_factor hL hE hact r D _ hr rfl))
