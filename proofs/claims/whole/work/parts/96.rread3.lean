set_option maxHeartbeats 4000000 in
set_option maxRecDepth 100000 in
theorem n_amL {d : Nat} {h : Hp} {c : Nat → Nat → Int} {s g : Nat → Int} {act n k : Nat} {w o : Int} (hL : Lay h) (hR : RS c s act n k w o) (hE : Ends g n) (hT : TpR s g n) (hk : k ≤ n) : Ok (d + 1) 154 [(1, ((43 : Nat) : Int)), (1, -17)] (wC h c) (fun r h2 => r = some (0, if isLt (g k) then ((ltP (g k) : Nat) : Int) else -1) ∧ ∃ c2, h2 = wC h c2 ∧ RS c2 s act n (if isLt (g k) then k + 1 else k) (w) o ∧ Eqk PS c c2) := by
  show Ex _ none t_X11_among 0 0 _ [] (wC h c) _
  obtain ⟨hM, hs, f5, f6, f7, f8, f9⟩ := hR
  have hn := hE.1
  have hr := hrV_or hE k
  refine E_const rfl ?_
  refine E_store rfl rfl rfl ?_
  refine E_load rfl rfl rfl ?_
  refine E_load rfl rfl rfl ?_
  refine E_pri (as := [(1, (-17))]) (rest := _) (v := (0, 6)) rfl rfl rfl rfl (rfl) ?_
  refine E_cmp3 rfl (by omega) (fun q1 => ?_) (fun q1 => ?_)
  · exfalso; omega
  · refine E_load rfl rfl rfl ?_
    refine E_V0 (q := 43) (c := 12) (y := 150) rfl rfl (hL.lt 43 rfl) (hL.k 43 rfl) rfl rfl rfl rfl (n_here (k := k) hL ⟨hM, hs, f5, f6, f7, f8, f9⟩ hE hT (by omega)) (fun r h2 hq => ?_)
    obtain ⟨rfl, hh⟩ := hq
    subst hh
    refine E_load rfl rfl rfl ?_
    refine E_load rfl rfl rfl ?_
    refine E_pri (as := [(1, (-17)), (0, 0)]) (rest := _) (v := (0, 98)) rfl rfl rfl rfl (rfl) ?_
    refine E_cmp1 rfl (by omega) (fun q2 => ?_) (fun q2 => ?_)
    · refine E_iinc rfl rfl rfl ?_
      refine E_goto rfl ?_
      refine E_load rfl rfl rfl ?_
      refine E_load rfl rfl rfl ?_
      refine E_pri (as := [(1, (-17))]) (rest := _) (v := (0, 6)) rfl rfl rfl rfl (rfl) ?_
      refine E_cmp3 rfl (by omega) (fun q3 => ?_) (fun q3 => ?_)
      · exfalso; omega
      · refine E_load rfl rfl rfl ?_
        refine E_V0 (q := 43) (c := 12) (y := 150) rfl rfl (hL.lt 43 rfl) (hL.k 43 rfl) rfl rfl rfl rfl (n_here (k := k) hL ⟨hM, hs, f5, f6, f7, f8, f9⟩ hE hT (by omega)) (fun r h2 hq => ?_)
        obtain ⟨rfl, hh⟩ := hq
        subst hh
        refine E_load rfl rfl rfl ?_
        refine E_load rfl rfl rfl ?_
        refine E_pri (as := [(1, (-17)), (0, 1)]) (rest := _) (v := (0, 107)) rfl rfl rfl rfl (rfl) ?_
        refine E_cmp1 rfl (by omega) (fun q4 => ?_) (fun q4 => ?_)
        · refine E_iinc rfl rfl rfl ?_
          refine E_goto rfl ?_
          refine E_load rfl rfl rfl ?_
          refine E_load rfl rfl rfl ?_
          refine E_pri (as := [(1, (-17))]) (rest := _) (v := (0, 6)) rfl rfl rfl rfl (rfl) ?_
          refine E_cmp3 rfl (by omega) (fun q5 => ?_) (fun q5 => ?_)
          · exfalso; omega
          · refine E_load rfl rfl rfl ?_
            refine E_V0 (q := 43) (c := 12) (y := 150) rfl rfl (hL.lt 43 rfl) (hL.k 43 rfl) rfl rfl rfl rfl (n_here (k := k) hL ⟨hM, hs, f5, f6, f7, f8, f9⟩ hE hT (by omega)) (fun r h2 hq => ?_)
            obtain ⟨rfl, hh⟩ := hq
            subst hh
            refine E_load rfl rfl rfl ?_
            refine E_load rfl rfl rfl ?_
            refine E_pri (as := [(1, (-17)), (0, 2)]) (rest := _) (v := (0, 118)) rfl rfl rfl rfl (rfl) ?_
            refine E_cmp1 rfl (by omega) (fun q6 => ?_) (fun q6 => ?_)
            · refine E_iinc rfl rfl rfl ?_
              refine E_goto rfl ?_
              refine E_load rfl rfl rfl ?_
              refine E_load rfl rfl rfl ?_
              refine E_pri (as := [(1, (-17))]) (rest := _) (v := (0, 6)) rfl rfl rfl rfl (rfl) ?_
              refine E_cmp3 rfl (by omega) (fun q7 => ?_) (fun q7 => ?_)
              · exfalso; omega
              · refine E_load rfl rfl rfl ?_
                refine E_V0 (q := 43) (c := 12) (y := 150) rfl rfl (hL.lt 43 rfl) (hL.k 43 rfl) rfl rfl rfl rfl (n_here (k := k) hL ⟨hM, hs, f5, f6, f7, f8, f9⟩ hE hT (by omega)) (fun r h2 hq => ?_)
                obtain ⟨rfl, hh⟩ := hq
                subst hh
                refine E_load rfl rfl rfl ?_
                refine E_load rfl rfl rfl ?_
                refine E_pri (as := [(1, (-17)), (0, 3)]) (rest := _) (v := (0, 121)) rfl rfl rfl rfl (rfl) ?_
                refine E_cmp1 rfl (by omega) (fun q8 => ?_) (fun q8 => ?_)
                · refine E_iinc rfl rfl rfl ?_
                  refine E_goto rfl ?_
                  refine E_load rfl rfl rfl ?_
                  refine E_load rfl rfl rfl ?_
                  refine E_pri (as := [(1, (-17))]) (rest := _) (v := (0, 6)) rfl rfl rfl rfl (rfl) ?_
                  refine E_cmp3 rfl (by omega) (fun q9 => ?_) (fun q9 => ?_)
                  · exfalso; omega
                  · refine E_load rfl rfl rfl ?_
                    refine E_V0 (q := 43) (c := 12) (y := 150) rfl rfl (hL.lt 43 rfl) (hL.k 43 rfl) rfl rfl rfl rfl (n_here (k := k) hL ⟨hM, hs, f5, f6, f7, f8, f9⟩ hE hT (by omega)) (fun r h2 hq => ?_)
                    obtain ⟨rfl, hh⟩ := hq
                    subst hh
                    refine E_load rfl rfl rfl ?_
                    refine E_load rfl rfl rfl ?_
                    refine E_pri (as := [(1, (-17)), (0, 4)]) (rest := _) (v := (0, 113)) rfl rfl rfl rfl (rfl) ?_
                    refine E_cmp1 rfl (by omega) (fun q10 => ?_) (fun q10 => ?_)
                    · refine E_iinc rfl rfl rfl ?_
                      refine E_goto rfl ?_
                      refine E_load rfl rfl rfl ?_
                      refine E_load rfl rfl rfl ?_
                      refine E_pri (as := [(1, (-17))]) (rest := _) (v := (0, 6)) rfl rfl rfl rfl (rfl) ?_
                      refine E_cmp3 rfl (by omega) (fun q11 => ?_) (fun q11 => ?_)
                      · exfalso; omega
                      · refine E_load rfl rfl rfl ?_
                        refine E_V0 (q := 43) (c := 12) (y := 150) rfl rfl (hL.lt 43 rfl) (hL.k 43 rfl) rfl rfl rfl rfl (n_here (k := k) hL ⟨hM, hs, f5, f6, f7, f8, f9⟩ hE hT (by omega)) (fun r h2 hq => ?_)
                        obtain ⟨rfl, hh⟩ := hq
                        subst hh
                        refine E_load rfl rfl rfl ?_
                        refine E_load rfl rfl rfl ?_
                        refine E_pri (as := [(1, (-17)), (0, 5)]) (rest := _) (v := (0, 119)) rfl rfl rfl rfl (rfl) ?_
                        refine E_cmp1 rfl (by omega) (fun q12 => ?_) (fun q12 => ?_)
                        · refine E_iinc rfl rfl rfl ?_
                          refine E_goto rfl ?_
                          refine E_load rfl rfl rfl ?_
                          refine E_load rfl rfl rfl ?_
                          refine E_pri (as := [(1, (-17))]) (rest := _) (v := (0, 6)) rfl rfl rfl rfl (rfl) ?_
                          refine E_cmp3 rfl (by omega) (fun q13 => ?_) (fun q13 => ?_)
                          · refine E_const rfl ?_
                            refine E_iret rfl (fun h => absurd h (by decide)) ?_
                            have e0 : ¬ isLt (g k) := fun z => by rcases z with z | z | z | z | z | z <;> omega
                            rw [if_neg e0, if_neg e0]
                            exact ⟨rfl, c, rfl, ⟨hM, hs, f5, f6, f7, f8, f9⟩, Eqk.nil⟩
                          · exfalso; omega
                        · refine E_load rfl rfl rfl ?_
                          refine E_dup rfl rfl ?_
                          refine E_getf (c := 12) (v := (0, ((k : Nat) : Int))) rfl (hL.lt 43 rfl) (hL.k 43 rfl) rfl (fv f6) ?_
                          refine E_const rfl ?_
                          refine E_add rfl ?_
                          refine E_putg (cl := 12) rfl (hL.lt 43 rfl) (hL.k 43 rfl) rfl (fun c_1 hc_1 => ?_)
                          have hE_1 : Eqk PS c c_1 := by rw [hc_1]; exact Eqk.up rfl
                          have hM_1 : Mc c_1 := by rw [hc_1]; exact hM.up43 rfl
                          have hs_1 : c_1 44 = s := by rw [hc_1]; exact (up2_oth rfl).trans hs
                          have hf5_1 : c_1 43 5 = ((act : Nat) : Int) := by rw [hc_1]; exact (up2_fld rfl).trans f5
                          have hf7_1 : c_1 43 7 = ((n : Nat) : Int) := by rw [hc_1]; exact (up2_fld rfl).trans f7
                          have hf8_1 : c_1 43 8 = w := by rw [hc_1]; exact (up2_fld rfl).trans f8
                          have hf9_1 : c_1 43 9 = o := by rw [hc_1]; exact (up2_fld rfl).trans f9
                          have hf6_1 : c_1 43 6 = (((k : Nat) : Int) + 1) := by rw [hc_1]; exact up2_same
                          refine E_load rfl rfl rfl ?_
                          refine E_iret rfl (fun h => absurd h (by decide)) ?_
                          have e1 : g k = 119 := by omega
                          have e0 : isLt (g k) := by rw [e1]; decide
                          rw [if_pos e0, if_pos e0, e1]
                          exact ⟨rfl, c_1, rfl, ⟨hM_1, hs_1, hf5_1, hf6_1, hf7_1, hf8_1, hf9_1⟩, hE_1⟩
                    · refine E_load rfl rfl rfl ?_
                      refine E_dup rfl rfl ?_
                      refine E_getf (c := 12) (v := (0, ((k : Nat) : Int))) rfl (hL.lt 43 rfl) (hL.k 43 rfl) rfl (fv f6) ?_
                      refine E_const rfl ?_
                      refine E_add rfl ?_
                      refine E_putg (cl := 12) rfl (hL.lt 43 rfl) (hL.k 43 rfl) rfl (fun c_2 hc_2 => ?_)
                      have hE_2 : Eqk PS c c_2 := by rw [hc_2]; exact Eqk.up rfl
                      have hM_2 : Mc c_2 := by rw [hc_2]; exact hM.up43 rfl
                      have hs_2 : c_2 44 = s := by rw [hc_2]; exact (up2_oth rfl).trans hs
                      have hf5_2 : c_2 43 5 = ((act : Nat) : Int) := by rw [hc_2]; exact (up2_fld rfl).trans f5
                      have hf7_2 : c_2 43 7 = ((n : Nat) : Int) := by rw [hc_2]; exact (up2_fld rfl).trans f7
                      have hf8_2 : c_2 43 8 = w := by rw [hc_2]; exact (up2_fld rfl).trans f8
                      have hf9_2 : c_2 43 9 = o := by rw [hc_2]; exact (up2_fld rfl).trans f9
                      have hf6_2 : c_2 43 6 = (((k : Nat) : Int) + 1) := by rw [hc_2]; exact up2_same
                      refine E_load rfl rfl rfl ?_
                      refine E_iret rfl (fun h => absurd h (by decide)) ?_
                      have e1 : g k = 113 := by omega
                      have e0 : isLt (g k) := by rw [e1]; decide
                      rw [if_pos e0, if_pos e0, e1]
                      exact ⟨rfl, c_2, rfl, ⟨hM_2, hs_2, hf5_2, hf6_2, hf7_2, hf8_2, hf9_2⟩, hE_2⟩
                · refine E_load rfl rfl rfl ?_
                  refine E_dup rfl rfl ?_
                  refine E_getf (c := 12) (v := (0, ((k : Nat) : Int))) rfl (hL.lt 43 rfl) (hL.k 43 rfl) rfl (fv f6) ?_
                  refine E_const rfl ?_
                  refine E_add rfl ?_
                  refine E_putg (cl := 12) rfl (hL.lt 43 rfl) (hL.k 43 rfl) rfl (fun c_3 hc_3 => ?_)
                  have hE_3 : Eqk PS c c_3 := by rw [hc_3]; exact Eqk.up rfl
                  have hM_3 : Mc c_3 := by rw [hc_3]; exact hM.up43 rfl
                  have hs_3 : c_3 44 = s := by rw [hc_3]; exact (up2_oth rfl).trans hs
                  have hf5_3 : c_3 43 5 = ((act : Nat) : Int) := by rw [hc_3]; exact (up2_fld rfl).trans f5
                  have hf7_3 : c_3 43 7 = ((n : Nat) : Int) := by rw [hc_3]; exact (up2_fld rfl).trans f7
                  have hf8_3 : c_3 43 8 = w := by rw [hc_3]; exact (up2_fld rfl).trans f8
                  have hf9_3 : c_3 43 9 = o := by rw [hc_3]; exact (up2_fld rfl).trans f9
                  have hf6_3 : c_3 43 6 = (((k : Nat) : Int) + 1) := by rw [hc_3]; exact up2_same
                  refine E_load rfl rfl rfl ?_
                  refine E_iret rfl (fun h => absurd h (by decide)) ?_
                  have e1 : g k = 121 := by omega
                  have e0 : isLt (g k) := by rw [e1]; decide
                  rw [if_pos e0, if_pos e0, e1]
                  exact ⟨rfl, c_3, rfl, ⟨hM_3, hs_3, hf5_3, hf6_3, hf7_3, hf8_3, hf9_3⟩, hE_3⟩
            · refine E_load rfl rfl rfl ?_
              refine E_dup rfl rfl ?_
              refine E_getf (c := 12) (v := (0, ((k : Nat) : Int))) rfl (hL.lt 43 rfl) (hL.k 43 rfl) rfl (fv f6) ?_
              refine E_const rfl ?_
              refine E_add rfl ?_
              refine E_putg (cl := 12) rfl (hL.lt 43 rfl) (hL.k 43 rfl) rfl (fun c_4 hc_4 => ?_)
              have hE_4 : Eqk PS c c_4 := by rw [hc_4]; exact Eqk.up rfl
              have hM_4 : Mc c_4 := by rw [hc_4]; exact hM.up43 rfl
              have hs_4 : c_4 44 = s := by rw [hc_4]; exact (up2_oth rfl).trans hs
              have hf5_4 : c_4 43 5 = ((act : Nat) : Int) := by rw [hc_4]; exact (up2_fld rfl).trans f5
              have hf7_4 : c_4 43 7 = ((n : Nat) : Int) := by rw [hc_4]; exact (up2_fld rfl).trans f7
              have hf8_4 : c_4 43 8 = w := by rw [hc_4]; exact (up2_fld rfl).trans f8
              have hf9_4 : c_4 43 9 = o := by rw [hc_4]; exact (up2_fld rfl).trans f9
              have hf6_4 : c_4 43 6 = (((k : Nat) : Int) + 1) := by rw [hc_4]; exact up2_same
              refine E_load rfl rfl rfl ?_
              refine E_iret rfl (fun h => absurd h (by decide)) ?_
              have e1 : g k = 118 := by omega
              have e0 : isLt (g k) := by rw [e1]; decide
              rw [if_pos e0, if_pos e0, e1]
              exact ⟨rfl, c_4, rfl, ⟨hM_4, hs_4, hf5_4, hf6_4, hf7_4, hf8_4, hf9_4⟩, hE_4⟩
        · refine E_load rfl rfl rfl ?_
          refine E_dup rfl rfl ?_
          refine E_getf (c := 12) (v := (0, ((k : Nat) : Int))) rfl (hL.lt 43 rfl) (hL.k 43 rfl) rfl (fv f6) ?_
          refine E_const rfl ?_
          refine E_add rfl ?_
          refine E_putg (cl := 12) rfl (hL.lt 43 rfl) (hL.k 43 rfl) rfl (fun c_5 hc_5 => ?_)
          have hE_5 : Eqk PS c c_5 := by rw [hc_5]; exact Eqk.up rfl
          have hM_5 : Mc c_5 := by rw [hc_5]; exact hM.up43 rfl
          have hs_5 : c_5 44 = s := by rw [hc_5]; exact (up2_oth rfl).trans hs
          have hf5_5 : c_5 43 5 = ((act : Nat) : Int) := by rw [hc_5]; exact (up2_fld rfl).trans f5
          have hf7_5 : c_5 43 7 = ((n : Nat) : Int) := by rw [hc_5]; exact (up2_fld rfl).trans f7
          have hf8_5 : c_5 43 8 = w := by rw [hc_5]; exact (up2_fld rfl).trans f8
          have hf9_5 : c_5 43 9 = o := by rw [hc_5]; exact (up2_fld rfl).trans f9
          have hf6_5 : c_5 43 6 = (((k : Nat) : Int) + 1) := by rw [hc_5]; exact up2_same
          refine E_load rfl rfl rfl ?_
          refine E_iret rfl (fun h => absurd h (by decide)) ?_
          have e1 : g k = 107 := by omega
          have e0 : isLt (g k) := by rw [e1]; decide
          rw [if_pos e0, if_pos e0, e1]
          exact ⟨rfl, c_5, rfl, ⟨hM_5, hs_5, hf5_5, hf6_5, hf7_5, hf8_5, hf9_5⟩, hE_5⟩
    · refine E_load rfl rfl rfl ?_
      refine E_dup rfl rfl ?_
      refine E_getf (c := 12) (v := (0, ((k : Nat) : Int))) rfl (hL.lt 43 rfl) (hL.k 43 rfl) rfl (fv f6) ?_
      refine E_const rfl ?_
      refine E_add rfl ?_
      refine E_putg (cl := 12) rfl (hL.lt 43 rfl) (hL.k 43 rfl) rfl (fun c_6 hc_6 => ?_)
      have hE_6 : Eqk PS c c_6 := by rw [hc_6]; exact Eqk.up rfl
      have hM_6 : Mc c_6 := by rw [hc_6]; exact hM.up43 rfl
      have hs_6 : c_6 44 = s := by rw [hc_6]; exact (up2_oth rfl).trans hs
      have hf5_6 : c_6 43 5 = ((act : Nat) : Int) := by rw [hc_6]; exact (up2_fld rfl).trans f5
      have hf7_6 : c_6 43 7 = ((n : Nat) : Int) := by rw [hc_6]; exact (up2_fld rfl).trans f7
      have hf8_6 : c_6 43 8 = w := by rw [hc_6]; exact (up2_fld rfl).trans f8
      have hf9_6 : c_6 43 9 = o := by rw [hc_6]; exact (up2_fld rfl).trans f9
      have hf6_6 : c_6 43 6 = (((k : Nat) : Int) + 1) := by rw [hc_6]; exact up2_same
      refine E_load rfl rfl rfl ?_
      refine E_iret rfl (fun h => absurd h (by decide)) ?_
      have e1 : g k = 98 := by omega
      have e0 : isLt (g k) := by rw [e1]; decide
      rw [if_pos e0, if_pos e0, e1]
      exact ⟨rfl, c_6, rfl, ⟨hM_6, hs_6, hf5_6, hf6_6, hf7_6, hf8_6, hf9_6⟩, hE_6⟩
set_option maxHeartbeats 4000000 in
set_option maxRecDepth 100000 in
theorem n_amH {d : Nat} {h : Hp} {c : Nat → Nat → Int} {s g : Nat → Int} {act n k : Nat} {w o : Int} (hL : Lay h) (hR : RS c s act n k w o) (hE : Ends g n) (hT : TpR s g n) (hk : k ≤ n) : Ok (d + 1) 154 [(1, ((43 : Nat) : Int)), (1, -18)] (wC h c) (fun r h2 => r = some (0, if isHw (g k) then hwP (g k) else -1) ∧ ∃ c2, h2 = wC h c2 ∧ RS c2 s act n (if isHw (g k) then k + 1 else k) (w) o ∧ Eqk PS c c2) := by
  show Ex _ none t_X11_among 0 0 _ [] (wC h c) _
  obtain ⟨hM, hs, f5, f6, f7, f8, f9⟩ := hR
  have hn := hE.1
  have hr := hrV_or hE k
  refine E_const rfl ?_
  refine E_store rfl rfl rfl ?_
  refine E_load rfl rfl rfl ?_
  refine E_load rfl rfl rfl ?_
  refine E_pri (as := [(1, (-18))]) (rest := _) (v := (0, 3)) rfl rfl rfl rfl (rfl) ?_
  refine E_cmp3 rfl (by omega) (fun q1 => ?_) (fun q1 => ?_)
  · exfalso; omega
  · refine E_load rfl rfl rfl ?_
    refine E_V0 (q := 43) (c := 12) (y := 150) rfl rfl (hL.lt 43 rfl) (hL.k 43 rfl) rfl rfl rfl rfl (n_here (k := k) hL ⟨hM, hs, f5, f6, f7, f8, f9⟩ hE hT (by omega)) (fun r h2 hq => ?_)
    obtain ⟨rfl, hh⟩ := hq
    subst hh
    refine E_load rfl rfl rfl ?_
    refine E_load rfl rfl rfl ?_
    refine E_pri (as := [(1, (-18)), (0, 0)]) (rest := _) (v := (0, 60)) rfl rfl rfl rfl (rfl) ?_
    refine E_cmp1 rfl (by omega) (fun q2 => ?_) (fun q2 => ?_)
    · refine E_iinc rfl rfl rfl ?_
      refine E_goto rfl ?_
      refine E_load rfl rfl rfl ?_
      refine E_load rfl rfl rfl ?_
      refine E_pri (as := [(1, (-18))]) (rest := _) (v := (0, 3)) rfl rfl rfl rfl (rfl) ?_
      refine E_cmp3 rfl (by omega) (fun q3 => ?_) (fun q3 => ?_)
      · exfalso; omega
      · refine E_load rfl rfl rfl ?_
        refine E_V0 (q := 43) (c := 12) (y := 150) rfl rfl (hL.lt 43 rfl) (hL.k 43 rfl) rfl rfl rfl rfl (n_here (k := k) hL ⟨hM, hs, f5, f6, f7, f8, f9⟩ hE hT (by omega)) (fun r h2 hq => ?_)
        obtain ⟨rfl, hh⟩ := hq
        subst hh
        refine E_load rfl rfl rfl ?_
        refine E_load rfl rfl rfl ?_
        refine E_pri (as := [(1, (-18)), (0, 1)]) (rest := _) (v := (0, 61)) rfl rfl rfl rfl (rfl) ?_
        refine E_cmp1 rfl (by omega) (fun q4 => ?_) (fun q4 => ?_)
        · refine E_iinc rfl rfl rfl ?_
          refine E_goto rfl ?_
          refine E_load rfl rfl rfl ?_
          refine E_load rfl rfl rfl ?_
          refine E_pri (as := [(1, (-18))]) (rest := _) (v := (0, 3)) rfl rfl rfl rfl (rfl) ?_
          refine E_cmp3 rfl (by omega) (fun q5 => ?_) (fun q5 => ?_)
          · exfalso; omega
          · refine E_load rfl rfl rfl ?_
            refine E_V0 (q := 43) (c := 12) (y := 150) rfl rfl (hL.lt 43 rfl) (hL.k 43 rfl) rfl rfl rfl rfl (n_here (k := k) hL ⟨hM, hs, f5, f6, f7, f8, f9⟩ hE hT (by omega)) (fun r h2 hq => ?_)
            obtain ⟨rfl, hh⟩ := hq
            subst hh
            refine E_load rfl rfl rfl ?_
            refine E_load rfl rfl rfl ?_
            refine E_pri (as := [(1, (-18)), (0, 2)]) (rest := _) (v := (0, 62)) rfl rfl rfl rfl (rfl) ?_
            refine E_cmp1 rfl (by omega) (fun q6 => ?_) (fun q6 => ?_)
            · refine E_iinc rfl rfl rfl ?_
              refine E_goto rfl ?_
              refine E_load rfl rfl rfl ?_
              refine E_load rfl rfl rfl ?_
              refine E_pri (as := [(1, (-18))]) (rest := _) (v := (0, 3)) rfl rfl rfl rfl (rfl) ?_
              refine E_cmp3 rfl (by omega) (fun q7 => ?_) (fun q7 => ?_)
              · refine E_const rfl ?_
                refine E_iret rfl (fun h => absurd h (by decide)) ?_
                have e0 : ¬ isHw (g k) := fun z => by rcases z with z | z | z <;> omega
                rw [if_neg e0, if_neg e0]
                exact ⟨rfl, c, rfl, ⟨hM, hs, f5, f6, f7, f8, f9⟩, Eqk.nil⟩
              · exfalso; omega
            · refine E_load rfl rfl rfl ?_
              refine E_dup rfl rfl ?_
              refine E_getf (c := 12) (v := (0, ((k : Nat) : Int))) rfl (hL.lt 43 rfl) (hL.k 43 rfl) rfl (fv f6) ?_
              refine E_const rfl ?_
              refine E_add rfl ?_
              refine E_putg (cl := 12) rfl (hL.lt 43 rfl) (hL.k 43 rfl) rfl (fun c_1 hc_1 => ?_)
              have hE_1 : Eqk PS c c_1 := by rw [hc_1]; exact Eqk.up rfl
              have hM_1 : Mc c_1 := by rw [hc_1]; exact hM.up43 rfl
              have hs_1 : c_1 44 = s := by rw [hc_1]; exact (up2_oth rfl).trans hs
              have hf5_1 : c_1 43 5 = ((act : Nat) : Int) := by rw [hc_1]; exact (up2_fld rfl).trans f5
              have hf7_1 : c_1 43 7 = ((n : Nat) : Int) := by rw [hc_1]; exact (up2_fld rfl).trans f7
              have hf8_1 : c_1 43 8 = w := by rw [hc_1]; exact (up2_fld rfl).trans f8
              have hf9_1 : c_1 43 9 = o := by rw [hc_1]; exact (up2_fld rfl).trans f9
              have hf6_1 : c_1 43 6 = (((k : Nat) : Int) + 1) := by rw [hc_1]; exact up2_same
              refine E_load rfl rfl rfl ?_
              refine E_iret rfl (fun h => absurd h (by decide)) ?_
              have e1 : g k = 62 := by omega
              have e0 : isHw (g k) := by rw [e1]; decide
              rw [if_pos e0, if_pos e0, e1]
              exact ⟨rfl, c_1, rfl, ⟨hM_1, hs_1, hf5_1, hf6_1, hf7_1, hf8_1, hf9_1⟩, hE_1⟩
        · refine E_load rfl rfl rfl ?_
          refine E_dup rfl rfl ?_
          refine E_getf (c := 12) (v := (0, ((k : Nat) : Int))) rfl (hL.lt 43 rfl) (hL.k 43 rfl) rfl (fv f6) ?_
          refine E_const rfl ?_
          refine E_add rfl ?_
          refine E_putg (cl := 12) rfl (hL.lt 43 rfl) (hL.k 43 rfl) rfl (fun c_2 hc_2 => ?_)
          have hE_2 : Eqk PS c c_2 := by rw [hc_2]; exact Eqk.up rfl
          have hM_2 : Mc c_2 := by rw [hc_2]; exact hM.up43 rfl
          have hs_2 : c_2 44 = s := by rw [hc_2]; exact (up2_oth rfl).trans hs
          have hf5_2 : c_2 43 5 = ((act : Nat) : Int) := by rw [hc_2]; exact (up2_fld rfl).trans f5
          have hf7_2 : c_2 43 7 = ((n : Nat) : Int) := by rw [hc_2]; exact (up2_fld rfl).trans f7
          have hf8_2 : c_2 43 8 = w := by rw [hc_2]; exact (up2_fld rfl).trans f8
          have hf9_2 : c_2 43 9 = o := by rw [hc_2]; exact (up2_fld rfl).trans f9
          have hf6_2 : c_2 43 6 = (((k : Nat) : Int) + 1) := by rw [hc_2]; exact up2_same
          refine E_load rfl rfl rfl ?_
          refine E_iret rfl (fun h => absurd h (by decide)) ?_
          have e1 : g k = 61 := by omega
          have e0 : isHw (g k) := by rw [e1]; decide
          rw [if_pos e0, if_pos e0, e1]
          exact ⟨rfl, c_2, rfl, ⟨hM_2, hs_2, hf5_2, hf6_2, hf7_2, hf8_2, hf9_2⟩, hE_2⟩
    · refine E_load rfl rfl rfl ?_
      refine E_dup rfl rfl ?_
      refine E_getf (c := 12) (v := (0, ((k : Nat) : Int))) rfl (hL.lt 43 rfl) (hL.k 43 rfl) rfl (fv f6) ?_
      refine E_const rfl ?_
      refine E_add rfl ?_
      refine E_putg (cl := 12) rfl (hL.lt 43 rfl) (hL.k 43 rfl) rfl (fun c_3 hc_3 => ?_)
      have hE_3 : Eqk PS c c_3 := by rw [hc_3]; exact Eqk.up rfl
      have hM_3 : Mc c_3 := by rw [hc_3]; exact hM.up43 rfl
      have hs_3 : c_3 44 = s := by rw [hc_3]; exact (up2_oth rfl).trans hs
      have hf5_3 : c_3 43 5 = ((act : Nat) : Int) := by rw [hc_3]; exact (up2_fld rfl).trans f5
      have hf7_3 : c_3 43 7 = ((n : Nat) : Int) := by rw [hc_3]; exact (up2_fld rfl).trans f7
      have hf8_3 : c_3 43 8 = w := by rw [hc_3]; exact (up2_fld rfl).trans f8
      have hf9_3 : c_3 43 9 = o := by rw [hc_3]; exact (up2_fld rfl).trans f9
      have hf6_3 : c_3 43 6 = (((k : Nat) : Int) + 1) := by rw [hc_3]; exact up2_same
      refine E_load rfl rfl rfl ?_
      refine E_iret rfl (fun h => absurd h (by decide)) ?_
      have e1 : g k = 60 := by omega
      have e0 : isHw (g k) := by rw [e1]; decide
      rw [if_pos e0, if_pos e0, e1]
      exact ⟨rfl, c_3, rfl, ⟨hM_3, hs_3, hf5_3, hf6_3, hf7_3, hf8_3, hf9_3⟩, hE_3⟩
set_option maxHeartbeats 4000000 in
set_option maxRecDepth 100000 in
theorem n_emits {d : Nat} {h : Hp} {c : Nat → Nat → Int} {s : Nat → Int} {act n k : Nat} {o : Int} (hL : Lay h) (hR : RS c s act n k 0 o) (hact : act ≤ 4) {L : List Int} (hS : StR s act L) (hl : L.length ≤ 100) {x : Int} : Ok (d) 155 [(1, ((43 : Nat) : Int)), (0, x)] (wC h c) (fun r h2 => r = none ∧ ∃ c2 s2, h2 = wC h c2 ∧ RS c2 s2 act n k 0 o ∧ Rg act s s2 ∧ StR s2 act (L ++ [x]) ∧ Eqk PS c c2) := by
  show Ex _ none t_X11_emits 0 0 _ [] (wC h c) _
  obtain ⟨hM, hs, f5, f6, f7, f8, f9⟩ := hR
  refine E_load rfl rfl rfl ?_
  refine E_getf (c := 12) (v := (0, 0)) rfl (hL.lt 43 rfl) (hL.k 43 rfl) rfl (fv f8) ?_
  refine E_if1 rfl (by omega) (fun q1 => ?_) (fun q1 => ?_)
  · exfalso; omega
  · refine E_load rfl rfl rfl ?_
    refine E_getr (c := 12) (r := 44) rfl (hL.lt 43 rfl) (hL.k 43 rfl) rfl hM.c1 ?_
    refine E_const rfl ?_
    refine E_const rfl ?_
    refine E_load rfl rfl rfl ?_
    refine E_getf (c := 12) (v := (0, ((act : Nat) : Int))) rfl (hL.lt 43 rfl) (hL.k 43 rfl) rfl (fv f5) ?_
    refine E_mul rfl ?_
    refine E_add rfl ?_
    refine E_load rfl rfl rfl ?_
    refine E_getr (c := 12) (r := 44) rfl (hL.lt 43 rfl) (hL.k 43 rfl) rfl hM.c1 ?_
    refine E_const rfl ?_
    refine E_load rfl rfl rfl ?_
    refine E_getf (c := 12) (v := (0, ((act : Nat) : Int))) rfl (hL.lt 43 rfl) (hL.k 43 rfl) rfl (fv f5) ?_
    refine E_add rfl ?_
    refine E_ialn (n := 943) (v := ((L.length : Nat) : Int)) rfl (hL.lt 44 rfl) (hL.k 44 rfl) (hL.l 44 rfl) (by omega) ((rdS hs (by omega)).trans hS.1) ?_
    refine E_add rfl ?_
    refine E_load rfl rfl rfl ?_
    refine E_iasg (n := 943) (j := ((243 + (140 * act)) + L.length)) rfl (hL.lt 44 rfl) (hL.k 44 rfl) (hL.l 44 rfl) (by omega) (by omega) (fun c_1 hc_1 => ?_)
    have hE_1 : Eqk PS c c_1 := by rw [hc_1]; exact Eqk.up rfl
    have hM_1 : Mc c_1 := by rw [hc_1]; exact hM.upo rfl
    have hf5_1 : c_1 43 5 = ((act : Nat) : Int) := by rw [hc_1]; exact (up2_fld rfl).trans f5
    have hf6_1 : c_1 43 6 = ((k : Nat) : Int) := by rw [hc_1]; exact (up2_fld rfl).trans f6
    have hf7_1 : c_1 43 7 = ((n : Nat) : Int) := by rw [hc_1]; exact (up2_fld rfl).trans f7
    have hf8_1 : c_1 43 8 = 0 := by rw [hc_1]; exact (up2_fld rfl).trans f8
    have hf9_1 : c_1 43 9 = o := by rw [hc_1]; exact (up2_fld rfl).trans f9
    have hs_1 : c_1 44 = upd1 s ((243 + (140 * act)) + L.length) x := by rw [hc_1]; exact up2_rowS hs
    refine E_load rfl rfl rfl ?_
    refine E_getr (c := 12) (r := 44) rfl (hL.lt 43 rfl) (hL.k 43 rfl) rfl hM_1.c1 ?_
    refine E_const rfl ?_
    refine E_load rfl rfl rfl ?_
    refine E_getf (c := 12) (v := (0, ((act : Nat) : Int))) rfl (hL.lt 43 rfl) (hL.k 43 rfl) rfl (fv hf5_1) ?_
    refine E_add rfl ?_
    refine E_dup2 rfl rfl rfl ?_
    refine E_ialn (n := 943) (v := ((L.length : Nat) : Int)) rfl (hL.lt 44 rfl) (hL.k 44 rfl) (hL.l 44 rfl) (by omega) ((rdS hs_1 (by omega)).trans ((upd1_ne (by omega)).trans hS.1)) ?_
    refine E_const rfl ?_
    refine E_add rfl ?_
    refine E_iasg (n := 943) (j := (238 + act)) rfl (hL.lt 44 rfl) (hL.k 44 rfl) (hL.l 44 rfl) (by omega) (by omega) (fun c_2 hc_2 => ?_)
    have hE_2 : Eqk PS c_1 c_2 := by rw [hc_2]; exact Eqk.up rfl
    have hM_2 : Mc c_2 := by rw [hc_2]; exact hM_1.upo rfl
    have hf5_2 : c_2 43 5 = ((act : Nat) : Int) := by rw [hc_2]; exact (up2_fld rfl).trans hf5_1
    have hf6_2 : c_2 43 6 = ((k : Nat) : Int) := by rw [hc_2]; exact (up2_fld rfl).trans hf6_1
    have hf7_2 : c_2 43 7 = ((n : Nat) : Int) := by rw [hc_2]; exact (up2_fld rfl).trans hf7_1
    have hf8_2 : c_2 43 8 = 0 := by rw [hc_2]; exact (up2_fld rfl).trans hf8_1
    have hf9_2 : c_2 43 9 = o := by rw [hc_2]; exact (up2_fld rfl).trans hf9_1
    have hs_2 : c_2 44 = upd1 (upd1 s ((243 + (140 * act)) + L.length) x) (238 + act) (((L.length : Nat) : Int) + 1) := by rw [hc_2]; exact up2_rowS hs_1
    refine E_vret rfl ?_
    refine ⟨rfl, c_2, _, rfl, ⟨hM_2, hs_2, hf5_2, hf6_2, hf7_2, hf8_2, hf9_2⟩, Rg.add hl, hS.add hl, (hE_1.trans hE_2)⟩
set_option maxHeartbeats 4000000 in
set_option maxRecDepth 100000 in
theorem n_emitsW {d : Nat} {h : Hp} {c : Nat → Nat → Int} {s : Nat → Int} {act n k : Nat} {o : Int} (hL : Lay h) (hR : RS c s act n k 1 o) {x : Int} : Ok (d) 155 [(1, ((43 : Nat) : Int)), (0, x)] (wC h c) (fun r h2 => r = none ∧ ∃ c2, h2 = wC h c2 ∧ RS c2 s act n (k) (1) o ∧ Eqk PS c c2) := by
  show Ex _ none t_X11_emits 0 0 _ [] (wC h c) _
  obtain ⟨hM, hs, f5, f6, f7, f8, f9⟩ := hR
  refine E_load rfl rfl rfl ?_
  refine E_getf (c := 12) (v := (0, 1)) rfl (hL.lt 43 rfl) (hL.k 43 rfl) rfl (fv f8) ?_
  refine E_if1 rfl (by omega) (fun q1 => ?_) (fun q1 => ?_)
  · refine E_vret rfl ?_
    exact ⟨rfl, c, rfl, ⟨hM, hs, f5, f6, f7, f8, f9⟩, Eqk.nil⟩
  · exfalso; omega
set_option maxHeartbeats 4000000 in
set_option maxRecDepth 100000 in
theorem n_facW {d : Nat} {h : Hp} {c : Nat → Nat → Int} {s : Nat → Int} {act n k : Nat} {o : Int} (hL : Lay h) (hR : RS c s act n k 1 o)  : Ok (d) 156 [(1, ((43 : Nat) : Int))] (wC h c) (fun r h2 => r = none ∧ ∃ c2, h2 = wC h c2 ∧ RS c2 s act n (k) (1) o ∧ Eqk PS c c2) := by
  show Ex _ none t_X11_factor 0 0 _ [] (wC h c) _
  obtain ⟨hM, hs, f5, f6, f7, f8, f9⟩ := hR
  refine E_load rfl rfl rfl ?_
  refine E_getf (c := 12) (v := (0, 1)) rfl (hL.lt 43 rfl) (hL.k 43 rfl) rfl (fv f8) ?_
  refine E_if0 rfl (by omega) (fun q1 => ?_) (fun q1 => ?_)
  · exfalso; omega
  · refine E_vret rfl ?_
    exact ⟨rfl, c, rfl, ⟨hM, hs, f5, f6, f7, f8, f9⟩, Eqk.nil⟩
set_option maxHeartbeats 4000000 in
set_option maxRecDepth 100000 in
theorem n_everyW {d : Nat} {h : Hp} {c : Nat → Nat → Int} {s : Nat → Int} {act n k : Nat} {o : Int} (hL : Lay h) (hR : RS c s act n k 1 o)  : Ok (d + 1) 157 [(1, ((43 : Nat) : Int))] (wC h c) (fun r h2 => r = none ∧ ∃ c2, h2 = wC h c2 ∧ RS c2 s act n (k) (1) o ∧ Eqk PS c c2) := by
  show Ex _ none t_X11_every 0 0 _ [] (wC h c) _
  obtain ⟨hM, hs, f5, f6, f7, f8, f9⟩ := hR
  refine E_load rfl rfl rfl ?_
  refine E_V0 (q := 43) (c := 12) (y := 156) rfl rfl (hL.lt 43 rfl) (hL.k 43 rfl) rfl rfl rfl rfl (n_facW hL ⟨hM, hs, f5, f6, f7, f8, f9⟩) (fun r h2 hq => ?_)
  obtain ⟨rfl, c_1, hh, hQ_1, hE_1⟩ := hq
  subst hh
  obtain ⟨hM_1, hs_1, hf5_1, hf6_1, hf7_1, hf8_1, hf9_1⟩ := hQ_1
  refine E_load rfl rfl rfl ?_
  refine E_getf (c := 12) (v := (0, 1)) rfl (hL.lt 43 rfl) (hL.k 43 rfl) rfl (fv hf8_1) ?_
  refine E_if1 rfl (by omega) (fun q1 => ?_) (fun q1 => ?_)
  · refine E_vret rfl ?_
    exact ⟨rfl, c_1, rfl, ⟨hM_1, hs_1, hf5_1, hf6_1, hf7_1, hf8_1, hf9_1⟩, hE_1⟩
  · exfalso; omega
set_option maxHeartbeats 4000000 in
set_option maxRecDepth 100000 in
theorem n_someW {d : Nat} {h : Hp} {c : Nat → Nat → Int} {s : Nat → Int} {act n k : Nat} {o : Int} (hL : Lay h) (hR : RS c s act n k 1 o)  : Ok (d + 2) 158 [(1, ((43 : Nat) : Int))] (wC h c) (fun r h2 => r = none ∧ ∃ c2, h2 = wC h c2 ∧ RS c2 s act n (k) (1) o ∧ Eqk PS c c2) := by
  show Ex _ none t_X11_some 0 0 _ [] (wC h c) _
  obtain ⟨hM, hs, f5, f6, f7, f8, f9⟩ := hR
  refine E_load rfl rfl rfl ?_
  refine E_V0 (q := 43) (c := 12) (y := 157) rfl rfl (hL.lt 43 rfl) (hL.k 43 rfl) rfl rfl rfl rfl (n_everyW hL ⟨hM, hs, f5, f6, f7, f8, f9⟩) (fun r h2 hq => ?_)
  obtain ⟨rfl, c_1, hh, hQ_1, hE_1⟩ := hq
  subst hh
  obtain ⟨hM_1, hs_1, hf5_1, hf6_1, hf7_1, hf8_1, hf9_1⟩ := hQ_1
  refine E_load rfl rfl rfl ?_
  refine E_getf (c := 12) (v := (0, 1)) rfl (hL.lt 43 rfl) (hL.k 43 rfl) rfl (fv hf8_1) ?_
  refine E_if1 rfl (by omega) (fun q1 => ?_) (fun q1 => ?_)
  · refine E_vret rfl ?_
    exact ⟨rfl, c_1, rfl, ⟨hM_1, hs_1, hf5_1, hf6_1, hf7_1, hf8_1, hf9_1⟩, hE_1⟩
  · exfalso; omega
