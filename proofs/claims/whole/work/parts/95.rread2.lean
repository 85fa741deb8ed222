def spQ (g : Nat → Int) (w : Int) (l : List Nat) (k : Nat) : Bool × Nat := if w = 0 then pSpell g l k else (false, k)
theorem spQ_nil {g : Nat → Int} {w : Int} {k : Nat} (hw : w = 0 ∨ w = 1) : (spQ g w [] k).2 = k ∧ (if (spQ g w [] k).1 = true then 0 else 1) = w := by
  unfold spQ
  rcases hw with rfl | rfl
  · exact ⟨rfl, rfl⟩
  · exact ⟨rfl, rfl⟩
theorem spQ_cons {g : Nat → Int} {w : Int} {k x : Nat} {l : List Nat} (hw : w = 0 ∨ w = 1) : spQ g w (x :: l) k = spQ g (if w = 0 ∧ g k = (x : Int) then 0 else 1) l (if w = 0 ∧ g k = (x : Int) then k + 1 else k) := by
  unfold spQ
  rcases hw with rfl | rfl
  · rw [if_pos rfl, pSpell]
    by_cases h : g k = (x : Int)
    · simp [h]
    · simp [h]
  · simp
theorem dropC {l : List Nat} {i : Nat} (h : i < l.length) : l.drop i = l.getD i 0 :: l.drop (i + 1) := by
  rw [List.drop_eq_getElem_cons h, List.getD_eq_getElem?_getD, List.getElem?_eq_getElem h]
  rfl
set_option maxHeartbeats 4000000 in
set_option maxRecDepth 100000 in
theorem l_spells {d : Nat} {h : Hp} {s g : Nat → Int} {act n : Nat} {o : Int} (hL : Lay h) (hE : Ends g n) (hT : TpR s g n) {kt : Nat} (hkt : kt < 10) : ∀ (m i : Nat), i + m = (txt kt).length → ∀ (k : Nat) (w : Int), k ≤ n → (w = 0 ∨ w = 1) → ∀ c, RS c s act n k w o → Ex (d + 2) none t_X11_spells 0 2 [(1, ((43 : Nat) : Int)), (1, -10 - (kt : Int)), (0, (i : Int))] [] (wC h c) (fun r h2 => r = none ∧ ∃ c2, h2 = wC h c2 ∧ RS c2 s act n (spQ g w ((txt kt).drop i) k).2 (if (spQ g w ((txt kt).drop i) k).1 = true then 0 else 1) o ∧ Eqk PS c c2) := by
  have hn := hE.1
  have hl10 : (txt kt).length ≤ 10 := (by decide : ∀ kt, kt < 10 → (txt kt).length ≤ 10) kt hkt
  intro m
  induction m with
  | zero =>
    intro i hi k w hk hw c hR
    obtain ⟨hM, hs, f5, f6, f7, f8, f9⟩ := hR
    refine E_load rfl rfl rfl ?_
    refine E_load rfl rfl rfl ?_
    refine E_pri (as := [(1, -10 - (kt : Int))]) (rest := _) rfl rfl rfl rfl (prLen hkt) ?_
    refine E_cmp3 rfl (by omega) (fun q1 => ?_) (fun q1 => ?_)
    · refine E_vret rfl ?_
      rw [show (txt kt).drop i = [] from List.drop_eq_nil_of_le (by omega), (spQ_nil hw).1, (spQ_nil hw).2]
      exact ⟨rfl, c, rfl, ⟨hM, hs, f5, f6, f7, f8, f9⟩, Eqk.nil⟩
    · exfalso; omega
  | succ m ih =>
    intro i hi k w hk hw c hR
    obtain ⟨hM, hs, f5, f6, f7, f8, f9⟩ := hR
    have hi2 : i < (txt kt).length := by omega
    have hch := txtC kt hkt ((txt kt).getD i 0) (by rw [List.getD_eq_getElem?_getD, List.getElem?_eq_getElem hi2]; exact List.getElem_mem hi2)
    refine E_load rfl rfl rfl ?_
    refine E_load rfl rfl rfl ?_
    refine E_pri (as := [(1, -10 - (kt : Int))]) (rest := _) rfl rfl rfl rfl (prLen hkt) ?_
    refine E_cmp3 rfl (by omega) (fun q1 => ?_) (fun q1 => ?_)
    · exfalso; omega
    · refine E_load rfl rfl rfl ?_
      refine E_load rfl rfl rfl ?_
      refine E_load rfl rfl rfl ?_
      refine E_pri (as := [(1, -10 - (kt : Int)), (0, ((i : Nat) : Int))]) (rest := _) rfl rfl rfl rfl (prAt hkt hi2) ?_
      refine E_V1 (q := 43) (c := 12) (y := 151) rfl rfl (hL.lt 43 rfl) (hL.k 43 rfl) rfl rfl rfl rfl (n_must (k := k) hL ⟨hM, hs, f5, f6, f7, f8, f9⟩ hE hT (by omega) (by omega) (by omega)) (fun r h2 hq => ?_)
      obtain ⟨rfl, c_1, hh, hQ_1, hE_1⟩ := hq
      subst hh
      obtain ⟨hM_1, hs_1, hf5_1, hf6_1, hf7_1, hf8_1, hf9_1⟩ := hQ_1
      refine E_iinc rfl rfl rfl ?_
      refine E_goto rfl ?_
      rw [dropC hi2, spQ_cons hw]
      have hk2 : (if w = 0 ∧ g k = (((txt kt).getD i 0 : Nat) : Int) then k + 1 else k) ≤ n := by
        split
        · next e => exact hE.lt (k := k) (by omega)
        · exact hk
      refine (ih (i + 1) (by omega) _ _ hk2 (by split <;> simp) c_1 ⟨hM_1, hs_1, hf5_1, hf6_1, hf7_1, hf8_1, hf9_1⟩).mono ?_
      rintro r hE2 ⟨e1, c9, e2, e4, e3⟩
      exact ⟨e1, c9, e2, e4, Eqk.trans hE_1 e3⟩
set_option maxHeartbeats 4000000 in
set_option maxRecDepth 100000 in
theorem n_spells {d : Nat} {h : Hp} {c : Nat → Nat → Int} {s g : Nat → Int} {act n k : Nat} {w o : Int} (hL : Lay h) (hR : RS c s act n k w o) (hE : Ends g n) (hT : TpR s g n) (hk : k ≤ n) {kt : Nat} (hkt : kt < 10) (hw : w = 0 ∨ w = 1) : Ok (d + 2) 152 [(1, ((43 : Nat) : Int)), (1, -10 - (kt : Int))] (wC h c) (fun r h2 => r = none ∧ ∃ c2, h2 = wC h c2 ∧ RS c2 s act n (spQ g w (txt kt) k).2 (if (spQ g w (txt kt) k).1 = true then 0 else 1) o ∧ Eqk PS c c2) := by
  show Ex _ none t_X11_spells 0 0 _ [] (wC h c) _
  refine E_const rfl ?_
  refine E_store rfl rfl rfl ?_
  exact l_spells hL hE hT hkt _ 0 (Nat.zero_add _) k w hk hw c hR
def nmQ (g : Nat → Int) (w : Int) (k : Nat) : NR := if w = 0 then pNum g k else (false, k, 0)
set_option maxHeartbeats 4000000 in
set_option maxRecDepth 100000 in
theorem n_figures {d : Nat} {h : Hp} {c : Nat → Nat → Int} {s g : Nat → Int} {act n k : Nat} {w o : Int} (hL : Lay h) (hR : RS c s act n k w o) (hE : Ends g n) (hT : TpR s g n) (hk : k ≤ n) (hw : w = 0 ∨ w = 1) : Ok (d + 1) 153 [(1, ((43 : Nat) : Int))] (wC h c) (fun r h2 => r = some (0, (nmQ g w k).2.2) ∧ ∃ c2, h2 = wC h c2 ∧ RS c2 s act n ((nmQ g w k).2.1) (if (nmQ g w k).1 = true then 0 else 1) o ∧ Eqk PS c c2) := by
  show Ex _ none t_X11_figures 0 0 _ [] (wC h c) _
  obtain ⟨hM, hs, f5, f6, f7, f8, f9⟩ := hR
  have hn := hE.1
  have hr := hrV_or hE k
  have hr1 := hrV_or hE (k + 1)
  have hr2 := hrV_or hE (k + 2)
  have hlt := fun z => hE.lt (k := k) z
  have hlt1 := fun z => hE.lt (k := k + 1) z
  refine E_load rfl rfl rfl ?_
  refine E_load rfl rfl rfl ?_
  refine E_getf (c := 12) (v := (0, w)) rfl (hL.lt 43 rfl) (hL.k 43 rfl) rfl (fv f8) ?_
  refine E_if1 rfl (by omega) (fun q1 => ?_) (fun q1 => ?_)
  · refine E_const rfl ?_
    refine E_goto rfl ?_
    refine E_putzg (cl := 12) rfl (hL.lt 43 rfl) (hL.k 43 rfl) rfl (by decide) (fun c_1 hc_1 => ?_)
    have hE_1 : Eqk PS c c_1 := by rw [hc_1]; exact Eqk.up rfl
    have hM_1 : Mc c_1 := by rw [hc_1]; exact hM.up43 rfl
    have hs_1 : c_1 44 = s := by rw [hc_1]; exact (up2_oth rfl).trans hs
    have hf5_1 : c_1 43 5 = ((act : Nat) : Int) := by rw [hc_1]; exact (up2_fld rfl).trans f5
    have hf6_1 : c_1 43 6 = ((k : Nat) : Int) := by rw [hc_1]; exact (up2_fld rfl).trans f6
    have hf7_1 : c_1 43 7 = ((n : Nat) : Int) := by rw [hc_1]; exact (up2_fld rfl).trans f7
    have hf9_1 : c_1 43 9 = o := by rw [hc_1]; exact (up2_fld rfl).trans f9
    have hf8_1 : c_1 43 8 = 1 := by rw [hc_1]; exact up2_same
    refine E_const rfl ?_
    refine E_store rfl rfl rfl ?_
    refine E_const rfl ?_
    refine E_store rfl rfl rfl ?_
    refine E_load rfl rfl rfl ?_
    refine E_const rfl ?_
    refine E_cmp3 rfl (by omega) (fun q2 => ?_) (fun q2 => ?_)
    · exfalso; omega
    · refine E_load rfl rfl rfl ?_
      refine E_getf (c := 12) (v := (0, 1)) rfl (hL.lt 43 rfl) (hL.k 43 rfl) rfl (fv hf8_1) ?_
      refine E_if1 rfl (by omega) (fun q3 => ?_) (fun q3 => ?_)
      · refine E_load rfl rfl rfl ?_
        refine E_iret rfl (fun h => absurd h (by decide)) ?_
        have e : nmQ g w k = (false, k, 0) := by
          unfold nmQ pNum
          (repeat' split) <;> first | (exfalso; omega) | rfl | (refine Prod.ext rfl (Prod.ext rfl ?_); dsimp only; omega)
        rw [e]
        exact ⟨rfl, c_1, rfl, ⟨hM_1, hs_1, hf5_1, hf6_1, hf7_1, hf8_1, hf9_1⟩, hE_1⟩
      · exfalso; omega
  · refine E_load rfl rfl rfl ?_
    refine E_V0 (q := 43) (c := 12) (y := 150) rfl rfl (hL.lt 43 rfl) (hL.k 43 rfl) rfl rfl rfl rfl (n_here (k := k) hL ⟨hM, hs, f5, f6, f7, f8, f9⟩ hE hT (by omega)) (fun r h2 hq => ?_)
    obtain ⟨rfl, hh⟩ := hq
    subst hh
    refine E_const rfl ?_
    refine E_const rfl ?_
    refine E_S3 (y := 139) rfl rfl rfl rfl rfl (m_in (by omega) (by omega) (by omega)) (fun r h2 hq => ?_)
    obtain ⟨rfl, hh⟩ := hq
    subst hh
    refine E_if1 rfl (bI_R _) (fun q4 => ?_) (fun q4 => ?_)
    · replace q4 := bI_nz q4
      refine E_const rfl ?_
      refine E_putzg (cl := 12) rfl (hL.lt 43 rfl) (hL.k 43 rfl) rfl (by decide) (fun c_2 hc_2 => ?_)
      have hE_2 : Eqk PS c c_2 := by rw [hc_2]; exact Eqk.up rfl
      have hM_2 : Mc c_2 := by rw [hc_2]; exact hM.up43 rfl
      have hs_2 : c_2 44 = s := by rw [hc_2]; exact (up2_oth rfl).trans hs
      have hf5_2 : c_2 43 5 = ((act : Nat) : Int) := by rw [hc_2]; exact (up2_fld rfl).trans f5
      have hf6_2 : c_2 43 6 = ((k : Nat) : Int) := by rw [hc_2]; exact (up2_fld rfl).trans f6
      have hf7_2 : c_2 43 7 = ((n : Nat) : Int) := by rw [hc_2]; exact (up2_fld rfl).trans f7
      have hf9_2 : c_2 43 9 = o := by rw [hc_2]; exact (up2_fld rfl).trans f9
      have hf8_2 : c_2 43 8 = 0 := by rw [hc_2]; exact up2_same
      refine E_const rfl ?_
      refine E_store rfl rfl rfl ?_
      refine E_const rfl ?_
      refine E_store rfl rfl rfl ?_
      refine E_load rfl rfl rfl ?_
      refine E_const rfl ?_
      refine E_cmp3 rfl (by omega) (fun q5 => ?_) (fun q5 => ?_)
      · exfalso; omega
      · refine E_load rfl rfl rfl ?_
        refine E_getf (c := 12) (v := (0, 0)) rfl (hL.lt 43 rfl) (hL.k 43 rfl) rfl (fv hf8_2) ?_
        refine E_if1 rfl (by omega) (fun q6 => ?_) (fun q6 => ?_)
        · exfalso; omega
        · refine E_load rfl rfl rfl ?_
          refine E_V0 (q := 43) (c := 12) (y := 150) rfl rfl (hL.lt 43 rfl) (hL.k 43 rfl) rfl rfl rfl rfl (n_here (k := k) hL ⟨hM_2, hs_2, hf5_2, hf6_2, hf7_2, hf8_2, hf9_2⟩ hE hT (by omega)) (fun r h2 hq => ?_)
          obtain ⟨rfl, hh⟩ := hq
          subst hh
          refine E_const rfl ?_
          refine E_const rfl ?_
          refine E_S3 (y := 139) rfl rfl rfl rfl rfl (m_in (by omega) (by omega) (by omega)) (fun r h2 hq => ?_)
          obtain ⟨rfl, hh⟩ := hq
          subst hh
          refine E_if0 rfl (bI_R _) (fun q7 => ?_) (fun q7 => ?_)
          · replace q7 := bI_z q7
            refine E_load rfl rfl rfl ?_
            refine E_iret rfl (fun h => absurd h (by decide)) ?_
            have e : nmQ g w k = (true, k, 0) := by
              unfold nmQ pNum
              (repeat' split) <;> first | (exfalso; omega) | rfl | (refine Prod.ext rfl (Prod.ext rfl ?_); dsimp only; omega)
            rw [e]
            exact ⟨rfl, c_2, rfl, ⟨hM_2, hs_2, hf5_2, hf6_2, hf7_2, hf8_2, hf9_2⟩, hE_2⟩
          · replace q7 := bI_nz q7
            refine E_load rfl rfl rfl ?_
            refine E_if0 rfl (by omega) (fun q8 => ?_) (fun q8 => ?_)
            · refine E_const rfl ?_
              refine E_load rfl rfl rfl ?_
              refine E_mul rfl ?_
              refine E_load rfl rfl rfl ?_
              refine E_V0 (q := 43) (c := 12) (y := 150) rfl rfl (hL.lt 43 rfl) (hL.k 43 rfl) rfl rfl rfl rfl (n_here (k := k) hL ⟨hM_2, hs_2, hf5_2, hf6_2, hf7_2, hf8_2, hf9_2⟩ hE hT (by omega)) (fun r h2 hq => ?_)
              obtain ⟨rfl, hh⟩ := hq
              subst hh
              refine E_add rfl ?_
              refine E_const rfl ?_
              refine E_sub rfl ?_
              refine E_store rfl rfl rfl ?_
              refine E_load rfl rfl rfl ?_
              refine E_dup rfl rfl ?_
              refine E_getf (c := 12) (v := (0, ((k : Nat) : Int))) rfl (hL.lt 43 rfl) (hL.k 43 rfl) rfl (fv hf6_2) ?_
              refine E_const rfl ?_
              refine E_add rfl ?_
              refine E_putg (cl := 12) rfl (hL.lt 43 rfl) (hL.k 43 rfl) rfl (fun c_3 hc_3 => ?_)
              have hE_3 : Eqk PS c_2 c_3 := by rw [hc_3]; exact Eqk.up rfl
              have hM_3 : Mc c_3 := by rw [hc_3]; exact hM_2.up43 rfl
              have hs_3 : c_3 44 = s := by rw [hc_3]; exact (up2_oth rfl).trans hs_2
              have hf5_3 : c_3 43 5 = ((act : Nat) : Int) := by rw [hc_3]; exact (up2_fld rfl).trans hf5_2
              have hf7_3 : c_3 43 7 = ((n : Nat) : Int) := by rw [hc_3]; exact (up2_fld rfl).trans hf7_2
              have hf8_3 : c_3 43 8 = 0 := by rw [hc_3]; exact (up2_fld rfl).trans hf8_2
              have hf9_3 : c_3 43 9 = o := by rw [hc_3]; exact (up2_fld rfl).trans hf9_2
              have hf6_3 : c_3 43 6 = (((k : Nat) : Int) + 1) := by rw [hc_3]; exact up2_same
              refine E_iinc rfl rfl rfl ?_
              refine E_goto rfl ?_
              refine E_load rfl rfl rfl ?_
              refine E_const rfl ?_
              refine E_cmp3 rfl (by omega) (fun q9 => ?_) (fun q9 => ?_)
              · exfalso; omega
              · refine E_load rfl rfl rfl ?_
                refine E_getf (c := 12) (v := (0, 0)) rfl (hL.lt 43 rfl) (hL.k 43 rfl) rfl (fv hf8_3) ?_
                refine E_if1 rfl (by omega) (fun q10 => ?_) (fun q10 => ?_)
                · exfalso; omega
                · refine E_load rfl rfl rfl ?_
                  refine E_V0 (q := 43) (c := 12) (y := 150) rfl rfl (hL.lt 43 rfl) (hL.k 43 rfl) rfl rfl rfl rfl (n_here (k := (k + 1)) hL ⟨hM_3, hs_3, hf5_3, hf6_3, hf7_3, hf8_3, hf9_3⟩ hE hT (by omega)) (fun r h2 hq => ?_)
                  obtain ⟨rfl, hh⟩ := hq
                  subst hh
                  refine E_const rfl ?_
                  refine E_const rfl ?_
                  refine E_S3 (y := 139) rfl rfl rfl rfl rfl (m_in (by omega) (by omega) (by omega)) (fun r h2 hq => ?_)
                  obtain ⟨rfl, hh⟩ := hq
                  subst hh
                  refine E_if0 rfl (bI_R _) (fun q11 => ?_) (fun q11 => ?_)
                  · replace q11 := bI_z q11
                    refine E_load rfl rfl rfl ?_
                    refine E_iret rfl (fun h => absurd h (by decide)) ?_
                    have e : nmQ g w k = (true, (k + 1), (((10 * 0) + (hrV g n k)) - 48)) := by
                      unfold nmQ pNum
                      (repeat' split) <;> first | (exfalso; omega) | rfl | (refine Prod.ext rfl (Prod.ext rfl ?_); dsimp only; omega)
                    rw [e]
                    exact ⟨rfl, c_3, rfl, ⟨hM_3, hs_3, hf5_3, hf6_3, hf7_3, hf8_3, hf9_3⟩, (hE_2.trans hE_3)⟩
                  · replace q11 := bI_nz q11
                    refine E_load rfl rfl rfl ?_
                    refine E_if0 rfl (by omega) (fun q12 => ?_) (fun q12 => ?_)
                    · exfalso; omega
                    · refine E_load rfl rfl rfl ?_
                      refine E_if5 rfl (by omega) (fun q13 => ?_) (fun q13 => ?_)
                      · refine E_load rfl rfl rfl ?_
                        refine E_iret rfl (fun h => absurd h (by decide)) ?_
                        have e : nmQ g w k = (true, (k + 1), (((10 * 0) + (hrV g n k)) - 48)) := by
                          unfold nmQ pNum
                          (repeat' split) <;> first | (exfalso; omega) | rfl | (refine Prod.ext rfl (Prod.ext rfl ?_); dsimp only; omega)
                        rw [e]
                        exact ⟨rfl, c_3, rfl, ⟨hM_3, hs_3, hf5_3, hf6_3, hf7_3, hf8_3, hf9_3⟩, (hE_2.trans hE_3)⟩
                      · refine E_const rfl ?_
                        refine E_load rfl rfl rfl ?_
                        refine E_mul rfl ?_
                        refine E_load rfl rfl rfl ?_
                        refine E_V0 (q := 43) (c := 12) (y := 150) rfl rfl (hL.lt 43 rfl) (hL.k 43 rfl) rfl rfl rfl rfl (n_here (k := (k + 1)) hL ⟨hM_3, hs_3, hf5_3, hf6_3, hf7_3, hf8_3, hf9_3⟩ hE hT (by omega)) (fun r h2 hq => ?_)
                        obtain ⟨rfl, hh⟩ := hq
                        subst hh
                        refine E_add rfl ?_
                        refine E_const rfl ?_
                        refine E_sub rfl ?_
                        refine E_store rfl rfl rfl ?_
                        refine E_load rfl rfl rfl ?_
                        refine E_dup rfl rfl ?_
                        refine E_getf (c := 12) (v := (0, (((k : Nat) : Int) + 1))) rfl (hL.lt 43 rfl) (hL.k 43 rfl) rfl (fv hf6_3) ?_
                        refine E_const rfl ?_
                        refine E_add rfl ?_
                        refine E_putg (cl := 12) rfl (hL.lt 43 rfl) (hL.k 43 rfl) rfl (fun c_4 hc_4 => ?_)
                        have hE_4 : Eqk PS c_3 c_4 := by rw [hc_4]; exact Eqk.up rfl
                        have hM_4 : Mc c_4 := by rw [hc_4]; exact hM_3.up43 rfl
                        have hs_4 : c_4 44 = s := by rw [hc_4]; exact (up2_oth rfl).trans hs_3
                        have hf5_4 : c_4 43 5 = ((act : Nat) : Int) := by rw [hc_4]; exact (up2_fld rfl).trans hf5_3
                        have hf7_4 : c_4 43 7 = ((n : Nat) : Int) := by rw [hc_4]; exact (up2_fld rfl).trans hf7_3
                        have hf8_4 : c_4 43 8 = 0 := by rw [hc_4]; exact (up2_fld rfl).trans hf8_3
                        have hf9_4 : c_4 43 9 = o := by rw [hc_4]; exact (up2_fld rfl).trans hf9_3
                        have hf6_4 : c_4 43 6 = ((((k : Nat) : Int) + 1) + 1) := by rw [hc_4]; exact up2_same
                        refine E_iinc rfl rfl rfl ?_
                        refine E_goto rfl ?_
                        refine E_load rfl rfl rfl ?_
                        refine E_const rfl ?_
                        refine E_cmp3 rfl (by omega) (fun q14 => ?_) (fun q14 => ?_)
                        · refine E_load rfl rfl rfl ?_
                          refine E_iret rfl (fun h => absurd h (by decide)) ?_
                          have e : nmQ g w k = (true, ((k + 1) + 1), (((10 * (((10 * 0) + (hrV g n k)) - 48)) + (hrV g n (k + 1))) - 48)) := by
                            unfold nmQ pNum
                            (repeat' split) <;> first | (exfalso; omega) | rfl | (refine Prod.ext rfl (Prod.ext rfl ?_); dsimp only; omega)
                          rw [e]
                          exact ⟨rfl, c_4, rfl, ⟨hM_4, hs_4, hf5_4, hf6_4, hf7_4, hf8_4, hf9_4⟩, (hE_2.trans (hE_3.trans hE_4))⟩
                        · exfalso; omega
            · exfalso; omega
    · replace q4 := bI_z q4
      refine E_const rfl ?_
      refine E_goto rfl ?_
      refine E_putzg (cl := 12) rfl (hL.lt 43 rfl) (hL.k 43 rfl) rfl (by decide) (fun c_5 hc_5 => ?_)
      have hE_5 : Eqk PS c c_5 := by rw [hc_5]; exact Eqk.up rfl
      have hM_5 : Mc c_5 := by rw [hc_5]; exact hM.up43 rfl
      have hs_5 : c_5 44 = s := by rw [hc_5]; exact (up2_oth rfl).trans hs
      have hf5_5 : c_5 43 5 = ((act : Nat) : Int) := by rw [hc_5]; exact (up2_fld rfl).trans f5
      have hf6_5 : c_5 43 6 = ((k : Nat) : Int) := by rw [hc_5]; exact (up2_fld rfl).trans f6
      have hf7_5 : c_5 43 7 = ((n : Nat) : Int) := by rw [hc_5]; exact (up2_fld rfl).trans f7
      have hf9_5 : c_5 43 9 = o := by rw [hc_5]; exact (up2_fld rfl).trans f9
      have hf8_5 : c_5 43 8 = 1 := by rw [hc_5]; exact up2_same
      refine E_const rfl ?_
      refine E_store rfl rfl rfl ?_
      refine E_const rfl ?_
      refine E_store rfl rfl rfl ?_
      refine E_load rfl rfl rfl ?_
      refine E_const rfl ?_
      refine E_cmp3 rfl (by omega) (fun q15 => ?_) (fun q15 => ?_)
      · exfalso; omega
      · refine E_load rfl rfl rfl ?_
        refine E_getf (c := 12) (v := (0, 1)) rfl (hL.lt 43 rfl) (hL.k 43 rfl) rfl (fv hf8_5) ?_
        refine E_if1 rfl (by omega) (fun q16 => ?_) (fun q16 => ?_)
        · refine E_load rfl rfl rfl ?_
          refine E_iret rfl (fun h => absurd h (by decide)) ?_
          have e : nmQ g w k = (false, k, 0) := by
            unfold nmQ pNum
            (repeat' split) <;> first | (exfalso; omega) | rfl | (refine Prod.ext rfl (Prod.ext rfl ?_); dsimp only; omega)
          rw [e]
          exact ⟨rfl, c_5, rfl, ⟨hM_5, hs_5, hf5_5, hf6_5, hf7_5, hf8_5, hf9_5⟩, hE_5⟩
        · exfalso; omega
