/-! CELLAR of the reference -/
def pEnd (g : Nat → Int) (n f : Nat) (q : CR) (l : List CLA) : TX := if q.1 then (if n ≤ q.2.1 then (true, q.2.1, l ++ [q.2.2]) else if f ≠ 0 ∧ g q.2.1 = 59 then pTxt g n f (q.2.1 + 1) (l ++ [q.2.2]) else (false, q.2.1, [])) else (false, q.2.1, [])
theorem pTxt_s {g : Nat → Int} {n f k : Nat} {l : List CLA} : pTxt g n (f + 1) k l = pEnd g n f (pCla g k) l := rfl
theorem stepC_len {x : CLA} : (stepC x).length ≤ x.2.2.length + 1 := by
  unfold stepC
  split
  · rw [List.length_append, List.length_map]; exact Nat.le_refl _
  · exact Nat.zero_le _
def CellQ (h : Hp) (c : Nat → Nat → Int) (s : Nat → Int) (act : Nat) (T : TX) : Option AV → Hp → Prop := fun r h2 => r = some (0, if T.1 = true then (act : Int) else -10 - (T.2.1 : Int)) ∧ ∃ c2 s', h2 = wC h c2 ∧ Rh act s s' ∧ (T.1 = true → CuR s' act T.2.2) ∧ c2 44 = (if T.1 = true then upd1 (upd1 s' 30 (s' 30 + 1)) 35 (act : Int) else s') ∧ Eqk PS c c2
theorem CellQ.of {h : Hp} {c c1 : Nat → Nat → Int} {s s1 : Nat → Int} {act : Nat} {T : TX} {r : Option AV} {h2 : Hp} (hg : Rh act s s1) (hE : Eqk PS c c1) (k : CellQ h c1 s1 act T r h2) : CellQ h c s act T r h2 := by
  obtain ⟨e1, c9, s9, e2, e3, e4, e5, e6⟩ := k
  exact ⟨e1, c9, s9, e2, hg.trans e3, e4, e5, hE.trans e6⟩
theorem CellQ.no {h : Hp} {c c2 : Nat → Nat → Int} {s s2 : Nat → Int} {act p : Nat} {x : Int} (hx : x = -10 - (p : Int)) (hg : Rh act s s2) (hs : c2 44 = s2) (hE : Eqk PS c c2) : CellQ h c s act (false, p, []) (some (0, x)) (wC h c2) := by
  subst hx
  exact ⟨rfl, c2, s2, rfl, hg, fun z => absurd (show false = true from z) (by decide), hs, hE⟩
theorem CellQ.yes {h : Hp} {c c2 : Nat → Nat → Int} {s s2 : Nat → Int} {act p : Nat} {l : List CLA} (hg : Rh act s s2) (hC : CuR s2 act l) (hs : c2 44 = upd1 (upd1 s2 30 (s2 30 + 1)) 35 (act : Int)) (hE : Eqk PS c c2) : CellQ h c s act (true, p, l) (some (0, (act : Int))) (wC h c2) := ⟨rfl, c2, s2, rfl, hg, fun _ => hC, hs, hE⟩
set_option maxHeartbeats 4000000 in
set_option maxRecDepth 100000 in
theorem l_cellar {h : Hp} {g : Nat → Int} {act n D : Nat} (hL : Lay h) (hE : Ends g n) (hact : act ≤ 4) : ∀ (f : Nat) (q : CR) (l : List CLA) (s : Nat → Int) (c : Nat → Nat → Int) (i : Int), i = 10 - (f : Int) → f ≤ 9 → q.2.1 ≤ n → RS c s act n q.2.1 (if q.1 = true then 0 else 1) 0 → TpR s g n → (q.1 = true → CuR s act (l ++ [q.2.2]) ∧ (stepsC (l ++ [q.2.2])).length ≤ q.2.1) → Ex (D + 24) none t_X11_cellar 0 107 [(1, ((43 : Nat) : Int)), (0, i)] [] (wC h c) (CellQ h c s act (pEnd g n f q l)) := by
  have hn := hE.1
  intro f
  induction f with
  | zero =>
    intro q l s c i hi hf hp hR hT hC
    obtain ⟨hM, hs, f5, f6, f7, f8, f9⟩ := hR
    have hr := hrV_or hE q.2.1
    have hlt := fun z => hE.lt (k := q.2.1) z
    have hend := hE.2.1 q.2.1
    rcases Bool.eq_false_or_eq_true q.1 with hb | hb
    · rw [if_pos hb] at f8
      refine E_load rfl rfl rfl ?_
      refine E_getf (c := 12) (v := (0, 0)) rfl (hL.lt 43 rfl) (hL.k 43 rfl) rfl (fv f8) ?_
      refine E_if1 rfl (by omega) (fun q1 => ?_) (fun q1 => ?_)
      · exfalso; omega
      · refine E_load rfl rfl rfl ?_
        refine E_const rfl ?_
        refine E_cmp3 rfl (by omega) (fun q2 => ?_) (fun q2 => ?_)
        · refine E_load rfl rfl rfl ?_
          refine E_getf (c := 12) (v := (0, 0)) rfl (hL.lt 43 rfl) (hL.k 43 rfl) rfl (fv f8) ?_
          refine E_if1 rfl (by omega) (fun q3 => ?_) (fun q3 => ?_)
          · exfalso; omega
          · refine E_load rfl rfl rfl ?_
            refine E_getf (c := 12) (v := (0, ((q.2.1 : Nat) : Int))) rfl (hL.lt 43 rfl) (hL.k 43 rfl) rfl (fv f6) ?_
            refine E_load rfl rfl rfl ?_
            refine E_getf (c := 12) (v := (0, ((n : Nat) : Int))) rfl (hL.lt 43 rfl) (hL.k 43 rfl) rfl (fv f7) ?_
            refine E_cmp0 rfl (by omega) (fun q4 => ?_) (fun q4 => ?_)
            · refine E_load rfl rfl rfl ?_
              refine E_getr (c := 12) (r := 44) rfl (hL.lt 43 rfl) (hL.k 43 rfl) rfl hM.c1 ?_
              refine E_const rfl ?_
              refine E_dup2 rfl rfl rfl ?_
              refine E_ialn (n := 943) (v := (s 30)) rfl (hL.lt 44 rfl) (hL.k 44 rfl) (hL.l 44 rfl) (by omega) (rdS hs (by omega)) ?_
              refine E_const rfl ?_
              refine E_add rfl ?_
              refine E_iasg (n := 943) (j := 30) rfl (hL.lt 44 rfl) (hL.k 44 rfl) (hL.l 44 rfl) (by omega) (by omega) (fun c_1 hc_1 => ?_)
              have hE_1 : Eqk PS c c_1 := by rw [hc_1]; exact Eqk.up rfl
              have hM_1 : Mc c_1 := by rw [hc_1]; exact hM.upo rfl
              have hf5_1 : c_1 43 5 = ((act : Nat) : Int) := by rw [hc_1]; exact (up2_fld rfl).trans f5
              have hf6_1 : c_1 43 6 = ((q.2.1 : Nat) : Int) := by rw [hc_1]; exact (up2_fld rfl).trans f6
              have hf7_1 : c_1 43 7 = ((n : Nat) : Int) := by rw [hc_1]; exact (up2_fld rfl).trans f7
              have hf8_1 : c_1 43 8 = 0 := by rw [hc_1]; exact (up2_fld rfl).trans f8
              have hf9_1 : c_1 43 9 = 0 := by rw [hc_1]; exact (up2_fld rfl).trans f9
              have hs_1 : c_1 44 = upd1 s 30 ((s 30) + 1) := by rw [hc_1]; exact up2_rowS hs
              refine E_load rfl rfl rfl ?_
              refine E_getr (c := 12) (r := 44) rfl (hL.lt 43 rfl) (hL.k 43 rfl) rfl hM_1.c1 ?_
              refine E_const rfl ?_
              refine E_load rfl rfl rfl ?_
              refine E_getf (c := 12) (v := (0, ((act : Nat) : Int))) rfl (hL.lt 43 rfl) (hL.k 43 rfl) rfl (fv hf5_1) ?_
              refine E_iasg (n := 943) (j := 35) rfl (hL.lt 44 rfl) (hL.k 44 rfl) (hL.l 44 rfl) (by omega) (by omega) (fun c_2 hc_2 => ?_)
              have hE_2 : Eqk PS c_1 c_2 := by rw [hc_2]; exact Eqk.up rfl
              have hM_2 : Mc c_2 := by rw [hc_2]; exact hM_1.upo rfl
              have hf5_2 : c_2 43 5 = ((act : Nat) : Int) := by rw [hc_2]; exact (up2_fld rfl).trans hf5_1
              have hf6_2 : c_2 43 6 = ((q.2.1 : Nat) : Int) := by rw [hc_2]; exact (up2_fld rfl).trans hf6_1
              have hf7_2 : c_2 43 7 = ((n : Nat) : Int) := by rw [hc_2]; exact (up2_fld rfl).trans hf7_1
              have hf8_2 : c_2 43 8 = 0 := by rw [hc_2]; exact (up2_fld rfl).trans hf8_1
              have hf9_2 : c_2 43 9 = 0 := by rw [hc_2]; exact (up2_fld rfl).trans hf9_1
              have hs_2 : c_2 44 = upd1 (upd1 s 30 ((s 30) + 1)) 35 ((act : Nat) : Int) := by rw [hc_2]; exact up2_rowS hs_1
              refine E_load rfl rfl rfl ?_
              refine E_getf (c := 12) (v := (0, ((act : Nat) : Int))) rfl (hL.lt 43 rfl) (hL.k 43 rfl) rfl (fv hf5_2) ?_
              refine E_iret rfl (fun h => absurd h (by decide)) ?_
              have hh2 : n ≤ q.2.1 := by omega
              rw [show pEnd g n 0 q l = (true, q.2.1, l ++ [q.2.2]) from (if_pos hb).trans (if_pos hh2)]
              exact CellQ.yes (s2 := s) Rh.nil (hC hb).1 hs_2 (hE_1.trans hE_2)
            · refine E_const rfl ?_
              refine E_load rfl rfl rfl ?_
              refine E_getf (c := 12) (v := (0, ((q.2.1 : Nat) : Int))) rfl (hL.lt 43 rfl) (hL.k 43 rfl) rfl (fv f6) ?_
              refine E_sub rfl ?_
              refine E_iret rfl (fun h => absurd h (by decide)) ?_
              have hh2 : ¬ n ≤ q.2.1 := by omega
              have hh3 : ¬ (0 ≠ 0 ∧ g q.2.1 = 59) := by omega
              rw [show pEnd g n 0 q l = (false, q.2.1, []) from (if_pos hb).trans ((if_neg hh2).trans (if_neg hh3))]
              exact CellQ.no rfl Rh.nil hs Eqk.nil
        · exfalso; omega
    · rw [if_neg (by rw [hb]; decide)] at f8
      refine E_load rfl rfl rfl ?_
      refine E_getf (c := 12) (v := (0, 1)) rfl (hL.lt 43 rfl) (hL.k 43 rfl) rfl (fv f8) ?_
      refine E_if1 rfl (by omega) (fun q1 => ?_) (fun q1 => ?_)
      · refine E_load rfl rfl rfl ?_
        refine E_getf (c := 12) (v := (0, 1)) rfl (hL.lt 43 rfl) (hL.k 43 rfl) rfl (fv f8) ?_
        refine E_if1 rfl (by omega) (fun q2 => ?_) (fun q2 => ?_)
        · refine E_const rfl ?_
          refine E_load rfl rfl rfl ?_
          refine E_getf (c := 12) (v := (0, ((q.2.1 : Nat) : Int))) rfl (hL.lt 43 rfl) (hL.k 43 rfl) rfl (fv f6) ?_
          refine E_sub rfl ?_
          refine E_iret rfl (fun h => absurd h (by decide)) ?_
          rw [show pEnd g n 0 q l = (false, q.2.1, []) from if_neg (by rw [hb]; decide)]
          exact CellQ.no rfl Rh.nil hs Eqk.nil
        · exfalso; omega
      · exfalso; omega
  | succ f ih =>
    intro q l s c i hi hf hp hR hT hC
    obtain ⟨hM, hs, f5, f6, f7, f8, f9⟩ := hR
    have hr := hrV_or hE q.2.1
    have hlt := fun z => hE.lt (k := q.2.1) z
    have hend := hE.2.1 q.2.1
    rcases Bool.eq_false_or_eq_true q.1 with hb | hb
    · rw [if_pos hb] at f8
      refine E_load rfl rfl rfl ?_
      refine E_getf (c := 12) (v := (0, 0)) rfl (hL.lt 43 rfl) (hL.k 43 rfl) rfl (fv f8) ?_
      refine E_if1 rfl (by omega) (fun q1 => ?_) (fun q1 => ?_)
      · exfalso; omega
      · refine E_load rfl rfl rfl ?_
        refine E_const rfl ?_
        refine E_cmp3 rfl (by omega) (fun q2 => ?_) (fun q2 => ?_)
        · exfalso; omega
        · refine E_load rfl rfl rfl ?_
          refine E_V0 (q := 43) (c := 12) (y := 150) rfl rfl (hL.lt 43 rfl) (hL.k 43 rfl) rfl rfl rfl rfl (n_here (k := q.2.1) hL ⟨hM, hs, f5, f6, f7, f8, f9⟩ hE hT (by omega)) (fun r h2 hq => ?_)
          obtain ⟨rfl, hh⟩ := hq
          subst hh
          refine E_const rfl ?_
          refine E_cmp1 rfl (by omega) (fun q3 => ?_) (fun q3 => ?_)
          · refine E_load rfl rfl rfl ?_
            refine E_getf (c := 12) (v := (0, 0)) rfl (hL.lt 43 rfl) (hL.k 43 rfl) rfl (fv f8) ?_
            refine E_if1 rfl (by omega) (fun q4 => ?_) (fun q4 => ?_)
            · exfalso; omega
            · refine E_load rfl rfl rfl ?_
              refine E_getf (c := 12) (v := (0, ((q.2.1 : Nat) : Int))) rfl (hL.lt 43 rfl) (hL.k 43 rfl) rfl (fv f6) ?_
              refine E_load rfl rfl rfl ?_
              refine E_getf (c := 12) (v := (0, ((n : Nat) : Int))) rfl (hL.lt 43 rfl) (hL.k 43 rfl) rfl (fv f7) ?_
              refine E_cmp0 rfl (by omega) (fun q5 => ?_) (fun q5 => ?_)
              · refine E_load rfl rfl rfl ?_
                refine E_getr (c := 12) (r := 44) rfl (hL.lt 43 rfl) (hL.k 43 rfl) rfl hM.c1 ?_
                refine E_const rfl ?_
                refine E_dup2 rfl rfl rfl ?_
                refine E_ialn (n := 943) (v := (s 30)) rfl (hL.lt 44 rfl) (hL.k 44 rfl) (hL.l 44 rfl) (by omega) (rdS hs (by omega)) ?_
                refine E_const rfl ?_
                refine E_add rfl ?_
                refine E_iasg (n := 943) (j := 30) rfl (hL.lt 44 rfl) (hL.k 44 rfl) (hL.l 44 rfl) (by omega) (by omega) (fun c_1 hc_1 => ?_)
                have hE_1 : Eqk PS c c_1 := by rw [hc_1]; exact Eqk.up rfl
                have hM_1 : Mc c_1 := by rw [hc_1]; exact hM.upo rfl
                have hf5_1 : c_1 43 5 = ((act : Nat) : Int) := by rw [hc_1]; exact (up2_fld rfl).trans f5
                have hf6_1 : c_1 43 6 = ((q.2.1 : Nat) : Int) := by rw [hc_1]; exact (up2_fld rfl).trans f6
                have hf7_1 : c_1 43 7 = ((n : Nat) : Int) := by rw [hc_1]; exact (up2_fld rfl).trans f7
                have hf8_1 : c_1 43 8 = 0 := by rw [hc_1]; exact (up2_fld rfl).trans f8
                have hf9_1 : c_1 43 9 = 0 := by rw [hc_1]; exact (up2_fld rfl).trans f9
                have hs_1 : c_1 44 = upd1 s 30 ((s 30) + 1) := by rw [hc_1]; exact up2_rowS hs
                refine E_load rfl rfl rfl ?_
                refine E_getr (c := 12) (r := 44) rfl (hL.lt 43 rfl) (hL.k 43 rfl) rfl hM_1.c1 ?_
                refine E_const rfl ?_
                refine E_load rfl rfl rfl ?_
                refine E_getf (c := 12) (v := (0, ((act : Nat) : Int))) rfl (hL.lt 43 rfl) (hL.k 43 rfl) rfl (fv hf5_1) ?_
                refine E_iasg (n := 943) (j := 35) rfl (hL.lt 44 rfl) (hL.k 44 rfl) (hL.l 44 rfl) (by omega) (by omega) (fun c_2 hc_2 => ?_)
                have hE_2 : Eqk PS c_1 c_2 := by rw [hc_2]; exact Eqk.up rfl
                have hM_2 : Mc c_2 := by rw [hc_2]; exact hM_1.upo rfl
                have hf5_2 : c_2 43 5 = ((act : Nat) : Int) := by rw [hc_2]; exact (up2_fld rfl).trans hf5_1
                have hf6_2 : c_2 43 6 = ((q.2.1 : Nat) : Int) := by rw [hc_2]; exact (up2_fld rfl).trans hf6_1
                have hf7_2 : c_2 43 7 = ((n : Nat) : Int) := by rw [hc_2]; exact (up2_fld rfl).trans hf7_1
                have hf8_2 : c_2 43 8 = 0 := by rw [hc_2]; exact (up2_fld rfl).trans hf8_1
                have hf9_2 : c_2 43 9 = 0 := by rw [hc_2]; exact (up2_fld rfl).trans hf9_1
                have hs_2 : c_2 44 = upd1 (upd1 s 30 ((s 30) + 1)) 35 ((act : Nat) : Int) := by rw [hc_2]; exact up2_rowS hs_1
                refine E_load rfl rfl rfl ?_
                refine E_getf (c := 12) (v := (0, ((act : Nat) : Int))) rfl (hL.lt 43 rfl) (hL.k 43 rfl) rfl (fv hf5_2) ?_
                refine E_iret rfl (fun h => absurd h (by decide)) ?_
                have hh2 : n ≤ q.2.1 := by omega
                rw [show pEnd g n (f + 1) q l = (true, q.2.1, l ++ [q.2.2]) from (if_pos hb).trans (if_pos hh2)]
                exact CellQ.yes (s2 := s) Rh.nil (hC hb).1 hs_2 (hE_1.trans hE_2)
              · refine E_const rfl ?_
                refine E_load rfl rfl rfl ?_
                refine E_getf (c := 12) (v := (0, ((q.2.1 : Nat) : Int))) rfl (hL.lt 43 rfl) (hL.k 43 rfl) rfl (fv f6) ?_
                refine E_sub rfl ?_
                refine E_iret rfl (fun h => absurd h (by decide)) ?_
                have hh2 : ¬ n ≤ q.2.1 := by omega
                have hh3 : ¬ ((f + 1) ≠ 0 ∧ g q.2.1 = 59) := by omega
                rw [show pEnd g n (f + 1) q l = (false, q.2.1, []) from (if_pos hb).trans ((if_neg hh2).trans (if_neg hh3))]
                exact CellQ.no rfl Rh.nil hs Eqk.nil
          · refine E_load rfl rfl rfl ?_
            refine E_dup rfl rfl ?_
            refine E_getf (c := 12) (v := (0, ((q.2.1 : Nat) : Int))) rfl (hL.lt 43 rfl) (hL.k 43 rfl) rfl (fv f6) ?_
            refine E_const rfl ?_
            refine E_add rfl ?_
            refine E_putg (cl := 12) rfl (hL.lt 43 rfl) (hL.k 43 rfl) rfl (fun c_3 hc_3 => ?_)
            have hE_3 : Eqk PS c c_3 := by rw [hc_3]; exact Eqk.up rfl
            have hM_3 : Mc c_3 := by rw [hc_3]; exact hM.up43 rfl
            have hs_3 : c_3 44 = s := by rw [hc_3]; exact (up2_oth rfl).trans hs
            have hf5_3 : c_3 43 5 = ((act : Nat) : Int) := by rw [hc_3]; exact (up2_fld rfl).trans f5
            have hf7_3 : c_3 43 7 = ((n : Nat) : Int) := by rw [hc_3]; exact (up2_fld rfl).trans f7
            have hf8_3 : c_3 43 8 = 0 := by rw [hc_3]; exact (up2_fld rfl).trans f8
            have hf9_3 : c_3 43 9 = 0 := by rw [hc_3]; exact (up2_fld rfl).trans f9
            have hf6_3 : c_3 43 6 = (((q.2.1 : Nat) : Int) + 1) := by rw [hc_3]; exact up2_same
            refine E_load rfl rfl rfl ?_
            refine E_V0 (q := 43) (c := 12) (y := 162) rfl rfl (hL.lt 43 rfl) (hL.k 43 rfl) rfl rfl rfl rfl (n_clause (k := q.2.1 + 1) (l := l ++ [q.2.2]) hL hE hact ⟨hM_3, hs_3, hf5_3, hf6_3, hf7_3, hf8_3, hf9_3⟩ hT (hlt (by omega)) (hC hb).1 (by have := (hC hb).2; omega)) (fun r h2 hq => ?_)
            obtain ⟨rfl, c_4, s_4, hh, hQ_4, hG_4, hS_4, hE_4⟩ := hq
            subst hh
            obtain ⟨hM_4, hs_4, hf5_4, hf6_4, hf7_4, hf8_4, hf9_4⟩ := hQ_4
            refine E_iinc rfl rfl rfl ?_
            refine E_goto rfl ?_
            have hh2 : ¬ n ≤ q.2.1 := by have := hlt (by omega); omega
            rw [show pEnd g n (f + 1) q l = pEnd g n f (pCla g (q.2.1 + 1)) (l ++ [q.2.2]) from (if_pos hb).trans ((if_neg hh2).trans (if_pos ⟨by omega, by omega⟩))]
            have hw := pCla_wc hE (k := q.2.1 + 1) (hlt (by omega))
            refine (ih (pCla g (q.2.1 + 1)) (l ++ [q.2.2]) s_4 c_4 _ (by omega) (by omega) hw.1.2 ⟨hM_4, hs_4, hf5_4, hf6_4, hf7_4, hf8_4, hf9_4⟩ (hT.rh hG_4 hn) (fun z => ⟨hS_4 z, ?_⟩)).mono fun r h2 k => CellQ.of hG_4 (hE_3.trans hE_4) k
            have hw2 := (hw.2 z).1
            have hl2 := (hC hb).2
            have hl3 := stepC_len (x := (pCla g (q.2.1 + 1)).2.2)
            rw [stepsC_app, List.length_append]
            omega
    · rw [if_neg (by rw [hb]; decide)] at f8
      refine E_load rfl rfl rfl ?_
      refine E_getf (c := 12) (v := (0, 1)) rfl (hL.lt 43 rfl) (hL.k 43 rfl) rfl (fv f8) ?_
      refine E_if1 rfl (by omega) (fun q1 => ?_) (fun q1 => ?_)
      · refine E_load rfl rfl rfl ?_
        refine E_getf (c := 12) (v := (0, 1)) rfl (hL.lt 43 rfl) (hL.k 43 rfl) rfl (fv f8) ?_
        refine E_if1 rfl (by omega) (fun q2 => ?_) (fun q2 => ?_)
        · refine E_const rfl ?_
          refine E_load rfl rfl rfl ?_
          refine E_getf (c := 12) (v := (0, ((q.2.1 : Nat) : Int))) rfl (hL.lt 43 rfl) (hL.k 43 rfl) rfl (fv f6) ?_
          refine E_sub rfl ?_
          refine E_iret rfl (fun h => absurd h (by decide)) ?_
          rw [show pEnd g n (f + 1) q l = (false, q.2.1, []) from if_neg (by rw [hb]; decide)]
          exact CellQ.no rfl Rh.nil hs Eqk.nil
        · exfalso; omega
      · exfalso; omega
set_option maxHeartbeats 4000000 in
set_option maxRecDepth 100000 in
theorem n_cel1 {h : Hp} {c : Nat → Nat → Int} {s g : Nat → Int} {act n D : Nat} (hL : Lay h) (hE : Ends g n) (hact : act ≤ 4) (hR : RS c s act n 0 0 0) (hT : TpR s g n) (hCu : CuR s act []) : Ex (D + 24) none t_X11_cellar 0 103 [(1, ((43 : Nat) : Int)), (0, 1)] [] (wC h c) (CellQ h c s act (pTxt g n 10 0 [])) := by
  have hn := hE.1
  have hRR := hR
  obtain ⟨hM, hs, f5, f6, f7, f8, f9⟩ := hR
  refine E_load rfl rfl rfl ?_
  refine E_V0 (q := 43) (c := 12) (y := 162) rfl rfl (hL.lt 43 rfl) (hL.k 43 rfl) rfl rfl rfl rfl (n_clause (k := 0) (l := []) hL hE hact hRR hT (Nat.zero_le _) hCu (Nat.zero_le _)) (fun r h2 hq => ?_)
  obtain ⟨rfl, c_1, s_1, hh, hQ_1, hG_1, hS_1, hE_1⟩ := hq
  subst hh
  obtain ⟨hM_1, hs_1, hf5_1, hf6_1, hf7_1, hf8_1, hf9_1⟩ := hQ_1
  have hw := pCla_wc hE (k := 0) (Nat.zero_le _)
  refine (l_cellar hL hE hact 9 (pCla g 0) [] s_1 c_1 _ rfl (Nat.le_refl _) hw.1.2 ⟨hM_1, hs_1, hf5_1, hf6_1, hf7_1, hf8_1, hf9_1⟩ (hT.rh hG_1 hn) (fun z => ⟨hS_1 z, ?_⟩)).mono fun r h2 k => CellQ.of hG_1 hE_1 k
  have hw2 := (hw.2 z).1
  have hl3 := stepC_len (x := (pCla g 0).2.2)
  rw [stepsC_app, List.length_append]
  show 0 + _ ≤ _
  omega
