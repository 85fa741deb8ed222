/-- the signs of THE TAPE -/
def gS (s : Nat → Int) (k : Nat) : Int := if k < (s 34).toNat then s (128 + k) else 0
theorem gS_ends {s : Nat → Int} (hA : Inv s) : Ends (gS s) (s 34).toNat := by
  have n34 := hA.2.2.1.1.2.2.2.2.2.1
  refine ⟨by omega, fun k hk => if_neg (by omega), fun k => ?_⟩
  unfold gS
  split
  · exact hA.2.2.2.2.2.1 k (by omega)
  · omega
/-- what cellar answers and leaves -/
def CelR (s : Nat → Int) (v : Int) (s2 : Nat → Int) : Prop := (s 30 = 5 ∧ v = -4 ∧ s2 = s) ∨ (s 30 ≠ 5 ∧ ∃ s', Rh (s 30).toNat (upd1 s 34 0) s' ∧ (((pTxt (gS s) (s 34).toNat 10 0 []).1 = false ∧ v = -10 - ((pTxt (gS s) (s 34).toNat 10 0 []).2.1 : Int) ∧ s2 = s') ∨ ((pTxt (gS s) (s 34).toNat 10 0 []).1 = true ∧ v = s 30 ∧ CuR s' (s 30).toNat (pTxt (gS s) (s 34).toNat 10 0 []).2.2 ∧ s2 = upd1 (upd1 s' 30 (s 30 + 1)) 35 (s 30))))
set_option maxHeartbeats 4000000 in
set_option maxRecDepth 100000 in
theorem n_cellar {d : Nat} {h : Hp} {c : Nat → Nat → Int} {s : Nat → Int} (hL : Lay h) (hM : Mc c) (hs : c 44 = s) (hA : Inv s) : Ok (d + 24) 163 [(1, ((43 : Nat) : Int))] (wC h c) (fun r h2 => ∃ v, r = some (0, v) ∧ ∃ c2 s2, h2 = wC h c2 ∧ c2 44 = s2 ∧ CelR s v s2 ∧ Eqk PS c c2) := by
  show Ex _ none t_X11_cellar 0 0 _ [] (wC h c) _
  have hE := gS_ends hA
  have hAA := hA
  obtain ⟨hI, hH, ⟨⟨n29, n30, n31, n32, n33, n34, n36⟩, nM⟩, hX⟩ := hA
  obtain ⟨act, hact⟩ := Int.eq_ofNat_of_zero_le n30.1
  obtain ⟨n, hn⟩ := Int.eq_ofNat_of_zero_le n34.1
  refine E_load rfl rfl rfl ?_
  refine E_getr (c := 12) (r := 44) rfl (hL.lt 43 rfl) (hL.k 43 rfl) rfl hM.c1 ?_
  refine E_const rfl ?_
  refine E_ialn (n := 943) (v := ((act : Nat) : Int)) rfl (hL.lt 44 rfl) (hL.k 44 rfl) (hL.l 44 rfl) (by omega) ((rdS hs (by omega)).trans hact) ?_
  refine E_const rfl ?_
  refine E_cmp1 rfl (by omega) (fun q1 => ?_) (fun q1 => ?_)
  · refine E_load rfl rfl rfl ?_
    refine E_load rfl rfl rfl ?_
    refine E_getr (c := 12) (r := 44) rfl (hL.lt 43 rfl) (hL.k 43 rfl) rfl hM.c1 ?_
    refine E_const rfl ?_
    refine E_ialn (n := 943) (v := ((act : Nat) : Int)) rfl (hL.lt 44 rfl) (hL.k 44 rfl) (hL.l 44 rfl) (by omega) ((rdS hs (by omega)).trans hact) ?_
    refine E_putg (cl := 12) rfl (hL.lt 43 rfl) (hL.k 43 rfl) rfl (fun c_1 hc_1 => ?_)
    have hE_1 : Eqk PS c c_1 := by rw [hc_1]; exact Eqk.up rfl
    have hM_1 : Mc c_1 := by rw [hc_1]; exact hM.up43 rfl
    have hs_1 : c_1 44 = s := by rw [hc_1]; exact (up2_oth rfl).trans hs
    have hf5_1 : c_1 43 5 = ((act : Nat) : Int) := by rw [hc_1]; exact up2_same
    refine E_load rfl rfl rfl ?_
    refine E_load rfl rfl rfl ?_
    refine E_getr (c := 12) (r := 44) rfl (hL.lt 43 rfl) (hL.k 43 rfl) rfl hM_1.c1 ?_
    refine E_const rfl ?_
    refine E_ialn (n := 943) (v := ((n : Nat) : Int)) rfl (hL.lt 44 rfl) (hL.k 44 rfl) (hL.l 44 rfl) (by omega) ((rdS hs_1 (by omega)).trans hn) ?_
    refine E_putg (cl := 12) rfl (hL.lt 43 rfl) (hL.k 43 rfl) rfl (fun c_2 hc_2 => ?_)
    have hE_2 : Eqk PS c_1 c_2 := by rw [hc_2]; exact Eqk.up rfl
    have hM_2 : Mc c_2 := by rw [hc_2]; exact hM_1.up43 rfl
    have hs_2 : c_2 44 = s := by rw [hc_2]; exact (up2_oth rfl).trans hs_1
    have hf5_2 : c_2 43 5 = ((act : Nat) : Int) := by rw [hc_2]; exact (up2_fld rfl).trans hf5_1
    have hf7_2 : c_2 43 7 = ((n : Nat) : Int) := by rw [hc_2]; exact up2_same
    refine E_load rfl rfl rfl ?_
    refine E_getr (c := 12) (r := 44) rfl (hL.lt 43 rfl) (hL.k 43 rfl) rfl hM_2.c1 ?_
    refine E_const rfl ?_
    refine E_const rfl ?_
    refine E_iasg (n := 943) (j := 34) rfl (hL.lt 44 rfl) (hL.k 44 rfl) (hL.l 44 rfl) (by omega) (by omega) (fun c_3 hc_3 => ?_)
    have hE_3 : Eqk PS c_2 c_3 := by rw [hc_3]; exact Eqk.up rfl
    have hM_3 : Mc c_3 := by rw [hc_3]; exact hM_2.upo rfl
    have hf5_3 : c_3 43 5 = ((act : Nat) : Int) := by rw [hc_3]; exact (up2_fld rfl).trans hf5_2
    have hf7_3 : c_3 43 7 = ((n : Nat) : Int) := by rw [hc_3]; exact (up2_fld rfl).trans hf7_2
    have hs_3 : c_3 44 = upd1 s 34 0 := by rw [hc_3]; exact up2_rowS hs_2
    refine E_load rfl rfl rfl ?_
    refine E_getr (c := 12) (r := 44) rfl (hL.lt 43 rfl) (hL.k 43 rfl) rfl hM_3.c1 ?_
    refine E_const rfl ?_
    refine E_load rfl rfl rfl ?_
    refine E_getf (c := 12) (v := (0, ((act : Nat) : Int))) rfl (hL.lt 43 rfl) (hL.k 43 rfl) rfl (fv hf5_3) ?_
    refine E_add rfl ?_
    refine E_const rfl ?_
    refine E_iasg (n := 943) (j := (228 + act)) rfl (hL.lt 44 rfl) (hL.k 44 rfl) (hL.l 44 rfl) (by omega) (by omega) (fun c_4 hc_4 => ?_)
    have hE_4 : Eqk PS c_3 c_4 := by rw [hc_4]; exact Eqk.up rfl
    have hM_4 : Mc c_4 := by rw [hc_4]; exact hM_3.upo rfl
    have hf5_4 : c_4 43 5 = ((act : Nat) : Int) := by rw [hc_4]; exact (up2_fld rfl).trans hf5_3
    have hf7_4 : c_4 43 7 = ((n : Nat) : Int) := by rw [hc_4]; exact (up2_fld rfl).trans hf7_3
    have hs_4 : c_4 44 = upd1 (upd1 s 34 0) (228 + act) 0 := by rw [hc_4]; exact up2_rowS hs_3
    refine E_load rfl rfl rfl ?_
    refine E_getr (c := 12) (r := 44) rfl (hL.lt 43 rfl) (hL.k 43 rfl) rfl hM_4.c1 ?_
    refine E_const rfl ?_
    refine E_load rfl rfl rfl ?_
    refine E_getf (c := 12) (v := (0, ((act : Nat) : Int))) rfl (hL.lt 43 rfl) (hL.k 43 rfl) rfl (fv hf5_4) ?_
    refine E_add rfl ?_
    refine E_const rfl ?_
    refine E_iasg (n := 943) (j := (233 + act)) rfl (hL.lt 44 rfl) (hL.k 44 rfl) (hL.l 44 rfl) (by omega) (by omega) (fun c_5 hc_5 => ?_)
    have hE_5 : Eqk PS c_4 c_5 := by rw [hc_5]; exact Eqk.up rfl
    have hM_5 : Mc c_5 := by rw [hc_5]; exact hM_4.upo rfl
    have hf5_5 : c_5 43 5 = ((act : Nat) : Int) := by rw [hc_5]; exact (up2_fld rfl).trans hf5_4
    have hf7_5 : c_5 43 7 = ((n : Nat) : Int) := by rw [hc_5]; exact (up2_fld rfl).trans hf7_4
    have hs_5 : c_5 44 = upd1 (upd1 (upd1 s 34 0) (228 + act) 0) (233 + act) 5 := by rw [hc_5]; exact up2_rowS hs_4
    refine E_load rfl rfl rfl ?_
    refine E_getr (c := 12) (r := 44) rfl (hL.lt 43 rfl) (hL.k 43 rfl) rfl hM_5.c1 ?_
    refine E_const rfl ?_
    refine E_load rfl rfl rfl ?_
    refine E_getf (c := 12) (v := (0, ((act : Nat) : Int))) rfl (hL.lt 43 rfl) (hL.k 43 rfl) rfl (fv hf5_5) ?_
    refine E_add rfl ?_
    refine E_const rfl ?_
    refine E_iasg (n := 943) (j := (238 + act)) rfl (hL.lt 44 rfl) (hL.k 44 rfl) (hL.l 44 rfl) (by omega) (by omega) (fun c_6 hc_6 => ?_)
    have hE_6 : Eqk PS c_5 c_6 := by rw [hc_6]; exact Eqk.up rfl
    have hM_6 : Mc c_6 := by rw [hc_6]; exact hM_5.upo rfl
    have hf5_6 : c_6 43 5 = ((act : Nat) : Int) := by rw [hc_6]; exact (up2_fld rfl).trans hf5_5
    have hf7_6 : c_6 43 7 = ((n : Nat) : Int) := by rw [hc_6]; exact (up2_fld rfl).trans hf7_5
    have hs_6 : c_6 44 = upd1 (upd1 (upd1 (upd1 s 34 0) (228 + act) 0) (233 + act) 5) (238 + act) 0 := by rw [hc_6]; exact up2_rowS hs_5
    refine E_load rfl rfl rfl ?_
    refine E_const rfl ?_
    refine E_putg (cl := 12) rfl (hL.lt 43 rfl) (hL.k 43 rfl) rfl (fun c_7 hc_7 => ?_)
    have hE_7 : Eqk PS c_6 c_7 := by rw [hc_7]; exact Eqk.up rfl
    have hM_7 : Mc c_7 := by rw [hc_7]; exact hM_6.up43 rfl
    have hs_7 : c_7 44 = upd1 (upd1 (upd1 (upd1 s 34 0) (228 + act) 0) (233 + act) 5) (238 + act) 0 := by rw [hc_7]; exact (up2_oth rfl).trans hs_6
    have hf5_7 : c_7 43 5 = ((act : Nat) : Int) := by rw [hc_7]; exact (up2_fld rfl).trans hf5_6
    have hf7_7 : c_7 43 7 = ((n : Nat) : Int) := by rw [hc_7]; exact (up2_fld rfl).trans hf7_6
    have hf6_7 : c_7 43 6 = 0 := by rw [hc_7]; exact up2_same
    refine E_load rfl rfl rfl ?_
    refine E_const rfl ?_
    refine E_putzg (cl := 12) rfl (hL.lt 43 rfl) (hL.k 43 rfl) rfl (by decide) (fun c_8 hc_8 => ?_)
    have hE_8 : Eqk PS c_7 c_8 := by rw [hc_8]; exact Eqk.up rfl
    have hM_8 : Mc c_8 := by rw [hc_8]; exact hM_7.up43 rfl
    have hs_8 : c_8 44 = upd1 (upd1 (upd1 (upd1 s 34 0) (228 + act) 0) (233 + act) 5) (238 + act) 0 := by rw [hc_8]; exact (up2_oth rfl).trans hs_7
    have hf5_8 : c_8 43 5 = ((act : Nat) : Int) := by rw [hc_8]; exact (up2_fld rfl).trans hf5_7
    have hf7_8 : c_8 43 7 = ((n : Nat) : Int) := by rw [hc_8]; exact (up2_fld rfl).trans hf7_7
    have hf6_8 : c_8 43 6 = 0 := by rw [hc_8]; exact (up2_fld rfl).trans hf6_7
    have hf8_8 : c_8 43 8 = 0 := by rw [hc_8]; exact up2_same
    refine E_load rfl rfl rfl ?_
    refine E_const rfl ?_
    refine E_putg (cl := 12) rfl (hL.lt 43 rfl) (hL.k 43 rfl) rfl (fun c_9 hc_9 => ?_)
    have hE_9 : Eqk PS c_8 c_9 := by rw [hc_9]; exact Eqk.up rfl
    have hM_9 : Mc c_9 := by rw [hc_9]; exact hM_8.up43 rfl
    have hs_9 : c_9 44 = upd1 (upd1 (upd1 (upd1 s 34 0) (228 + act) 0) (233 + act) 5) (238 + act) 0 := by rw [hc_9]; exact (up2_oth rfl).trans hs_8
    have hf5_9 : c_9 43 5 = ((act : Nat) : Int) := by rw [hc_9]; exact (up2_fld rfl).trans hf5_8
    have hf7_9 : c_9 43 7 = ((n : Nat) : Int) := by rw [hc_9]; exact (up2_fld rfl).trans hf7_8
    have hf6_9 : c_9 43 6 = 0 := by rw [hc_9]; exact (up2_fld rfl).trans hf6_8
    have hf8_9 : c_9 43 8 = 0 := by rw [hc_9]; exact (up2_fld rfl).trans hf8_8
    have hf9_9 : c_9 43 9 = 0 := by rw [hc_9]; exact up2_same
    refine E_const rfl ?_
    refine E_store rfl rfl rfl ?_
    have ha4 : act ≤ 4 := by omega
    have hn2 : (s 34).toNat = n := by omega
    have ha2 : (s 30).toNat = act := by omega
    rw [hn2] at hE
    have hT : TpR (upd1 (upd1 (upd1 (upd1 s 34 0) (228 + act) 0) (233 + act) 5) (238 + act) 0) (gS s) n := fun j hj => by
      rw [upd1_ne (by omega), upd1_ne (by omega), upd1_ne (by omega), upd1_ne (by omega)]
      exact (if_pos (by omega)).symm
    have hCu : CuR (upd1 (upd1 (upd1 (upd1 s 34 0) (228 + act) 0) (233 + act) 5) (238 + act) 0) act [] := ⟨⟨upd1_same, fun i hi => absurd hi (Nat.not_lt_zero i)⟩, by rw [upd1_ne (by omega), upd1_ne (by omega), upd1_same]; rfl, by rw [upd1_ne (by omega), upd1_same]; rfl⟩
    have hG : Rh act (upd1 s 34 0) (upd1 (upd1 (upd1 (upd1 s 34 0) (228 + act) 0) (233 + act) 5) (238 + act) 0) := fun k a b c d => by rw [upd1_ne c, upd1_ne b, upd1_ne a]
    refine (n_cel1 hL hE ha4 (c := c_9) ⟨hM_9, hs_9, hf5_9, hf6_9, hf7_9, hf8_9, hf9_9⟩ hT hCu).mono ?_
    rintro r hE2 ⟨e1, c9, s9, e2, e3, e4, e5, e6⟩
    refine ⟨_, e1, c9, _, e2, rfl, Or.inr ⟨by omega, s9, by rw [ha2]; exact hG.trans e3, ?_⟩, (hE_1.trans (hE_2.trans (hE_3.trans (hE_4.trans (hE_5.trans (hE_6.trans (hE_7.trans (hE_8.trans hE_9)))))))).trans e6⟩
    rw [hn2, ha2]
    rcases Bool.eq_false_or_eq_true (pTxt (gS s) n 10 0 []).1 with hb | hb
    · rw [if_pos hb] at e5
      refine Or.inr ⟨hb, by rw [if_pos hb, hact], e4 hb, ?_⟩
      have h30 : s9 30 = s 30 := (e3 30 (by omega) (by omega) (by omega) (by omega)).trans ((hG 30 (by omega) (by omega) (by omega) (by omega)).trans (upd1_ne (by decide)))
      rw [e5, h30, hact]
    · have hb2 : ¬ (pTxt (gS s) n 10 0 []).1 = true := by rw [hb]; decide
      rw [if_neg hb2] at e5
      exact Or.inl ⟨hb, by rw [if_neg hb2], e5⟩
  · skip
    refine E_const rfl ?_
    refine E_iret rfl (fun h => absurd h (by decide)) ?_
    exact ⟨_, rfl, c, s, rfl, hs, Or.inl ⟨by omega, rfl, rfl⟩, Eqk.nil⟩
