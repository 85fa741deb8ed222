set_option maxHeartbeats 4000000 in
set_option maxRecDepth 100000 in
theorem c_newM {d : Nat} {h : Hp} {c : Nat → Nat → Int} (hN : LayN 44 h) (h43 : c 43 = mDef 12) : Ok (d + 1) 138 [(1, ((43 : Nat) : Int))] (wC h c) (fun r h2 => r = none ∧ ∃ h' c', h2 = wC h' c' ∧ LayN 55 h' ∧ mS h' = mS h + 2035 ∧ Mc c' ∧ c' 44 = upd1 (fun _ => 0) 35 (-1) ∧ (c' 43 4 = 0 ∧ c' 43 20 = 0) ∧ ∀ a, a < 43 → c' a = c a) := by
  show Ex _ none t_X11_init 0 0 _ [] (wC h c) _
  refine E_load rfl rfl rfl ?_
  refine E_obj rfl (show 43 < mN h by rw [hN.1]; omega) rfl ?_
  refine E_load rfl rfl rfl ?_
  refine E_const rfl ?_
  refine E_newag (h := h) (m := 943) rfl (Or.inl rfl) rfl (by decide) ?_
  have hN1 : LayN (44 + 1) (nwH h 20 943) := hN.nw rfl rfl
  have sv1 : mS (nwH h 20 943) = mS h + 943 := rfl
  have hn1 : mN h = 44 := hN.1
  refine E_putg (h := nwH h 20 943) (cl := 12) (q := 43) rfl (show 43 < mN (nwH h 20 943) by rw [hN1.1]; omega) (hN1.2 43 (by omega)).1 rfl (fun d1 hd1 => ?_)
  rw [hn1] at hd1
  replace hd1 : d1 = up2 (nwC c 44 (fun _ => 0)) 43 1 44 := hd1
  have z1 : d1 43 = upd1 (mDef 12) 1 44 := by rw [hd1, up2_row, nwC_o (by omega), h43]
  have o1 : ∀ a, a ≠ 43 → a < 44 → d1 a = c a := fun a ha hb => by rw [hd1, up2_othN ha, nwC_o (by omega)]
  have b1 : d1 44 = fun _ => 0 := by rw [hd1, up2_othN (by omega), nwC_n]
  clear hd1
  obtain ⟨h1, eh1⟩ : ∃ z, z = nwH h 20 943 := ⟨_, rfl⟩
  rw [← eh1] at hN1 sv1 ⊢
  refine E_load rfl rfl rfl ?_
  refine E_const rfl ?_
  refine E_newag (h := h1) (m := 943) rfl (Or.inl rfl) rfl (by decide) ?_
  have hN2 : LayN (45 + 1) (nwH h1 20 943) := hN1.nw rfl rfl
  have sv2 : mS (nwH h1 20 943) = mS h1 + 943 := rfl
  have hn2 : mN h1 = 45 := hN1.1
  refine E_putg (h := nwH h1 20 943) (cl := 12) (q := 43) rfl (show 43 < mN (nwH h1 20 943) by rw [hN2.1]; omega) (hN2.2 43 (by omega)).1 rfl (fun d2 hd2 => ?_)
  rw [hn2] at hd2
  replace hd2 : d2 = up2 (nwC d1 45 (fun _ => 0)) 43 2 45 := hd2
  have z2 : d2 43 = upd1 (upd1 (mDef 12) 1 44) 2 45 := by rw [hd2, up2_row, nwC_o (by omega), z1]
  have o2 : ∀ a, a ≠ 43 → a < 45 → d2 a = d1 a := fun a ha hb => by rw [hd2, up2_othN ha, nwC_o (by omega)]
  have b2 : d2 45 = fun _ => 0 := by rw [hd2, up2_othN (by omega), nwC_n]
  clear hd2
  obtain ⟨h2, eh2⟩ : ∃ z, z = nwH h1 20 943 := ⟨_, rfl⟩
  rw [← eh2] at hN2 sv2 ⊢
  refine E_load rfl rfl rfl ?_
  refine E_const rfl ?_
  refine E_newag (h := h2) (m := 29) rfl (Or.inl rfl) rfl (by decide) ?_
  have hN3 : LayN (46 + 1) (nwH h2 20 29) := hN2.nw rfl rfl
  have sv3 : mS (nwH h2 20 29) = mS h2 + 29 := rfl
  have hn3 : mN h2 = 46 := hN2.1
  refine E_putg (h := nwH h2 20 29) (cl := 12) (q := 43) rfl (show 43 < mN (nwH h2 20 29) by rw [hN3.1]; omega) (hN3.2 43 (by omega)).1 rfl (fun d3 hd3 => ?_)
  rw [hn3] at hd3
  replace hd3 : d3 = up2 (nwC d2 46 (fun _ => 0)) 43 3 46 := hd3
  have z3 : d3 43 = upd1 (upd1 (upd1 (mDef 12) 1 44) 2 45) 3 46 := by rw [hd3, up2_row, nwC_o (by omega), z2]
  have o3 : ∀ a, a ≠ 43 → a < 46 → d3 a = d2 a := fun a ha hb => by rw [hd3, up2_othN ha, nwC_o (by omega)]
  have b3 : d3 46 = fun _ => 0 := by rw [hd3, up2_othN (by omega), nwC_n]
  clear hd3
  obtain ⟨h3, eh3⟩ : ∃ z, z = nwH h2 20 29 := ⟨_, rfl⟩
  rw [← eh3] at hN3 sv3 ⊢
  refine E_load rfl rfl rfl ?_
  refine E_const rfl ?_
  refine E_newag (h := h3) (m := 6) rfl (Or.inl rfl) rfl (by decide) ?_
  have hN4 : LayN (47 + 1) (nwH h3 20 6) := hN3.nw rfl rfl
  have sv4 : mS (nwH h3 20 6) = mS h3 + 6 := rfl
  have hn4 : mN h3 = 47 := hN3.1
  refine E_putg (h := nwH h3 20 6) (cl := 12) (q := 43) rfl (show 43 < mN (nwH h3 20 6) by rw [hN4.1]; omega) (hN4.2 43 (by omega)).1 rfl (fun d4 hd4 => ?_)
  rw [hn4] at hd4
  replace hd4 : d4 = up2 (nwC d3 47 (fun _ => 0)) 43 10 47 := hd4
  have z4 : d4 43 = upd1 (upd1 (upd1 (upd1 (mDef 12) 1 44) 2 45) 3 46) 10 47 := by rw [hd4, up2_row, nwC_o (by omega), z3]
  have o4 : ∀ a, a ≠ 43 → a < 47 → d4 a = d3 a := fun a ha hb => by rw [hd4, up2_othN ha, nwC_o (by omega)]
  have b4 : d4 47 = fun _ => 0 := by rw [hd4, up2_othN (by omega), nwC_n]
  clear hd4
  obtain ⟨h4, eh4⟩ : ∃ z, z = nwH h3 20 6 := ⟨_, rfl⟩
  rw [← eh4] at hN4 sv4 ⊢
  refine E_load rfl rfl rfl ?_
  refine E_const rfl ?_
  refine E_newag (h := h4) (m := 64) rfl (Or.inr rfl) rfl (by decide) ?_
  have hN5 : LayN (48 + 1) (nwH h4 21 64) := hN4.nw rfl rfl
  have sv5 : mS (nwH h4 21 64) = mS h4 + 64 := rfl
  have hn5 : mN h4 = 48 := hN4.1
  refine E_putg (h := nwH h4 21 64) (cl := 12) (q := 43) rfl (show 43 < mN (nwH h4 21 64) by rw [hN5.1]; omega) (hN5.2 43 (by omega)).1 rfl (fun d5 hd5 => ?_)
  rw [hn5] at hd5
  replace hd5 : d5 = up2 (nwC d4 48 (fun _ => 0)) 43 11 48 := hd5
  have z5 : d5 43 = upd1 (upd1 (upd1 (upd1 (upd1 (mDef 12) 1 44) 2 45) 3 46) 10 47) 11 48 := by rw [hd5, up2_row, nwC_o (by omega), z4]
  have o5 : ∀ a, a ≠ 43 → a < 48 → d5 a = d4 a := fun a ha hb => by rw [hd5, up2_othN ha, nwC_o (by omega)]
  have b5 : d5 48 = fun _ => 0 := by rw [hd5, up2_othN (by omega), nwC_n]
  clear hd5
  obtain ⟨h5, eh5⟩ : ∃ z, z = nwH h4 21 64 := ⟨_, rfl⟩
  rw [← eh5] at hN5 sv5 ⊢
  refine E_load rfl rfl rfl ?_
  refine E_const rfl ?_
  refine E_newag (h := h5) (m := 6) rfl (Or.inl rfl) rfl (by decide) ?_
  have hN6 : LayN (49 + 1) (nwH h5 20 6) := hN5.nw rfl rfl
  have sv6 : mS (nwH h5 20 6) = mS h5 + 6 := rfl
  have hn6 : mN h5 = 49 := hN5.1
  refine E_putg (h := nwH h5 20 6) (cl := 12) (q := 43) rfl (show 43 < mN (nwH h5 20 6) by rw [hN6.1]; omega) (hN6.2 43 (by omega)).1 rfl (fun d6 hd6 => ?_)
  rw [hn6] at hd6
  replace hd6 : d6 = up2 (nwC d5 49 (fun _ => 0)) 43 12 49 := hd6
  have z6 : d6 43 = upd1 (upd1 (upd1 (upd1 (upd1 (upd1 (mDef 12) 1 44) 2 45) 3 46) 10 47) 11 48) 12 49 := by rw [hd6, up2_row, nwC_o (by omega), z5]
  have o6 : ∀ a, a ≠ 43 → a < 49 → d6 a = d5 a := fun a ha hb => by rw [hd6, up2_othN ha, nwC_o (by omega)]
  have b6 : d6 49 = fun _ => 0 := by rw [hd6, up2_othN (by omega), nwC_n]
  clear hd6
  obtain ⟨h6, eh6⟩ : ∃ z, z = nwH h5 20 6 := ⟨_, rfl⟩
  rw [← eh6] at hN6 sv6 ⊢
  refine E_load rfl rfl rfl ?_
  refine E_const rfl ?_
  refine E_newag (h := h6) (m := 6) rfl (Or.inl rfl) rfl (by decide) ?_
  have hN7 : LayN (50 + 1) (nwH h6 20 6) := hN6.nw rfl rfl
  have sv7 : mS (nwH h6 20 6) = mS h6 + 6 := rfl
  have hn7 : mN h6 = 50 := hN6.1
  refine E_putg (h := nwH h6 20 6) (cl := 12) (q := 43) rfl (show 43 < mN (nwH h6 20 6) by rw [hN7.1]; omega) (hN7.2 43 (by omega)).1 rfl (fun d7 hd7 => ?_)
  rw [hn7] at hd7
  replace hd7 : d7 = up2 (nwC d6 50 (fun _ => 0)) 43 13 50 := hd7
  have z7 : d7 43 = upd1 (upd1 (upd1 (upd1 (upd1 (upd1 (upd1 (mDef 12) 1 44) 2 45) 3 46) 10 47) 11 48) 12 49) 13 50 := by rw [hd7, up2_row, nwC_o (by omega), z6]
  have o7 : ∀ a, a ≠ 43 → a < 50 → d7 a = d6 a := fun a ha hb => by rw [hd7, up2_othN ha, nwC_o (by omega)]
  have b7 : d7 50 = fun _ => 0 := by rw [hd7, up2_othN (by omega), nwC_n]
  clear hd7
  obtain ⟨h7, eh7⟩ : ∃ z, z = nwH h6 20 6 := ⟨_, rfl⟩
  rw [← eh7] at hN7 sv7 ⊢
  refine E_load rfl rfl rfl ?_
  refine E_const rfl ?_
  refine E_newag (h := h7) (m := 6) rfl (Or.inl rfl) rfl (by decide) ?_
  have hN8 : LayN (51 + 1) (nwH h7 20 6) := hN7.nw rfl rfl
  have sv8 : mS (nwH h7 20 6) = mS h7 + 6 := rfl
  have hn8 : mN h7 = 51 := hN7.1
  refine E_putg (h := nwH h7 20 6) (cl := 12) (q := 43) rfl (show 43 < mN (nwH h7 20 6) by rw [hN8.1]; omega) (hN8.2 43 (by omega)).1 rfl (fun d8 hd8 => ?_)
  rw [hn8] at hd8
  replace hd8 : d8 = up2 (nwC d7 51 (fun _ => 0)) 43 14 51 := hd8
  have z8 : d8 43 = upd1 (upd1 (upd1 (upd1 (upd1 (upd1 (upd1 (upd1 (mDef 12) 1 44) 2 45) 3 46) 10 47) 11 48) 12 49) 13 50) 14 51 := by rw [hd8, up2_row, nwC_o (by omega), z7]
  have o8 : ∀ a, a ≠ 43 → a < 51 → d8 a = d7 a := fun a ha hb => by rw [hd8, up2_othN ha, nwC_o (by omega)]
  have b8 : d8 51 = fun _ => 0 := by rw [hd8, up2_othN (by omega), nwC_n]
  clear hd8
  obtain ⟨h8, eh8⟩ : ∃ z, z = nwH h7 20 6 := ⟨_, rfl⟩
  rw [← eh8] at hN8 sv8 ⊢
  refine E_load rfl rfl rfl ?_
  refine E_const rfl ?_
  refine E_newag (h := h8) (m := 6) rfl (Or.inl rfl) rfl (by decide) ?_
  have hN9 : LayN (52 + 1) (nwH h8 20 6) := hN8.nw rfl rfl
  have sv9 : mS (nwH h8 20 6) = mS h8 + 6 := rfl
  have hn9 : mN h8 = 52 := hN8.1
  refine E_putg (h := nwH h8 20 6) (cl := 12) (q := 43) rfl (show 43 < mN (nwH h8 20 6) by rw [hN9.1]; omega) (hN9.2 43 (by omega)).1 rfl (fun d9 hd9 => ?_)
  rw [hn9] at hd9
  replace hd9 : d9 = up2 (nwC d8 52 (fun _ => 0)) 43 16 52 := hd9
  have z9 : d9 43 = upd1 (upd1 (upd1 (upd1 (upd1 (upd1 (upd1 (upd1 (upd1 (mDef 12) 1 44) 2 45) 3 46) 10 47) 11 48) 12 49) 13 50) 14 51) 16 52 := by rw [hd9, up2_row, nwC_o (by omega), z8]
  have o9 : ∀ a, a ≠ 43 → a < 52 → d9 a = d8 a := fun a ha hb => by rw [hd9, up2_othN ha, nwC_o (by omega)]
  have b9 : d9 52 = fun _ => 0 := by rw [hd9, up2_othN (by omega), nwC_n]
  clear hd9
  obtain ⟨h9, eh9⟩ : ∃ z, z = nwH h8 20 6 := ⟨_, rfl⟩
  rw [← eh9] at hN9 sv9 ⊢
  refine E_load rfl rfl rfl ?_
  refine E_const rfl ?_
  refine E_newag (h := h9) (m := 6) rfl (Or.inl rfl) rfl (by decide) ?_
  have hN10 : LayN (53 + 1) (nwH h9 20 6) := hN9.nw rfl rfl
  have sv10 : mS (nwH h9 20 6) = mS h9 + 6 := rfl
  have hn10 : mN h9 = 53 := hN9.1
  refine E_putg (h := nwH h9 20 6) (cl := 12) (q := 43) rfl (show 43 < mN (nwH h9 20 6) by rw [hN10.1]; omega) (hN10.2 43 (by omega)).1 rfl (fun d10 hd10 => ?_)
  rw [hn10] at hd10
  replace hd10 : d10 = up2 (nwC d9 53 (fun _ => 0)) 43 17 53 := hd10
  have z10 : d10 43 = upd1 (upd1 (upd1 (upd1 (upd1 (upd1 (upd1 (upd1 (upd1 (upd1 (mDef 12) 1 44) 2 45) 3 46) 10 47) 11 48) 12 49) 13 50) 14 51) 16 52) 17 53 := by rw [hd10, up2_row, nwC_o (by omega), z9]
  have o10 : ∀ a, a ≠ 43 → a < 53 → d10 a = d9 a := fun a ha hb => by rw [hd10, up2_othN ha, nwC_o (by omega)]
  have b10 : d10 53 = fun _ => 0 := by rw [hd10, up2_othN (by omega), nwC_n]
  clear hd10
  obtain ⟨h10, eh10⟩ : ∃ z, z = nwH h9 20 6 := ⟨_, rfl⟩
  rw [← eh10] at hN10 sv10 ⊢
  refine E_load rfl rfl rfl ?_
  refine E_const rfl ?_
  refine E_newag (h := h10) (m := 20) rfl (Or.inl rfl) rfl (by decide) ?_
  have hN11 : LayN (54 + 1) (nwH h10 20 20) := hN10.nw rfl rfl
  have sv11 : mS (nwH h10 20 20) = mS h10 + 20 := rfl
  have hn11 : mN h10 = 54 := hN10.1
  refine E_putg (h := nwH h10 20 20) (cl := 12) (q := 43) rfl (show 43 < mN (nwH h10 20 20) by rw [hN11.1]; omega) (hN11.2 43 (by omega)).1 rfl (fun d11 hd11 => ?_)
  rw [hn11] at hd11
  replace hd11 : d11 = up2 (nwC d10 54 (fun _ => 0)) 43 19 54 := hd11
  have z11 : d11 43 = upd1 (upd1 (upd1 (upd1 (upd1 (upd1 (upd1 (upd1 (upd1 (upd1 (upd1 (mDef 12) 1 44) 2 45) 3 46) 10 47) 11 48) 12 49) 13 50) 14 51) 16 52) 17 53) 19 54 := by rw [hd11, up2_row, nwC_o (by omega), z10]
  have o11 : ∀ a, a ≠ 43 → a < 54 → d11 a = d10 a := fun a ha hb => by rw [hd11, up2_othN ha, nwC_o (by omega)]
  have b11 : d11 54 = fun _ => 0 := by rw [hd11, up2_othN (by omega), nwC_n]
  clear hd11
  obtain ⟨h11, eh11⟩ : ∃ z, z = nwH h10 20 20 := ⟨_, rfl⟩
  rw [← eh11] at hN11 sv11 ⊢
  refine E_load rfl rfl rfl ?_
  refine E_getr (c := 12) (r := 44) rfl (show 43 < mN h11 by rw [hN11.1]; omega) (hN11.2 43 (by omega)).1 rfl (show d11 43 1 = _ by rw [z11]; rfl) ?_
  refine E_const rfl ?_
  refine E_const rfl ?_
  refine E_iasg (n := 943) (j := 35) rfl (show 44 < mN h11 by rw [hN11.1]; omega) (hN11.2 44 (by omega)).1 (hN11.2 44 (by omega)).2 (by omega) rfl (fun d12 hd12 => ?_)
  refine E_vret rfl ?_
  have e43 : d12 43 = upd1 (upd1 (upd1 (upd1 (upd1 (upd1 (upd1 (upd1 (upd1 (upd1 (upd1 (mDef 12) 1 44) 2 45) 3 46) 10 47) 11 48) 12 49) 13 50) 14 51) 16 52) 17 53) 19 54 := by rw [hd12, up2_othN (by omega), z11]
  refine ⟨rfl, h11, d12, rfl, hN11, by omega, ?_, ?_, ⟨by rw [e43]; rfl, by rw [e43]; rfl⟩, fun a ha => ?_⟩
  · refine ⟨?_, ?_, ?_, ?_, ?_, ?_, ?_, ?_, ?_, ?_, ?_⟩ <;> (show d12 43 _ = _) <;> rw [e43] <;> rfl
  · rw [hd12, up2_row, o11 44 (by omega) (by omega), o10 44 (by omega) (by omega), o9 44 (by omega) (by omega), o8 44 (by omega) (by omega), o7 44 (by omega) (by omega), o6 44 (by omega) (by omega), o5 44 (by omega) (by omega), o4 44 (by omega) (by omega), o3 44 (by omega) (by omega), o2 44 (by omega) (by omega), b1]
  · rw [hd12, up2_othN (by omega), o11 a (by omega) (by omega), o10 a (by omega) (by omega), o9 a (by omega) (by omega), o8 a (by omega) (by omega), o7 a (by omega) (by omega), o6 a (by omega) (by omega), o5 a (by omega) (by omega), o4 a (by omega) (by omega), o3 a (by omega) (by omega), o2 a (by omega) (by omega), o1 a (by omega) (by omega)]
