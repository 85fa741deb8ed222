theorem n_mustY {d : Nat} {h : Hp} {c : Nat → Nat → Int} {s g : Nat → Int} {act n k : Nat} {o : Int} (hL : Lay h) (hR : RS c s act n k 0 o) (hE : Ends g n) (hT : TpR s g n) (hk : k ≤ n) {x : Int} (hx : 0 < x ∧ x ≤ 127) (hg : g k = x) : Ok (d + 1) 151 [(1, ((43 : Nat) : Int)), (0, x)] (wC h c) (fun r h2 => r = none ∧ ∃ c2, h2 = wC h c2 ∧ RS c2 s act n (k + 1) (0) o ∧ Eqk PS c c2) := by
  have e := n_must0 (d := d) hL hR hE hT hk hx
  rw [if_pos hg, if_pos hg] at e
  exact e
set_option maxHeartbeats 4000000 in
set_option maxRecDepth 100000 in
theorem n_wordS {h : Hp} {c : Nat → Nat → Int} {s g : Nat → Int} {act n k D : Nat} {l : List CLA} (hL : Lay h) (hE : Ends g n) (hact : act ≤ 4) (hR : RS c s act n k 0 0) (hT : TpR s g n) (hk : k ≤ n) (hCu : CuR s act l) (hl : (stepsC l).length ≤ k) (hg : g k = 115) : Ok (D + 22) 161 [(1, ((43 : Nat) : Int))] (wC h c) (ClQ h c s act n l (if g (k + 1) = 111 then (pMuch g 2 (pSpell g [111, 102, 116, 101, 110, 32] (k + 1))) else (pMuch g 3 (pSpell g [104, 97, 114, 112, 101, 110, 32] (k + 1))))) := by
  show Ex _ none t_X11_wordOfS 0 0 _ [] (wC h c) _
  have hn := hE.1
  have hr := hrV_or hE (k + 1)
  have hk1 := hE.lt (k := k) (by omega)
  obtain ⟨hM, hs, f5, f6, f7, f8, f9⟩ := hR
  refine E_load rfl rfl rfl ?_
  refine E_const rfl ?_
  refine E_V1 (q := 43) (c := 12) (y := 151) rfl rfl (hL.lt 43 rfl) (hL.k 43 rfl) rfl rfl rfl rfl (n_mustY (k := k) hL ⟨hM, hs, f5, f6, f7, f8, f9⟩ hE hT hk (by decide) hg) (fun r h2 hq => ?_)
  obtain ⟨rfl, c_1, hh, hQ_1, hE_1⟩ := hq
  subst hh
  obtain ⟨hM_1, hs_1, hf5_1, hf6_1, hf7_1, hf8_1, hf9_1⟩ := hQ_1
  refine E_load rfl rfl rfl ?_
  refine E_V0 (q := 43) (c := 12) (y := 150) rfl rfl (hL.lt 43 rfl) (hL.k 43 rfl) rfl rfl rfl rfl (n_here (k := (k + 1)) hL ⟨hM_1, hs_1, hf5_1, hf6_1, hf7_1, hf8_1, hf9_1⟩ hE hT (by omega)) (fun r h2 hq => ?_)
  obtain ⟨rfl, hh⟩ := hq
  subst hh
  refine E_const rfl ?_
  refine E_cmp1 rfl (by omega) (fun q1 => ?_) (fun q1 => ?_)
  · rw [if_neg (show ¬ g (k + 1) = 111 by omega)]
    refine E_load rfl rfl rfl ?_
    refine E_const rfl ?_
    refine E_str rfl ?_
    refine E_V2 (q := 43) (c := 12) (y := 159) rfl rfl (hL.lt 43 rfl) (hL.k 43 rfl) rfl rfl rfl rfl (n_much3 (k := k + 1) hL hE hact ⟨hM_1, hs_1, hf5_1, hf6_1, hf7_1, hf8_1, hf9_1⟩ hT (by omega) hCu (by omega)) (fun r h2 hq => ?_)
    obtain ⟨rfl, c_2, s_2, hh, hQ_2, hG_2, hS_2, hE_2⟩ := hq
    subst hh
    obtain ⟨hM_2, hs_2, hf5_2, hf6_2, hf7_2, hf8_2, hf9_2⟩ := hQ_2
    refine E_vret rfl ?_
    exact ⟨rfl, c_2, s_2, rfl, ⟨hM_2, hs_2, hf5_2, hf6_2, hf7_2, hf8_2, hf9_2⟩, hG_2, hS_2, (hE_1.trans hE_2)⟩
  · rw [if_pos (show g (k + 1) = 111 by omega)]
    refine E_load rfl rfl rfl ?_
    refine E_const rfl ?_
    refine E_str rfl ?_
    refine E_V2 (q := 43) (c := 12) (y := 159) rfl rfl (hL.lt 43 rfl) (hL.k 43 rfl) rfl rfl rfl rfl (n_much2 (k := k + 1) hL hE hact ⟨hM_1, hs_1, hf5_1, hf6_1, hf7_1, hf8_1, hf9_1⟩ hT (by omega) hCu (by omega)) (fun r h2 hq => ?_)
    obtain ⟨rfl, c_3, s_3, hh, hQ_3, hG_3, hS_3, hE_3⟩ := hq
    subst hh
    obtain ⟨hM_3, hs_3, hf5_3, hf6_3, hf7_3, hf8_3, hf9_3⟩ := hQ_3
    refine E_goto rfl ?_
    refine E_vret rfl ?_
    exact ⟨rfl, c_3, s_3, rfl, ⟨hM_3, hs_3, hf5_3, hf6_3, hf7_3, hf8_3, hf9_3⟩, hG_3, hS_3, (hE_1.trans hE_3)⟩
set_option maxHeartbeats 4000000 in
set_option maxRecDepth 100000 in
theorem n_clause {h : Hp} {c : Nat → Nat → Int} {s g : Nat → Int} {act n k D : Nat} {l : List CLA} (hL : Lay h) (hE : Ends g n) (hact : act ≤ 4) (hR : RS c s act n k 0 0) (hT : TpR s g n) (hk : k ≤ n) (hCu : CuR s act l) (hl : (stepsC l).length ≤ k) : Ok (D + 23) 162 [(1, ((43 : Nat) : Int))] (wC h c) (ClQ h c s act n l (pCla g k)) := by
  show Ex _ none t_X11_clauseHere 0 0 _ [] (wC h c) _
  have hn := hE.1
  have hr := hrV_or hE k
  obtain ⟨hM, hs, f5, f6, f7, f8, f9⟩ := hR
  refine E_load rfl rfl rfl ?_
  refine E_V0 (q := 43) (c := 12) (y := 150) rfl rfl (hL.lt 43 rfl) (hL.k 43 rfl) rfl rfl rfl rfl (n_here (k := k) hL ⟨hM, hs, f5, f6, f7, f8, f9⟩ hE hT (by omega)) (fun r h2 hq => ?_)
  obtain ⟨rfl, hh⟩ := hq
  subst hh
  rcases (show hrV g n k = 99 ∨ hrV g n k = 112 ∨ hrV g n k = 115 ∨ (hrV g n k ≠ 99 ∧ hrV g n k ≠ 112 ∧ hrV g n k ≠ 115) by omega) with e | e | e | e
  · have hg : g k = 99 := by omega
    rw [show pCla g k = pTell g 0 (pSpell g [99, 97, 108, 109, 32] k) from by
      unfold pCla
      rw [if_pos hg, show pSpell g [99, 97, 108, 109, 32] k = pSpell g [97, 108, 109, 32] (k + 1) from if_pos hg]]
    refine E_sw (t := 40) rfl (by omega) (by rw [e]; rfl) ?_
    refine E_load rfl rfl rfl ?_
    refine E_const rfl ?_
    refine E_str rfl ?_
    refine E_V2 (q := 43) (c := 12) (y := 160) rfl rfl (hL.lt 43 rfl) (hL.k 43 rfl) rfl rfl rfl rfl (n_tell0 (k := k) hL hE hact ⟨hM, hs, f5, f6, f7, f8, f9⟩ hT hk hCu hl) (fun r h2 hq => ?_)
    obtain ⟨rfl, c_1, s_1, hh, hQ_1, hG_1, hS_1, hE_1⟩ := hq
    subst hh
    obtain ⟨hM_1, hs_1, hf5_1, hf6_1, hf7_1, hf8_1, hf9_1⟩ := hQ_1
    refine E_goto rfl ?_
    refine E_vret rfl ?_
    exact ⟨rfl, c_1, s_1, rfl, ⟨hM_1, hs_1, hf5_1, hf6_1, hf7_1, hf8_1, hf9_1⟩, hG_1, hS_1, hE_1⟩
  · have hg : g k = 112 := by omega
    rw [show pCla g k = pTell g 1 (pSpell g [112, 101, 97, 99, 101, 32] k) from by
      unfold pCla
      rw [if_neg (by omega), if_pos hg, show pSpell g [112, 101, 97, 99, 101, 32] k = pSpell g [101, 97, 99, 101, 32] (k + 1) from if_pos hg]]
    refine E_sw (t := 52) rfl (by omega) (by rw [e]; rfl) ?_
    refine E_load rfl rfl rfl ?_
    refine E_const rfl ?_
    refine E_str rfl ?_
    refine E_V2 (q := 43) (c := 12) (y := 160) rfl rfl (hL.lt 43 rfl) (hL.k 43 rfl) rfl rfl rfl rfl (n_tell1 (k := k) hL hE hact ⟨hM, hs, f5, f6, f7, f8, f9⟩ hT hk hCu hl) (fun r h2 hq => ?_)
    obtain ⟨rfl, c_2, s_2, hh, hQ_2, hG_2, hS_2, hE_2⟩ := hq
    subst hh
    obtain ⟨hM_2, hs_2, hf5_2, hf6_2, hf7_2, hf8_2, hf9_2⟩ := hQ_2
    refine E_goto rfl ?_
    refine E_vret rfl ?_
    exact ⟨rfl, c_2, s_2, rfl, ⟨hM_2, hs_2, hf5_2, hf6_2, hf7_2, hf8_2, hf9_2⟩, hG_2, hS_2, hE_2⟩
  · have hg : g k = 115 := by omega
    rw [show pCla g k = if g (k + 1) = 111 then (pMuch g 2 (pSpell g [111, 102, 116, 101, 110, 32] (k + 1))) else (pMuch g 3 (pSpell g [104, 97, 114, 112, 101, 110, 32] (k + 1))) from by
      unfold pCla
      rw [if_neg (by omega), if_neg (by omega), if_pos hg]]
    refine E_sw (t := 64) rfl (by omega) (by rw [e]; rfl) ?_
    refine E_load rfl rfl rfl ?_
    refine E_V0 (q := 43) (c := 12) (y := 161) rfl rfl (hL.lt 43 rfl) (hL.k 43 rfl) rfl rfl rfl rfl (n_wordS (k := k) hL hE hact ⟨hM, hs, f5, f6, f7, f8, f9⟩ hT hk hCu hl (by omega)) (fun r h2 hq => ?_)
    obtain ⟨rfl, c_3, s_3, hh, hQ_3, hG_3, hS_3, hE_3⟩ := hq
    subst hh
    obtain ⟨hM_3, hs_3, hf5_3, hf6_3, hf7_3, hf8_3, hf9_3⟩ := hQ_3
    refine E_goto rfl ?_
    refine E_vret rfl ?_
    exact ⟨rfl, c_3, s_3, rfl, ⟨hM_3, hs_3, hf5_3, hf6_3, hf7_3, hf8_3, hf9_3⟩, hG_3, hS_3, hE_3⟩
  · refine E_sw (t := 71) rfl (by omega) (by simp only [List.lookup]; (repeat' split) <;> first | rfl | (exfalso; simp at *; omega)) ?_
    refine E_load rfl rfl rfl ?_
    refine E_const rfl ?_
    refine E_putzg (cl := 12) rfl (hL.lt 43 rfl) (hL.k 43 rfl) rfl (by decide) (fun c_4 hc_4 => ?_)
    have hE_4 : Eqk PS c c_4 := by rw [hc_4]; exact Eqk.up rfl
    have hM_4 : Mc c_4 := by rw [hc_4]; exact hM.up43 rfl
    have hs_4 : c_4 44 = s := by rw [hc_4]; exact (up2_oth rfl).trans hs
    have hf5_4 : c_4 43 5 = ((act : Nat) : Int) := by rw [hc_4]; exact (up2_fld rfl).trans f5
    have hf6_4 : c_4 43 6 = ((k : Nat) : Int) := by rw [hc_4]; exact (up2_fld rfl).trans f6
    have hf7_4 : c_4 43 7 = ((n : Nat) : Int) := by rw [hc_4]; exact (up2_fld rfl).trans f7
    have hf9_4 : c_4 43 9 = 0 := by rw [hc_4]; exact (up2_fld rfl).trans f9
    have hf8_4 : c_4 43 8 = 1 := by rw [hc_4]; exact up2_same
    refine E_vret rfl ?_
    rw [show pCla g k = (false, k, (0, 0, [])) from by
      unfold pCla
      rw [if_neg (by omega), if_neg (by omega), if_neg (by omega)]]
    exact ClQ.no ⟨hM_4, hs_4, hf5_4, hf6_4, hf7_4, hf8_4, hf9_4⟩ Rh.nil hE_4
