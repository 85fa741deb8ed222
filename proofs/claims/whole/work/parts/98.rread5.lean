set_option maxHeartbeats 4000000 in
set_option maxRecDepth 100000 in
theorem l_every {h : Hp} {g : Nat → Int} {act n D D2 : Nat} {o : Int} {it : Nat → PR} (hL : Lay h) (hE : Ends g n) (hact : act ≤ 4) (hW : ∀ k, k ≤ n → Wf n D2 k (it k)) (hI : ItOK h g act n (D + 1) 156 o it) : ∀ (f p : Nat) (l : List PRT) (s : Nat → Int) (L : List Int) (c : Nat → Nat → Int), n + 1 ≤ p + f → p ≤ n → L.length + l.length ≤ p → RS c s act n p 0 o → TpR s g n → StR s act (L ++ l.map encP) → Ex (D + 2) none t_X11_every 0 4 [(1, ((43 : Nat) : Int))] [] (wC h c) (RdQ h c s act n o L (pMore g it 38 ANDp f p l)) := by
  have hn := hE.1
  intro f
  induction f with
  | zero =>
    intro p l s L c hf hp hl hR hT hS
    exfalso; omega
  | succ f ih =>
    intro p l s L c hf hp hl hR hT hS
    obtain ⟨hM, hs, f5, f6, f7, f8, f9⟩ := hR
    have hr := hrV_or hE p
    have hlt := fun z => hE.lt (k := p) z
    refine E_load rfl rfl rfl ?_
    refine E_getf (c := 12) (v := (0, 0)) rfl (hL.lt 43 rfl) (hL.k 43 rfl) rfl (fv f8) ?_
    refine E_if1 rfl (by omega) (fun q1 => ?_) (fun q1 => ?_)
    · exfalso; omega
    · refine E_load rfl rfl rfl ?_
      refine E_V0 (q := 43) (c := 12) (y := 150) rfl rfl (hL.lt 43 rfl) (hL.k 43 rfl) rfl rfl rfl rfl (n_here (k := p) hL ⟨hM, hs, f5, f6, f7, f8, f9⟩ hE hT (by omega)) (fun r h2 hq => ?_)
      obtain ⟨rfl, hh⟩ := hq
      subst hh
      refine E_const rfl ?_
      refine E_cmp1 rfl (by omega) (fun q2 => ?_) (fun q2 => ?_)
      · refine E_vret rfl ?_
        rw [show pMore g it 38 ANDp (f + 1) p l = (true, p, l) from by rw [pMore, if_neg (by omega)]]
        exact RdQ.yes ⟨hM, hs, f5, f6, f7, f8, f9⟩ Rg.nil hS Eqk.nil
      · refine E_load rfl rfl rfl ?_
        refine E_dup rfl rfl ?_
        refine E_getf (c := 12) (v := (0, ((p : Nat) : Int))) rfl (hL.lt 43 rfl) (hL.k 43 rfl) rfl (fv f6) ?_
        refine E_const rfl ?_
        refine E_add rfl ?_
        refine E_putg (cl := 12) rfl (hL.lt 43 rfl) (hL.k 43 rfl) rfl (fun c_1 hc_1 => ?_)
        have hE_1 : Eqk PS c c_1 := by rw [hc_1]; exact Eqk.up rfl
        have hM_1 : Mc c_1 := by rw [hc_1]; exact hM.up43 rfl
        have hs_1 : c_1 44 = s := by rw [hc_1]; exact (up2_oth rfl).trans hs
        have hf5_1 : c_1 43 5 = ((act : Nat) : Int) := by rw [hc_1]; exact (up2_fld rfl).trans f5
        have hf7_1 : c_1 43 7 = ((n : Nat) : Int) := by rw [hc_1]; exact (up2_fld rfl).trans f7
        have hf8_1 : c_1 43 8 = 0 := by rw [hc_1]; exact (up2_fld rfl).trans f8
        have hf9_1 : c_1 43 9 = o := by rw [hc_1]; exact (up2_fld rfl).trans f9
        have hf6_1 : c_1 43 6 = (((p : Nat) : Int) + 1) := by rw [hc_1]; exact up2_same
        refine E_load rfl rfl rfl ?_
        refine E_V0 (q := 43) (c := 12) (y := 156) rfl rfl (hL.lt 43 rfl) (hL.k 43 rfl) rfl rfl rfl rfl (hI (p + 1) s (L ++ l.map encP) c_1 (hlt (by omega)) (by rw [List.length_append, List.length_map]; omega) ⟨hM_1, hs_1, hf5_1, hf6_1, hf7_1, hf8_1, hf9_1⟩ hT hS) (fun r h2 hq => ?_)
        obtain ⟨rfl, c_2, s_2, hh, hQ_2, hG_2, hS_2, hE_2⟩ := hq
        subst hh
        obtain ⟨hM_2, hs_2, hf5_2, hf6_2, hf7_2, hf8_2, hf9_2⟩ := hQ_2
        have hg : g p = 38 := by omega
        have hw := hW (p + 1) (hlt (by omega))
        rcases Bool.eq_false_or_eq_true ((it (p + 1)).1) with hb | hb
        · rw [if_pos hb] at hf8_2
          rw [show pMore g it 38 ANDp (f + 1) p l = pMore g it 38 ANDp f (it (p + 1)).2.1 (l ++ (it (p + 1)).2.2 ++ [ANDp]) from by rw [pMore, if_pos hg, if_pos hb]]
          have hw3 := hw.2 hb
          have hw4 := hw.1.2
          refine E_load rfl rfl rfl ?_
          refine E_const rfl ?_
          refine E_V1 (q := 43) (c := 12) (y := 155) rfl rfl (hL.lt 43 rfl) (hL.k 43 rfl) rfl rfl rfl rfl (n_emits (k := (it (p + 1)).2.1) hL ⟨hM_2, hs_2, hf5_2, hf6_2, hf7_2, hf8_2, hf9_2⟩ hact (hS_2 hb) (by rw [List.length_append, List.length_append, List.length_map, List.length_map]; omega)) (fun r h2 hq => ?_)
          obtain ⟨rfl, c_3, s_3, hh, hQ_3, hG_3, hS_3, hE_3⟩ := hq
          subst hh
          obtain ⟨hM_3, hs_3, hf5_3, hf6_3, hf7_3, hf8_3, hf9_3⟩ := hQ_3
          refine E_goto rfl ?_
          refine (ih (it (p + 1)).2.1 (l ++ (it (p + 1)).2.2 ++ [ANDp]) s_3 L c_3 (by omega) hw.1.2 ?_ ⟨hM_3, hs_3, hf5_3, hf6_3, hf7_3, hf8_3, hf9_3⟩ ((hT.rg hG_2 hn).rg hG_3 hn) ?_).mono fun r h2 k => RdQ.of (hG_2.trans hG_3) (hE_1.trans (hE_2.trans hE_3)) k
          · rw [List.length_append, List.length_append]
            show L.length + (l.length + (it (p + 1)).2.2.length + 1) ≤ (it (p + 1)).2.1
            omega
          · rw [List.map_append, List.map_append, ← List.append_assoc, ← List.append_assoc]
            exact hS_3
        · rw [if_neg (by rw [hb]; decide)] at hf8_2
          rw [show pMore g it 38 ANDp (f + 1) p l = (false, (it (p + 1)).2.1, []) from by rw [pMore, if_pos hg, if_neg (by rw [hb]; decide)]]
          refine E_load rfl rfl rfl ?_
          refine E_const rfl ?_
          refine E_V1 (q := 43) (c := 12) (y := 155) rfl rfl (hL.lt 43 rfl) (hL.k 43 rfl) rfl rfl rfl rfl (n_emitsW (k := (it (p + 1)).2.1) hL ⟨hM_2, hs_2, hf5_2, hf6_2, hf7_2, hf8_2, hf9_2⟩) (fun r h2 hq => ?_)
          obtain ⟨rfl, c_3, hh, hQ_3, hE_3⟩ := hq
          subst hh
          obtain ⟨hM_3, hs_3, hf5_3, hf6_3, hf7_3, hf8_3, hf9_3⟩ := hQ_3
          refine E_goto rfl ?_
          refine E_load rfl rfl rfl ?_
          refine E_getf (c := 12) (v := (0, 1)) rfl (hL.lt 43 rfl) (hL.k 43 rfl) rfl (fv hf8_3) ?_
          refine E_if1 rfl (by omega) (fun z1 => ?_) (fun z1 => ?_)
          · refine E_vret rfl ?_
            exact RdQ.no ⟨hM_3, hs_3, hf5_3, hf6_3, hf7_3, hf8_3, hf9_3⟩ hG_2 (hE_1.trans (hE_2.trans hE_3))
          · exfalso; omega
set_option maxHeartbeats 4000000 in
set_option maxRecDepth 100000 in
theorem n_every {h : Hp} {g : Nat → Int} {act n D D2 : Nat} {o : Int} {it : Nat → PR} (hL : Lay h) (hE : Ends g n) (hact : act ≤ 4) (hW : ∀ k, k ≤ n → Wf n D2 k (it k)) (hI : ItOK h g act n (D + 1) 156 o it) : ItOK h g act n (D + 2) 157 o (pSep g it 38 ANDp) := by
  intro k s L c hk hl hR hT hS
  have hn := hE.1
  show Ex _ none t_X11_every 0 0 _ [] (wC h c) _
  obtain ⟨hM, hs, f5, f6, f7, f8, f9⟩ := hR
  have hw := hW k hk
  refine E_load rfl rfl rfl ?_
  refine E_V0 (q := 43) (c := 12) (y := 156) rfl rfl (hL.lt 43 rfl) (hL.k 43 rfl) rfl rfl rfl rfl (hI k s L c hk hl ⟨hM, hs, f5, f6, f7, f8, f9⟩ hT hS) (fun r h2 hq => ?_)
  obtain ⟨rfl, c_1, s_1, hh, hQ_1, hG_1, hS_1, hE_1⟩ := hq
  subst hh
  obtain ⟨hM_1, hs_1, hf5_1, hf6_1, hf7_1, hf8_1, hf9_1⟩ := hQ_1
  rcases Bool.eq_false_or_eq_true ((it k).1) with hb | hb
  · rw [if_pos hb] at hf8_1
    rw [show pSep g it 38 ANDp k = pMore g it 38 ANDp 101 (it k).2.1 (it k).2.2 from if_pos hb]
    have hw3 := hw.2 hb
    exact (l_every hL hE hact hW hI 101 (it k).2.1 (it k).2.2 s_1 L c_1 (by omega) hw.1.2 (by omega) ⟨hM_1, hs_1, hf5_1, hf6_1, hf7_1, hf8_1, hf9_1⟩ (hT.rg hG_1 hn) (hS_1 hb)).mono fun r h2 k => RdQ.of hG_1 hE_1 k
  · rw [if_neg (by rw [hb]; decide)] at hf8_1
    rw [show pSep g it 38 ANDp k = (false, (it k).2.1, []) from if_neg (by rw [hb]; decide)]
    refine E_load rfl rfl rfl ?_
    refine E_getf (c := 12) (v := (0, 1)) rfl (hL.lt 43 rfl) (hL.k 43 rfl) rfl (fv hf8_1) ?_
    refine E_if1 rfl (by omega) (fun z1 => ?_) (fun z1 => ?_)
    · refine E_vret rfl ?_
      exact RdQ.no ⟨hM_1, hs_1, hf5_1, hf6_1, hf7_1, hf8_1, hf9_1⟩ hG_1 hE_1
    · exfalso; omega
set_option maxHeartbeats 4000000 in
set_option maxRecDepth 100000 in
theorem l_some {h : Hp} {g : Nat → Int} {act n D D2 : Nat} {o : Int} {it : Nat → PR} (hL : Lay h) (hE : Ends g n) (hact : act ≤ 4) (hW : ∀ k, k ≤ n → Wf n D2 k (it k)) (hI : ItOK h g act n (D + 1) 157 o it) : ∀ (f p : Nat) (l : List PRT) (s : Nat → Int) (L : List Int) (c : Nat → Nat → Int), n + 1 ≤ p + f → p ≤ n → L.length + l.length ≤ p → RS c s act n p 0 o → TpR s g n → StR s act (L ++ l.map encP) → Ex (D + 2) none t_X11_some 0 4 [(1, ((43 : Nat) : Int))] [] (wC h c) (RdQ h c s act n o L (pMore g it 124 ORp f p l)) := by
  have hn := hE.1
  intro f
  induction f with
  | zero =>
    intro p l s L c hf hp hl hR hT hS
    exfalso; omega
  | succ f ih =>
    intro p l s L c hf hp hl hR hT hS
    obtain ⟨hM, hs, f5, f6, f7, f8, f9⟩ := hR
    have hr := hrV_or hE p
    have hlt := fun z => hE.lt (k := p) z
    refine E_load rfl rfl rfl ?_
    refine E_getf (c := 12) (v := (0, 0)) rfl (hL.lt 43 rfl) (hL.k 43 rfl) rfl (fv f8) ?_
    refine E_if1 rfl (by omega) (fun q1 => ?_) (fun q1 => ?_)
    · exfalso; omega
    · refine E_load rfl rfl rfl ?_
      refine E_V0 (q := 43) (c := 12) (y := 150) rfl rfl (hL.lt 43 rfl) (hL.k 43 rfl) rfl rfl rfl rfl (n_here (k := p) hL ⟨hM, hs, f5, f6, f7, f8, f9⟩ hE hT (by omega)) (fun r h2 hq => ?_)
      obtain ⟨rfl, hh⟩ := hq
      subst hh
      refine E_const rfl ?_
      refine E_cmp1 rfl (by omega) (fun q2 => ?_) (fun q2 => ?_)
      · refine E_vret rfl ?_
        rw [show pMore g it 124 ORp (f + 1) p l = (true, p, l) from by rw [pMore, if_neg (by omega)]]
        exact RdQ.yes ⟨hM, hs, f5, f6, f7, f8, f9⟩ Rg.nil hS Eqk.nil
      · refine E_load rfl rfl rfl ?_
        refine E_dup rfl rfl ?_
        refine E_getf (c := 12) (v := (0, ((p : Nat) : Int))) rfl (hL.lt 43 rfl) (hL.k 43 rfl) rfl (fv f6) ?_
        refine E_const rfl ?_
        refine E_add rfl ?_
        refine E_putg (cl := 12) rfl (hL.lt 43 rfl) (hL.k 43 rfl) rfl (fun c_1 hc_1 => ?_)
        have hE_1 : Eqk PS c c_1 := by rw [hc_1]; exact Eqk.up rfl
        have hM_1 : Mc c_1 := by rw [hc_1]; exact hM.up43 rfl
        have hs_1 : c_1 44 = s := by rw [hc_1]; exact (up2_oth rfl).trans hs
        have hf5_1 : c_1 43 5 = ((act : Nat) : Int) := by rw [hc_1]; exact (up2_fld rfl).trans f5
        have hf7_1 : c_1 43 7 = ((n : Nat) : Int) := by rw [hc_1]; exact (up2_fld rfl).trans f7
        have hf8_1 : c_1 43 8 = 0 := by rw [hc_1]; exact (up2_fld rfl).trans f8
        have hf9_1 : c_1 43 9 = o := by rw [hc_1]; exact (up2_fld rfl).trans f9
        have hf6_1 : c_1 43 6 = (((p : Nat) : Int) + 1) := by rw [hc_1]; exact up2_same
        refine E_load rfl rfl rfl ?_
        refine E_V0 (q := 43) (c := 12) (y := 157) rfl rfl (hL.lt 43 rfl) (hL.k 43 rfl) rfl rfl rfl rfl (hI (p + 1) s (L ++ l.map encP) c_1 (hlt (by omega)) (by rw [List.length_append, List.length_map]; omega) ⟨hM_1, hs_1, hf5_1, hf6_1, hf7_1, hf8_1, hf9_1⟩ hT hS) (fun r h2 hq => ?_)
        obtain ⟨rfl, c_2, s_2, hh, hQ_2, hG_2, hS_2, hE_2⟩ := hq
        subst hh
        obtain ⟨hM_2, hs_2, hf5_2, hf6_2, hf7_2, hf8_2, hf9_2⟩ := hQ_2
        have hg : g p = 124 := by omega
        have hw := hW (p + 1) (hlt (by omega))
        rcases Bool.eq_false_or_eq_true ((it (p + 1)).1) with hb | hb
        · rw [if_pos hb] at hf8_2
          rw [show pMore g it 124 ORp (f + 1) p l = pMore g it 124 ORp f (it (p + 1)).2.1 (l ++ (it (p + 1)).2.2 ++ [ORp]) from by rw [pMore, if_pos hg, if_pos hb]]
          have hw3 := hw.2 hb
          have hw4 := hw.1.2
          refine E_load rfl rfl rfl ?_
          refine E_const rfl ?_
          refine E_V1 (q := 43) (c := 12) (y := 155) rfl rfl (hL.lt 43 rfl) (hL.k 43 rfl) rfl rfl rfl rfl (n_emits (k := (it (p + 1)).2.1) hL ⟨hM_2, hs_2, hf5_2, hf6_2, hf7_2, hf8_2, hf9_2⟩ hact (hS_2 hb) (by rw [List.length_append, List.length_append, List.length_map, List.length_map]; omega)) (fun r h2 hq => ?_)
          obtain ⟨rfl, c_3, s_3, hh, hQ_3, hG_3, hS_3, hE_3⟩ := hq
          subst hh
          obtain ⟨hM_3, hs_3, hf5_3, hf6_3, hf7_3, hf8_3, hf9_3⟩ := hQ_3
          refine E_goto rfl ?_
          refine (ih (it (p + 1)).2.1 (l ++ (it (p + 1)).2.2 ++ [ORp]) s_3 L c_3 (by omega) hw.1.2 ?_ ⟨hM_3, hs_3, hf5_3, hf6_3, hf7_3, hf8_3, hf9_3⟩ ((hT.rg hG_2 hn).rg hG_3 hn) ?_).mono fun r h2 k => RdQ.of (hG_2.trans hG_3) (hE_1.trans (hE_2.trans hE_3)) k
          · rw [List.length_append, List.length_append]
            show L.length + (l.length + (it (p + 1)).2.2.length + 1) ≤ (it (p + 1)).2.1
            omega
          · rw [List.map_append, List.map_append, ← List.append_assoc, ← List.append_assoc]
            exact hS_3
        · rw [if_neg (by rw [hb]; decide)] at hf8_2
          rw [show pMore g it 124 ORp (f + 1) p l = (false, (it (p + 1)).2.1, []) from by rw [pMore, if_pos hg, if_neg (by rw [hb]; decide)]]
          refine E_load rfl rfl rfl ?_
          refine E_const rfl ?_
          refine E_V1 (q := 43) (c := 12) (y := 155) rfl rfl (hL.lt 43 rfl) (hL.k 43 rfl) rfl rfl rfl rfl (n_emitsW (k := (it (p + 1)).2.1) hL ⟨hM_2, hs_2, hf5_2, hf6_2, hf7_2, hf8_2, hf9_2⟩) (fun r h2 hq => ?_)
          obtain ⟨rfl, c_3, hh, hQ_3, hE_3⟩ := hq
          subst hh
          obtain ⟨hM_3, hs_3, hf5_3, hf6_3, hf7_3, hf8_3, hf9_3⟩ := hQ_3
          refine E_goto rfl ?_
          refine E_load rfl rfl rfl ?_
          refine E_getf (c := 12) (v := (0, 1)) rfl (hL.lt 43 rfl) (hL.k 43 rfl) rfl (fv hf8_3) ?_
          refine E_if1 rfl (by omega) (fun z1 => ?_) (fun z1 => ?_)
          · refine E_vret rfl ?_
            exact RdQ.no ⟨hM_3, hs_3, hf5_3, hf6_3, hf7_3, hf8_3, hf9_3⟩ hG_2 (hE_1.trans (hE_2.trans hE_3))
          · exfalso; omega
set_option maxHeartbeats 4000000 in
set_option maxRecDepth 100000 in
theorem n_some {h : Hp} {g : Nat → Int} {act n D D2 : Nat} {o : Int} {it : Nat → PR} (hL : Lay h) (hE : Ends g n) (hact : act ≤ 4) (hW : ∀ k, k ≤ n → Wf n D2 k (it k)) (hI : ItOK h g act n (D + 1) 157 o it) : ItOK h g act n (D + 2) 158 o (pSep g it 124 ORp) := by
  intro k s L c hk hl hR hT hS
  have hn := hE.1
  show Ex _ none t_X11_some 0 0 _ [] (wC h c) _
  obtain ⟨hM, hs, f5, f6, f7, f8, f9⟩ := hR
  have hw := hW k hk
  refine E_load rfl rfl rfl ?_
  refine E_V0 (q := 43) (c := 12) (y := 157) rfl rfl (hL.lt 43 rfl) (hL.k 43 rfl) rfl rfl rfl rfl (hI k s L c hk hl ⟨hM, hs, f5, f6, f7, f8, f9⟩ hT hS) (fun r h2 hq => ?_)
  obtain ⟨rfl, c_1, s_1, hh, hQ_1, hG_1, hS_1, hE_1⟩ := hq
  subst hh
  obtain ⟨hM_1, hs_1, hf5_1, hf6_1, hf7_1, hf8_1, hf9_1⟩ := hQ_1
  rcases Bool.eq_false_or_eq_true ((it k).1) with hb | hb
  · rw [if_pos hb] at hf8_1
    rw [show pSep g it 124 ORp k = pMore g it 124 ORp 101 (it k).2.1 (it k).2.2 from if_pos hb]
    have hw3 := hw.2 hb
    exact (l_some hL hE hact hW hI 101 (it k).2.1 (it k).2.2 s_1 L c_1 (by omega) hw.1.2 (by omega) ⟨hM_1, hs_1, hf5_1, hf6_1, hf7_1, hf8_1, hf9_1⟩ (hT.rg hG_1 hn) (hS_1 hb)).mono fun r h2 k => RdQ.of hG_1 hE_1 k
  · rw [if_neg (by rw [hb]; decide)] at hf8_1
    rw [show pSep g it 124 ORp k = (false, (it k).2.1, []) from if_neg (by rw [hb]; decide)]
    refine E_load rfl rfl rfl ?_
    refine E_getf (c := 12) (v := (0, 1)) rfl (hL.lt 43 rfl) (hL.k 43 rfl) rfl (fv hf8_1) ?_
    refine E_if1 rfl (by omega) (fun z1 => ?_) (fun z1 => ?_)
    · refine E_vret rfl ?_
      exact RdQ.no ⟨hM_1, hs_1, hf5_1, hf6_1, hf7_1, hf8_1, hf9_1⟩ hG_1 hE_1
    · exfalso; omega
