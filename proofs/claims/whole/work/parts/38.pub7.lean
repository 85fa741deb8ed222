
set_option maxHeartbeats 4000000 in
set_option maxRecDepth 100000 in
theorem l_whose {d : Nat} {h : Hp} {s : Nat → Int} (hL : Lay h) (hG : InvG s) {m : Nat} {y : Int} (hy : inR y) {f46 : Nat → Int} (h46 : ∀ k, k < 29 → f46 k = s k) : ∀ (n i : Nat), i + n = (goN s m 29).toNat → ∀ (a : Int), a = orL (fun b => decide (syS (goN s m) b = y)) i → ∀ c, Mc c → c 44 = goN s m → c 46 = f46 → Ex (d + 6) none t_X11_whose 0 34 [(1, ((43 : Nat) : Int)), (0, y), (0, (m : Int)), (0, a), (0, (i : Int))] [] (wC h c) (fun r h2 => r = some (0, orL (fun b => decide (syS (goN s m) b = y)) (goN s m 29).toNat) ∧ ∃ c2, h2 = wC h c2 ∧ c2 44 = s ∧ Eqk PS c c2) := by
  intro n
  induction n with
  | zero =>
    intro i hi a ha c hM hs h46c
    have hGm := hG.goN m
    have n29 := hGm.2.2.1.1
    refine E_load rfl rfl rfl ?_
    refine E_load rfl rfl rfl ?_
    refine E_getr (c := 12) (r := 44) rfl (hL.lt 43 rfl) (hL.k 43 rfl) rfl hM.c1 ?_
    refine E_const rfl ?_
    refine E_ialn (n := 943) (v := ((goN s m) 29)) rfl (hL.lt 44 rfl) (hL.k 44 rfl) (hL.l 44 rfl) (by omega) (rdS hs (by omega)) ?_
    refine E_cmp3 rfl (by omega) (fun q1 => ?_) (fun q1 => ?_)
    · refine E_load rfl rfl rfl ?_
      refine E_V0 (q := 43) (c := 12) (y := 148) rfl rfl (hL.lt 43 rfl) (hL.k 43 rfl) rfl rfl rfl rfl (n_goesBack (s0 := s) hL hM hs (fun k hk => by rw [h46c]; exact h46 k hk) (fun k hk => goN_hi hG hk _)) (fun r h2 hq => ?_)
      obtain ⟨rfl, c_1, hh, hs_1, hE0_1⟩ := hq
      subst hh
      have hE_1 : Eqk PS c c_1 := hE0_1.mono P44_PS
      have hM_1 : Mc c_1 := hM.of (hE0_1.row 43 (fun _ => rfl))
      have hr46_1 : c_1 46 = f46 := (hE0_1.row 46 (fun _ => rfl)).trans h46c
      refine E_load rfl rfl rfl ?_
      refine E_iret rfl (fun h => absurd h (by decide)) ?_
      exact ⟨by rw [ha, show i = (goN s m 29).toNat by omega], c_1, rfl, hs_1, hE_1⟩
    · exfalso; omega
  | succ n ih =>
    intro i hi a ha c hM hs h46c
    have hGm := hG.goN m
    have n29 := hGm.2.2.1.1
    refine E_load rfl rfl rfl ?_
    refine E_load rfl rfl rfl ?_
    refine E_getr (c := 12) (r := 44) rfl (hL.lt 43 rfl) (hL.k 43 rfl) rfl hM.c1 ?_
    refine E_const rfl ?_
    refine E_ialn (n := 943) (v := ((goN s m) 29)) rfl (hL.lt 44 rfl) (hL.k 44 rfl) (hL.l 44 rfl) (by omega) (rdS hs (by omega)) ?_
    refine E_cmp3 rfl (by omega) (fun q1 => ?_) (fun q1 => ?_)
    · exfalso; omega
    · have hbs := hGm.bs (b := i) (by omega)
      refine E_load rfl rfl rfl ?_
      refine E_load rfl rfl rfl ?_
      refine E_load rfl rfl rfl ?_
      refine E_V1 (q := 43) (c := 12) (y := 167) rfl rfl (hL.lt 43 rfl) (hL.k 43 rfl) rfl rfl rfl rfl (n_saysOf hL hM hs (by omega) hGm.1 hGm.2.1) (fun r h2 hq => ?_)
      obtain ⟨rfl, c_1, hh, hE0_1⟩ := hq
      subst hh
      have hE_1 : Eqk PS c c_1 := hE0_1.mono P47_PS
      have hM_1 : Mc c_1 := hM.of (hE0_1.row 43 (fun _ => rfl))
      have hs_1 : c_1 44 = goN s m := (hE0_1.row 44 (fun _ => rfl)).trans hs
      have hr46_1 : c_1 46 = f46 := (hE0_1.row 46 (fun _ => rfl)).trans h46c
      refine E_load rfl rfl rfl ?_
      refine E_cmp1 rfl (by omega) (fun q2 => ?_) (fun q2 => ?_)
      · refine E_const rfl ?_
        refine E_bit (z := (mBit 6 a 0)) rfl rfl rfl ?_
        refine E_store rfl rfl rfl ?_
        refine E_iinc rfl rfl rfl ?_
        refine E_goto rfl ?_
        exact (ih (i + 1) (by omega) _ (by rw [ha]; exact orL_f (decide_eq_false (by omega))) c_1 hM_1 hs_1 hr46_1).mono fun r hE ⟨e1, c9, e2, e4, e3⟩ => ⟨e1, c9, e2, e4, Eqk.trans hE_1 e3⟩
      · refine E_const rfl ?_
        refine E_load rfl rfl rfl ?_
        refine E_bit (z := (mBit 8 1 ((i : Nat) : Int))) rfl rfl rfl ?_
        refine E_goto rfl ?_
        refine E_bit (z := (mBit 6 a (mBit 8 1 ((i : Nat) : Int)))) rfl rfl rfl ?_
        refine E_store rfl rfl rfl ?_
        refine E_iinc rfl rfl rfl ?_
        refine E_goto rfl ?_
        exact (ih (i + 1) (by omega) _ (by rw [ha]; exact orL_t (decide_eq_true (by omega))) c_1 hM_1 hs_1 hr46_1).mono fun r hE ⟨e1, c9, e2, e4, e3⟩ => ⟨e1, c9, e2, e4, Eqk.trans hE_1 e3⟩
set_option maxHeartbeats 4000000 in
set_option maxRecDepth 100000 in
theorem n_whose {d : Nat} {h : Hp} {c : Nat → Nat → Int} {s : Nat → Int} (hL : Lay h) (hM : Mc c) (hs : c 44 = s) (hA : Inv s) {y : Int} (hy : inR y) {n : Int} (hn : inR n) : Ok (d + 6) 204 [(1, ((43 : Nat) : Int)), (0, y), (0, n)] (wC h c) (fun r h2 => r = some (0, a_whose s y n) ∧ ∃ c2, h2 = wC h c2 ∧ Eqk PQ c c2) := by
  show Ex _ none t_X11_whose 0 0 _ [] (wC h c) _
  have hAA := hA
  have hG := hA.G
  obtain ⟨hI, hH, ⟨⟨n29, n30, n31, n32, n33, n34, n36⟩, nM⟩, hX⟩ := hA
  refine E_load rfl rfl rfl ?_
  refine E_S1 (y := 146) rfl rfl rfl rfl rfl (m_isSaying (by omega)) (fun r h2 hq => ?_)
  obtain ⟨rfl, hh⟩ := hq
  subst hh
  refine E_if0 rfl (bI_R _) (fun q1 => ?_) (fun q1 => ?_)
  · replace q1 := bI_z q1
    refine E_const rfl ?_
    refine E_iret rfl (fun h => absurd h (by decide)) ?_
    refine qryl ?_ (Eqk.PQ_of Eqk.nil (hs.trans hs.symm))
    unfold a_whose
    try simp only [Int.toNat_natCast]
    first | (exfalso; omega) | (rw [if_pos (by omega)]; done) | (rw [if_neg (by omega), if_pos (by omega)]; done) | (rw [if_neg (by omega)]; done) | (rw [if_neg (by omega), if_neg (by omega), if_pos (by omega)]; done) | (rw [if_neg (by omega), if_neg (by omega)]; done) | (rw [if_neg (by omega), if_neg (by omega), if_neg (by omega), if_pos (by omega)]; done) | (rw [if_neg (by omega), if_neg (by omega), if_neg (by omega)]; done) | (rw [if_neg (by omega), if_neg (by omega), if_neg (by omega), if_neg (by omega), if_pos (by omega)]; done) | (rw [if_neg (by omega), if_neg (by omega), if_neg (by omega), if_neg (by omega)]; done) | (rw [if_neg (by omega), if_neg (by omega), if_neg (by omega), if_neg (by omega), if_neg (by omega), if_pos (by omega)]; done) | (rw [if_neg (by omega), if_neg (by omega), if_neg (by omega), if_neg (by omega), if_neg (by omega)]; done) | (rw [if_neg (by omega), if_neg (by omega), if_neg (by omega), if_neg (by omega), if_neg (by omega), if_neg (by omega), if_pos (by omega)]; done) | (rw [if_neg (by omega), if_neg (by omega), if_neg (by omega), if_neg (by omega), if_neg (by omega), if_neg (by omega)]; done)
  · replace q1 := bI_nz q1
    refine E_load rfl rfl rfl ?_
    refine E_const rfl ?_
    refine E_const rfl ?_
    refine E_S3 (y := 139) rfl rfl rfl rfl rfl (m_in (by omega) (by omega) (by omega)) (fun r h2 hq => ?_)
    obtain ⟨rfl, hh⟩ := hq
    subst hh
    refine E_if1 rfl (bI_R _) (fun q2 => ?_) (fun q2 => ?_)
    · replace q2 := bI_nz q2
      obtain ⟨m, rfl⟩ := Int.eq_ofNat_of_zero_le q2.1
      refine E_load rfl rfl rfl ?_
      refine E_V0 (q := 43) (c := 12) (y := 147) rfl rfl (hL.lt 43 rfl) (hL.k 43 rfl) rfl rfl rfl rfl (n_keeps hL hM hs) (fun r h2 hq => ?_)
      obtain ⟨rfl, c_1, hh, h46_1, hE0_1⟩ := hq
      subst hh
      have hE_1 : Eqk PS c c_1 := hE0_1.mono P46_PS
      have hM_1 : Mc c_1 := hM.of (hE0_1.row 43 (fun _ => rfl))
      have hs_1 : c_1 44 = s := (hE0_1.row 44 (fun _ => rfl)).trans hs
      obtain ⟨f46, hr46_1⟩ : ∃ f, c_1 46 = f := ⟨_, rfl⟩
      have h46 : ∀ k, k < 29 → f46 k = s k := fun k hk => by rw [← hr46_1]; exact h46_1 k hk
      refine E_load rfl rfl rfl ?_
      refine E_load rfl rfl rfl ?_
      refine E_V1 (q := 43) (c := 12) (y := 183) rfl rfl (hL.lt 43 rfl) (hL.k 43 rfl) rfl rfl rfl rfl (n_goesOn hL hM_1 hs_1 hG (by omega)) (fun r h2 hq => ?_)
      obtain ⟨rfl, c_2, hh, hs_2, hE0_2⟩ := hq
      subst hh
      have hE_2 : Eqk PS c_1 c_2 := hE0_2.mono P44_PS
      have hM_2 : Mc c_2 := hM_1.of (hE0_2.row 43 (fun _ => rfl))
      have hr46_2 : c_2 46 = f46 := (hE0_2.row 46 (fun _ => rfl)).trans hr46_1
      refine E_const rfl ?_
      refine E_store rfl rfl rfl ?_
      refine E_const rfl ?_
      refine E_store rfl rfl rfl ?_
      refine (l_whose hL hG hy h46 _ 0 (Nat.zero_add _) 0 rfl c_2 hM_2 hs_2 hr46_2).mono ?_
      rintro r hE ⟨rfl, c9, rfl, e4, e3⟩
      refine qryl ?_ (Eqk.PQ_of (Eqk.trans (hE_1.trans hE_2) e3) (e4.trans hs.symm))
      unfold a_whose
      rw [if_neg (by omega), goN_hi hG (by omega)]
      rfl
    · replace q2 := bI_z q2
      refine E_const rfl ?_
      refine E_iret rfl (fun h => absurd h (by decide)) ?_
      refine qryl ?_ (Eqk.PQ_of Eqk.nil (hs.trans hs.symm))
      unfold a_whose
      try simp only [Int.toNat_natCast]
      first | (exfalso; omega) | (rw [if_pos (by omega)]; done) | (rw [if_neg (by omega), if_pos (by omega)]; done) | (rw [if_neg (by omega)]; done) | (rw [if_neg (by omega), if_neg (by omega), if_pos (by omega)]; done) | (rw [if_neg (by omega), if_neg (by omega)]; done) | (rw [if_neg (by omega), if_neg (by omega), if_neg (by omega), if_pos (by omega)]; done) | (rw [if_neg (by omega), if_neg (by omega), if_neg (by omega)]; done) | (rw [if_neg (by omega), if_neg (by omega), if_neg (by omega), if_neg (by omega), if_pos (by omega)]; done) | (rw [if_neg (by omega), if_neg (by omega), if_neg (by omega), if_neg (by omega)]; done) | (rw [if_neg (by omega), if_neg (by omega), if_neg (by omega), if_neg (by omega), if_neg (by omega), if_pos (by omega)]; done) | (rw [if_neg (by omega), if_neg (by omega), if_neg (by omega), if_neg (by omega), if_neg (by omega)]; done) | (rw [if_neg (by omega), if_neg (by omega), if_neg (by omega), if_neg (by omega), if_neg (by omega), if_neg (by omega), if_pos (by omega)]; done) | (rw [if_neg (by omega), if_neg (by omega), if_neg (by omega), if_neg (by omega), if_neg (by omega), if_neg (by omega)]; done)
set_option maxHeartbeats 4000000 in
set_option maxRecDepth 100000 in
theorem n_does {d : Nat} {h : Hp} {c : Nat → Nat → Int} {s : Nat → Int} (hL : Lay h) (hM : Mc c) (hs : c 44 = s) (hG : InvG s) {w x y : Int} (hw : 0 ≤ w ∧ w ≤ 3) (hx : w ≠ 0 → 0 ≤ x ∧ x < 6) (hy : w = 1 → 0 ≤ y ∧ y < 4) : Ok (d + 6) 209 [(1, ((43 : Nat) : Int)), (0, w), (0, x), (0, y)] (wC h c) (fun r h2 => r = none ∧ ∃ c2, h2 = wC h c2 ∧ c2 44 = doS s w x.toNat y.toNat ∧ Eqk P44 c c2) := by
  show Ex _ none t_X11_does 0 0 _ [] (wC h c) _
  refine E_load rfl rfl rfl ?_
  rcases (show w = 0 ∨ w = 1 ∨ w = 2 ∨ w = 3 by omega) with rfl | rfl | rfl | rfl
  · refine E_sw (t := 28) rfl (by omega) (rfl) ?_
    refine E_load rfl rfl rfl ?_
    refine E_V0 (q := 43) (c := 12) (y := 182) rfl rfl (hL.lt 43 rfl) (hL.k 43 rfl) rfl rfl rfl rfl (n_goes hL hM hs hG) (fun r h2 hq => ?_)
    obtain ⟨rfl, c_1, hh, hs_1, hE0_1⟩ := hq
    subst hh
    have hE_1 : Eqk P44 c c_1 := hE0_1
    have hM_1 : Mc c_1 := hM.of (hE0_1.row 43 (fun _ => rfl))
    refine E_goto rfl ?_
    refine E_vret rfl ?_
    exact ⟨rfl, c_1, rfl, hs_1.trans (by first | rfl | (show _ = if s (19 + b) = 0 then _ else _; first | (rw [if_neg (by assumption)] <;> rfl) | (rw [if_pos (by assumption)] <;> rfl))), hE_1⟩
  · obtain ⟨b, rfl⟩ := Int.eq_ofNat_of_zero_le (hx (by decide)).1
    have hb := (hx (by decide)).2
    obtain ⟨i1, i2, i3, i4, -⟩ := hG.1 b (by omega)
    obtain ⟨k, rfl⟩ := Int.eq_ofNat_of_zero_le (hy rfl).1
    have hk := (hy rfl).2
    refine E_sw (t := 35) rfl (by omega) (rfl) ?_
    refine E_load rfl rfl rfl ?_
    refine E_getr (c := 12) (r := 44) rfl (hL.lt 43 rfl) (hL.k 43 rfl) rfl hM.c1 ?_
    refine E_const rfl ?_
    refine E_load rfl rfl rfl ?_
    refine E_add rfl ?_
    refine E_ialn (n := 943) (v := (s ((19 + b)))) rfl (hL.lt 44 rfl) (hL.k 44 rfl) (hL.l 44 rfl) (by omega) (rdS hs (by omega)) ?_
    refine E_if1 rfl (by omega) (fun q1 => ?_) (fun q1 => ?_)
    · refine E_vret rfl ?_
      exact ⟨rfl, c, rfl, hs.trans (by first | rfl | (show _ = if s (19 + b) = 0 then _ else _; first | (rw [if_neg (by assumption)] <;> rfl) | (rw [if_pos (by assumption)] <;> rfl))), Eqk.nil⟩
    · refine E_load rfl rfl rfl ?_
      refine E_load rfl rfl rfl ?_
      refine E_load rfl rfl rfl ?_
      refine E_V2 (q := 43) (c := 12) (y := 179) rfl rfl (hL.lt 43 rfl) (hL.k 43 rfl) rfl rfl rfl rfl (n_pours hL hM hs hG (by omega) (by omega)) (fun r h2 hq => ?_)
      obtain ⟨rfl, c_2, hh, hs_2, hE0_2⟩ := hq
      subst hh
      have hE_2 : Eqk P44 c c_2 := hE0_2
      have hM_2 : Mc c_2 := hM.of (hE0_2.row 43 (fun _ => rfl))
      refine E_goto rfl ?_
      refine E_vret rfl ?_
      exact ⟨rfl, c_2, rfl, hs_2.trans (by first | rfl | (show _ = if s (19 + b) = 0 then _ else _; first | (rw [if_neg (by assumption)] <;> rfl) | (rw [if_pos (by assumption)] <;> rfl))), hE_2⟩
  · obtain ⟨b, rfl⟩ := Int.eq_ofNat_of_zero_le (hx (by decide)).1
    have hb := (hx (by decide)).2
    obtain ⟨i1, i2, i3, i4, -⟩ := hG.1 b (by omega)
    
    refine E_sw (t := 56) rfl (by omega) (rfl) ?_
    refine E_load rfl rfl rfl ?_
    refine E_getr (c := 12) (r := 44) rfl (hL.lt 43 rfl) (hL.k 43 rfl) rfl hM.c1 ?_
    refine E_const rfl ?_
    refine E_load rfl rfl rfl ?_
    refine E_add rfl ?_
    refine E_load rfl rfl rfl ?_
    refine E_getr (c := 12) (r := 44) rfl (hL.lt 43 rfl) (hL.k 43 rfl) rfl hM.c1 ?_
    refine E_const rfl ?_
    refine E_load rfl rfl rfl ?_
    refine E_add rfl ?_
    refine E_ialn (n := 943) (v := (s ((13 + b)))) rfl (hL.lt 44 rfl) (hL.k 44 rfl) (hL.l 44 rfl) (by omega) (rdS hs (by omega)) ?_
    refine E_const rfl ?_
    refine E_add rfl ?_
    refine E_const rfl ?_
    refine E_rem rfl (by omega) (by omega) (by omega) ?_
    refine E_iasg (n := 943) (j := (13 + b)) rfl (hL.lt 44 rfl) (hL.k 44 rfl) (hL.l 44 rfl) (by omega) (by omega) (fun c_3 hc_3 => ?_)
    have hE_3 : Eqk P44 c c_3 := by rw [hc_3]; exact Eqk.up rfl
    have hM_3 : Mc c_3 := by rw [hc_3]; exact hM.upo rfl
    have hs_3 : c_3 44 = upd1 s (13 + b) (((s ((13 + b))) + 1).tmod 4) := by rw [hc_3]; exact up2_rowS hs
    refine E_goto rfl ?_
    refine E_vret rfl ?_
    exact ⟨rfl, c_3, rfl, hs_3.trans (by first | rfl | (show _ = if s (19 + b) = 0 then _ else _; first | (rw [if_neg (by assumption)] <;> rfl) | (rw [if_pos (by assumption)] <;> rfl))), hE_3⟩
  · obtain ⟨b, rfl⟩ := Int.eq_ofNat_of_zero_le (hx (by decide)).1
    have hb := (hx (by decide)).2
    obtain ⟨i1, i2, i3, i4, -⟩ := hG.1 b (by omega)
    
    refine E_sw (t := 81) rfl (by omega) (rfl) ?_
    refine E_load rfl rfl rfl ?_
    refine E_getr (c := 12) (r := 44) rfl (hL.lt 43 rfl) (hL.k 43 rfl) rfl hM.c1 ?_
    refine E_const rfl ?_
    refine E_load rfl rfl rfl ?_
    refine E_add rfl ?_
    refine E_const rfl ?_
    refine E_iasg (n := 943) (j := (1 + b)) rfl (hL.lt 44 rfl) (hL.k 44 rfl) (hL.l 44 rfl) (by omega) (by omega) (fun c_4 hc_4 => ?_)
    have hE_4 : Eqk P44 c c_4 := by rw [hc_4]; exact Eqk.up rfl
    have hM_4 : Mc c_4 := by rw [hc_4]; exact hM.upo rfl
    have hs_4 : c_4 44 = upd1 s (1 + b) 0 := by rw [hc_4]; exact up2_rowS hs
    refine E_vret rfl ?_
    exact ⟨rfl, c_4, rfl, hs_4.trans (by first | rfl | (show _ = if s (19 + b) = 0 then _ else _; first | (rw [if_neg (by assumption)] <;> rfl) | (rw [if_pos (by assumption)] <;> rfl))), hE_4⟩
set_option maxHeartbeats 4000000 in
set_option maxRecDepth 100000 in
theorem l_done {d : Nat} {h : Hp} {s : Nat → Int} (hL : Lay h) (hA : Inv s) {w : Int} (hw : inR w) {f46 : Nat → Int} (h46 : ∀ k, k < 29 → f46 k = s k) : ∀ (n i : Nat), i + n = (s 32).toNat → ∀ c, Mc c → c 44 = dnN s i → c 46 = f46 → Ex (d + 9) none t_X11_done 0 19 [(1, ((43 : Nat) : Int)), (0, w), (0, (i : Int))] [] (wC h c) (fun r h2 => r = some (0, if w = 0 then amS (dnN s (s 32).toNat) else alS (dnN s (s 32).toNat)) ∧ ∃ c2, h2 = wC h c2 ∧ c2 44 = s ∧ Eqk PS c c2) := by
  intro n
  induction n with
  | zero =>
    intro i hi   c hM hs h46c
    obtain ⟨hGi, hhi⟩ := dn_inv hA i (by have := hA.2.2.1.1.2.2.2.1; omega)
    have n32 := hA.2.2.1.1.2.2.2.1
    have e32 := hhi 32 (by omega)
    have n36 := hA.2.2.1.1.2.2.2.2.2.2
    have n29 := hA.2.2.1.1.1
    refine E_load rfl rfl rfl ?_
    refine E_load rfl rfl rfl ?_
    refine E_getr (c := 12) (r := 44) rfl (hL.lt 43 rfl) (hL.k 43 rfl) rfl hM.c1 ?_
    refine E_const rfl ?_
    refine E_ialn (n := 943) (v := (s 32)) rfl (hL.lt 44 rfl) (hL.k 44 rfl) (hL.l 44 rfl) (by omega) ((rdS hs (by omega)).trans e32) ?_
    refine E_cmp3 rfl (by omega) (fun q1 => ?_) (fun q1 => ?_)
    · refine E_load rfl rfl rfl ?_
      refine E_if1 rfl (by omega) (fun q2 => ?_) (fun q2 => ?_)
      · refine E_load rfl rfl rfl ?_
        refine E_V0 (q := 43) (c := 12) (y := 175) rfl rfl (hL.lt 43 rfl) (hL.k 43 rfl) rfl rfl rfl rfl (n_allSay hL hM hs hGi) (fun r h2 hq => ?_)
        obtain ⟨rfl, c_1, hh, hE0_1⟩ := hq
        subst hh
        have hE_1 : Eqk PS c c_1 := hE0_1.mono P47_PS
        have hM_1 : Mc c_1 := hM.of (hE0_1.row 43 (fun _ => rfl))
        have hs_1 : c_1 44 = dnN s i := (hE0_1.row 44 (fun _ => rfl)).trans hs
        have hr46_1 : c_1 46 = f46 := (hE0_1.row 46 (fun _ => rfl)).trans h46c
        refine E_store rfl rfl rfl ?_
        refine E_load rfl rfl rfl ?_
        refine E_V0 (q := 43) (c := 12) (y := 148) rfl rfl (hL.lt 43 rfl) (hL.k 43 rfl) rfl rfl rfl rfl (n_goesBack (s0 := s) hL hM_1 hs_1 (fun k hk => by rw [hr46_1]; exact h46 k hk) (fun k hk => hhi k hk)) (fun r h2 hq => ?_)
        obtain ⟨rfl, c_2, hh, hs_2, hE0_2⟩ := hq
        subst hh
        have hE_2 : Eqk PS c_1 c_2 := hE0_2.mono P44_PS
        have hM_2 : Mc c_2 := hM_1.of (hE0_2.row 43 (fun _ => rfl))
        have hr46_2 : c_2 46 = f46 := (hE0_2.row 46 (fun _ => rfl)).trans hr46_1
        refine E_load rfl rfl rfl ?_
        refine E_iret rfl (fun h => absurd h (by decide)) ?_
        exact ⟨by rw [if_neg (by omega), show i = (s 32).toNat by omega], c_2, rfl, hs_2, (hE_1.trans hE_2)⟩
      · refine E_load rfl rfl rfl ?_
        refine E_V0 (q := 43) (c := 12) (y := 176) rfl rfl (hL.lt 43 rfl) (hL.k 43 rfl) rfl rfl rfl rfl (n_allMoods hL hM hs hGi) (fun r h2 hq => ?_)
        obtain ⟨rfl, hh⟩ := hq
        subst hh
        refine E_goto rfl ?_
        refine E_store rfl rfl rfl ?_
        refine E_load rfl rfl rfl ?_
        refine E_V0 (q := 43) (c := 12) (y := 148) rfl rfl (hL.lt 43 rfl) (hL.k 43 rfl) rfl rfl rfl rfl (n_goesBack (s0 := s) hL hM hs (fun k hk => by rw [h46c]; exact h46 k hk) (fun k hk => hhi k hk)) (fun r h2 hq => ?_)
        obtain ⟨rfl, c_3, hh, hs_3, hE0_3⟩ := hq
        subst hh
        have hE_3 : Eqk PS c c_3 := hE0_3.mono P44_PS
        have hM_3 : Mc c_3 := hM.of (hE0_3.row 43 (fun _ => rfl))
        have hr46_3 : c_3 46 = f46 := (hE0_3.row 46 (fun _ => rfl)).trans h46c
        refine E_load rfl rfl rfl ?_
        refine E_iret rfl (fun h => absurd h (by decide)) ?_
        exact ⟨by rw [if_pos (by omega), show i = (s 32).toNat by omega], c_3, rfl, hs_3, hE_3⟩
    · exfalso; omega
  | succ n ih =>
    intro i hi   c hM hs h46c
    obtain ⟨hGi, hhi⟩ := dn_inv hA i (by have := hA.2.2.1.1.2.2.2.1; omega)
    have n32 := hA.2.2.1.1.2.2.2.1
    have e32 := hhi 32 (by omega)
    have n36 := hA.2.2.1.1.2.2.2.2.2.2
    have n29 := hA.2.2.1.1.1
    refine E_load rfl rfl rfl ?_
    refine E_load rfl rfl rfl ?_
    refine E_getr (c := 12) (r := 44) rfl (hL.lt 43 rfl) (hL.k 43 rfl) rfl hM.c1 ?_
    refine E_const rfl ?_
    refine E_ialn (n := 943) (v := (s 32)) rfl (hL.lt 44 rfl) (hL.k 44 rfl) (hL.l 44 rfl) (by omega) ((rdS hs (by omega)).trans e32) ?_
    refine E_cmp3 rfl (by omega) (fun q1 => ?_) (fun q1 => ?_)
    · exfalso; omega
    · obtain ⟨x1, x2, x3, x4⟩ := hA.2.2.2.2.2.2.2.1 i (by omega)
      refine E_load rfl rfl rfl ?_
      refine E_load rfl rfl rfl ?_
      refine E_getr (c := 12) (r := 44) rfl (hL.lt 43 rfl) (hL.k 43 rfl) rfl hM.c1 ?_
      refine E_const rfl ?_
      refine E_load rfl rfl rfl ?_
      refine E_add rfl ?_
      refine E_ialn (n := 943) (v := (s (88 + i))) rfl (hL.lt 44 rfl) (hL.k 44 rfl) (hL.l 44 rfl) (by omega) ((rdS hs (by omega)).trans (hhi _ (by omega))) ?_
      refine E_load rfl rfl rfl ?_
      refine E_getr (c := 12) (r := 44) rfl (hL.lt 43 rfl) (hL.k 43 rfl) rfl hM.c1 ?_
      refine E_const rfl ?_
      refine E_load rfl rfl rfl ?_
      refine E_add rfl ?_
      refine E_ialn (n := 943) (v := (s (96 + i))) rfl (hL.lt 44 rfl) (hL.k 44 rfl) (hL.l 44 rfl) (by omega) ((rdS hs (by omega)).trans (hhi _ (by omega))) ?_
      refine E_load rfl rfl rfl ?_
      refine E_getr (c := 12) (r := 44) rfl (hL.lt 43 rfl) (hL.k 43 rfl) rfl hM.c1 ?_
      refine E_const rfl ?_
      refine E_load rfl rfl rfl ?_
      refine E_add rfl ?_
      refine E_ialn (n := 943) (v := (s (104 + i))) rfl (hL.lt 44 rfl) (hL.k 44 rfl) (hL.l 44 rfl) (by omega) ((rdS hs (by omega)).trans (hhi _ (by omega))) ?_
      refine E_V3 (q := 43) (c := 12) (y := 209) rfl rfl (hL.lt 43 rfl) (hL.k 43 rfl) rfl rfl rfl rfl (n_does hL hM hs hGi (by omega) (fun q => by have := x2 q; omega) (fun q => by have := x3 q; omega)) (fun r h2 hq => ?_)
      obtain ⟨rfl, c_1, hh, hs_1, hE0_1⟩ := hq
      subst hh
      have hE_1 : Eqk PS c c_1 := hE0_1.mono P44_PS
      have hM_1 : Mc c_1 := hM.of (hE0_1.row 43 (fun _ => rfl))
      have hr46_1 : c_1 46 = f46 := (hE0_1.row 46 (fun _ => rfl)).trans h46c
      refine E_iinc rfl rfl rfl ?_
      refine E_goto rfl ?_
      refine (ih (i + 1) (by omega) c_1 hM_1 hs_1 hr46_1).mono ?_
      rintro r hE ⟨e1, c9, e2, e4, e3⟩
      exact ⟨e1, c9, e2, e4, Eqk.trans hE_1 e3⟩
set_option maxHeartbeats 4000000 in
set_option maxRecDepth 100000 in
theorem n_done {d : Nat} {h : Hp} {c : Nat → Nat → Int} {s : Nat → Int} (hL : Lay h) (hM : Mc c) (hs : c 44 = s) (hA : Inv s) {w : Int} (hw : inR w) : Ok (d + 9) 210 [(1, ((43 : Nat) : Int)), (0, w)] (wC h c) (fun r h2 => r = some (0, a_done s w) ∧ ∃ c2, h2 = wC h c2 ∧ Eqk PQ c c2) := by
  show Ex _ none t_X11_done 0 0 _ [] (wC h c) _
  have hAA := hA
  have hG := hA.G
  obtain ⟨hI, hH, ⟨⟨n29, n30, n31, n32, n33, n34, n36⟩, nM⟩, hX⟩ := hA
  refine E_load rfl rfl rfl ?_
  refine E_const rfl ?_
  refine E_const rfl ?_
  refine E_S3 (y := 139) rfl rfl rfl rfl rfl (m_in (by omega) (by omega) (by omega)) (fun r h2 hq => ?_)
  obtain ⟨rfl, hh⟩ := hq
  subst hh
  refine E_if1 rfl (bI_R _) (fun q1 => ?_) (fun q1 => ?_)
  · replace q1 := bI_nz q1
    refine E_load rfl rfl rfl ?_
    refine E_V0 (q := 43) (c := 12) (y := 147) rfl rfl (hL.lt 43 rfl) (hL.k 43 rfl) rfl rfl rfl rfl (n_keeps hL hM hs) (fun r h2 hq => ?_)
    obtain ⟨rfl, c_1, hh, h46_1, hE0_1⟩ := hq
    subst hh
    have hE_1 : Eqk PS c c_1 := hE0_1.mono P46_PS
    have hM_1 : Mc c_1 := hM.of (hE0_1.row 43 (fun _ => rfl))
    have hs_1 : c_1 44 = s := (hE0_1.row 44 (fun _ => rfl)).trans hs
    obtain ⟨f46, hr46_1⟩ : ∃ f, c_1 46 = f := ⟨_, rfl⟩
    have h46 : ∀ k, k < 29 → f46 k = s k := fun k hk => by rw [← hr46_1]; exact h46_1 k hk
    refine E_const rfl ?_
    refine E_store rfl rfl rfl ?_
    refine (l_done hL hAA hw h46 _ 0 (Nat.zero_add _) c_1 hM_1 hs_1 hr46_1).mono ?_
    rintro r hE ⟨rfl, c9, rfl, e4, e3⟩
    refine qryl ?_ (Eqk.PQ_of (Eqk.trans hE_1 e3) (e4.trans hs.symm))
    unfold a_done
    rw [if_neg (by omega)]
  · replace q1 := bI_z q1
    refine E_const rfl ?_
    refine E_iret rfl (fun h => absurd h (by decide)) ?_
    refine qryl ?_ (Eqk.PQ_of Eqk.nil (hs.trans hs.symm))
    unfold a_done
    try simp only [Int.toNat_natCast]
    first | (exfalso; omega) | (rw [if_pos (by omega)]; done) | (rw [if_neg (by omega), if_pos (by omega)]; done) | (rw [if_neg (by omega)]; done) | (rw [if_neg (by omega), if_neg (by omega), if_pos (by omega)]; done) | (rw [if_neg (by omega), if_neg (by omega)]; done) | (rw [if_neg (by omega), if_neg (by omega), if_neg (by omega), if_pos (by omega)]; done) | (rw [if_neg (by omega), if_neg (by omega), if_neg (by omega)]; done) | (rw [if_neg (by omega), if_neg (by omega), if_neg (by omega), if_neg (by omega), if_pos (by omega)]; done) | (rw [if_neg (by omega), if_neg (by omega), if_neg (by omega), if_neg (by omega)]; done) | (rw [if_neg (by omega), if_neg (by omega), if_neg (by omega), if_neg (by omega), if_neg (by omega), if_pos (by omega)]; done) | (rw [if_neg (by omega), if_neg (by omega), if_neg (by omega), if_neg (by omega), if_neg (by omega)]; done) | (rw [if_neg (by omega), if_neg (by omega), if_neg (by omega), if_neg (by omega), if_neg (by omega), if_neg (by omega), if_pos (by omega)]; done) | (rw [if_neg (by omega), if_neg (by omega), if_neg (by omega), if_neg (by omega), if_neg (by omega), if_neg (by omega)]; done)
set_option maxHeartbeats 4000000 in
set_option maxRecDepth 100000 in
theorem l_looked {d : Nat} {h : Hp} {s : Nat → Int} (hL : Lay h) (hA : Inv s) : ∀ (n i : Nat), i + n = (s 33).toNat → ∀ c, Mc c → c 44 = s → Ex (d + 6) none t_X11_looked 0 2 [(1, ((43 : Nat) : Int)), (0, (i : Int))] [] (wC h c) (fun r h2 => r = some (0, lkF s i n) ∧ ∃ c2, h2 = wC h c2 ∧ Eqk P47 c c2) := by
  intro n
  induction n with
  | zero =>
    intro i hi   c hM hs 
    have hG := hA.G
    obtain ⟨hI, hH, ⟨⟨n29, n30, n31, n32, n33, n34, n36⟩, nM⟩, hX⟩ := hA
    refine E_load rfl rfl rfl ?_
    refine E_load rfl rfl rfl ?_
    refine E_getr (c := 12) (r := 44) rfl (hL.lt 43 rfl) (hL.k 43 rfl) rfl hM.c1 ?_
    refine E_const rfl ?_
    refine E_ialn (n := 943) (v := (s 33)) rfl (hL.lt 44 rfl) (hL.k 44 rfl) (hL.l 44 rfl) (by omega) (rdS hs (by omega)) ?_
    refine E_cmp3 rfl (by omega) (fun q1 => ?_) (fun q1 => ?_)
    · refine E_const rfl ?_
      refine E_iret rfl (fun h => absurd h (by decide)) ?_
      exact ⟨rfl, c, rfl, Eqk.nil⟩
    · exfalso; omega
  | succ n ih =>
    intro i hi   c hM hs 
    have hG := hA.G
    obtain ⟨hI, hH, ⟨⟨n29, n30, n31, n32, n33, n34, n36⟩, nM⟩, hX⟩ := hA
    refine E_load rfl rfl rfl ?_
    refine E_load rfl rfl rfl ?_
    refine E_getr (c := 12) (r := 44) rfl (hL.lt 43 rfl) (hL.k 43 rfl) rfl hM.c1 ?_
    refine E_const rfl ?_
    refine E_ialn (n := 943) (v := (s 33)) rfl (hL.lt 44 rfl) (hL.k 44 rfl) (hL.l 44 rfl) (by omega) (rdS hs (by omega)) ?_
    refine E_cmp3 rfl (by omega) (fun q1 => ?_) (fun q1 => ?_)
    · exfalso; omega
    · obtain ⟨x1, x2⟩ := hX.2.2.2.2.2 i (by omega)
      obtain ⟨b, hb⟩ := Int.eq_ofNat_of_zero_le x1.1
      have hy := hG.bs (b := b) (by omega)
      have hbn : (s (112 + i)).toNat = b := by omega
      refine E_load rfl rfl rfl ?_
      refine E_load rfl rfl rfl ?_
      refine E_getr (c := 12) (r := 44) rfl (hL.lt 43 rfl) (hL.k 43 rfl) rfl hM.c1 ?_
      refine E_const rfl ?_
      refine E_load rfl rfl rfl ?_
      refine E_add rfl ?_
      refine E_ialn (n := 943) (v := ((b : Nat) : Int)) rfl (hL.lt 44 rfl) (hL.k 44 rfl) (hL.l 44 rfl) (by omega) ((rdS hs (by omega)).trans hb) ?_
      refine E_V1 (q := 43) (c := 12) (y := 167) rfl rfl (hL.lt 43 rfl) (hL.k 43 rfl) rfl rfl rfl rfl (n_saysOf hL hM hs (by omega) hI hH) (fun r h2 hq => ?_)
      obtain ⟨rfl, c_1, hh, hE0_1⟩ := hq
      subst hh
      have hE_1 : Eqk P47 c c_1 := hE0_1
      have hM_1 : Mc c_1 := hM.of (hE0_1.row 43 (fun _ => rfl))
      have hs_1 : c_1 44 = s := (hE0_1.row 44 (fun _ => rfl)).trans hs
      refine E_load rfl rfl rfl ?_
      refine E_getr (c := 12) (r := 44) rfl (hL.lt 43 rfl) (hL.k 43 rfl) rfl hM_1.c1 ?_
      refine E_const rfl ?_
      refine E_load rfl rfl rfl ?_
      refine E_add rfl ?_
      refine E_ialn (n := 943) (v := (s ((120 + i)))) rfl (hL.lt 44 rfl) (hL.k 44 rfl) (hL.l 44 rfl) (by omega) (rdS hs_1 (by omega)) ?_
      refine E_cmp0 rfl (by omega) (fun q2 => ?_) (fun q2 => ?_)
      · refine E_iinc rfl rfl rfl ?_
        refine E_goto rfl ?_
        refine (ih (i + 1) (by omega) c_1 hM_1 hs_1).mono ?_
        rintro r hE ⟨e1, c9, e2, e3⟩
        exact ⟨by rw [e1, lkF, if_neg (by rw [hbn]; omega)], c9, e2, Eqk.trans hE_1 e3⟩
      · refine E_load rfl rfl rfl ?_
        refine E_iret rfl (fun h => absurd h (by decide)) ?_
        exact ⟨by rw [lkF, if_pos (by rw [hbn]; omega)], c_1, rfl, hE_1⟩
set_option maxHeartbeats 4000000 in
set_option maxRecDepth 100000 in
theorem n_looked {d : Nat} {h : Hp} {c : Nat → Nat → Int} {s : Nat → Int} (hL : Lay h) (hM : Mc c) (hs : c 44 = s) (hA : Inv s) : Ok (d + 6) 212 [(1, ((43 : Nat) : Int))] (wC h c) (fun r h2 => r = some (0, a_looked s) ∧ ∃ c2, h2 = wC h c2 ∧ Eqk PQ c c2) := by
  show Ex _ none t_X11_looked 0 0 _ [] (wC h c) _
  refine E_const rfl ?_
  refine E_store rfl rfl rfl ?_
  refine (l_looked hL hA _ 0 (Nat.zero_add _) c hM hs).mono ?_
  rintro r hE ⟨rfl, c9, rfl, e3⟩
  exact qryl rfl (e3.mono P47_PQ)
