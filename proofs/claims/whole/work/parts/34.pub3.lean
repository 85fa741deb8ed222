theorem gB_zero {s : Nat → Int} : gB s 0 = s := by
  funext k
  exact gB_o (by omega)
theorem gGB {s : Nat → Int} {n : Nat} (h : n = (s 29).toNat) : gB s n = gG s 0 := by rw [gG_zero, h]
set_option maxHeartbeats 4000000 in
set_option maxRecDepth 100000 in
theorem n_pour {d : Nat} {h : Hp} {c : Nat → Nat → Int} {s : Nat → Int} (hL : Lay h) (hM : Mc c) (hs : c 44 = s) (hA : Inv s) {x : Int} (hx : inR x) {g : Int} (hg : inR g) : Ok (d + 6) 180 [(1, ((43 : Nat) : Int)), (0, x), (0, g)] (wC h c) (fun r h2 => r = some (0, (f_pour s x g).1) ∧ ∃ c2, h2 = wC h c2 ∧ c2 44 = (f_pour s x g).2 ∧ Eqk PS c c2) := by
  show Ex _ none t_X11_pour 0 0 _ [] (wC h c) _
  have hG := hA.G
  obtain ⟨hI, hH, ⟨⟨n29, n30, n31, n32, n33, n34, n36⟩, nM⟩, hX⟩ := hA
  refine E_load rfl rfl rfl ?_
  refine E_load rfl rfl rfl ?_
  refine E_V1 (q := 43) (c := 12) (y := 143) rfl rfl (hL.lt 43 rfl) (hL.k 43 rfl) rfl rfl rfl rfl (n_isBottle hL hM hs (by omega) (by omega)) (fun r h2 hq => ?_)
  obtain ⟨rfl, hh⟩ := hq
  subst hh
  refine E_if0 rfl (bI_R _) (fun q1 => ?_) (fun q1 => ?_)
  · replace q1 := bI_z q1
    refine E_const rfl ?_
    refine E_iret rfl (fun h => absurd h (by decide)) ?_
    refine mutl (s' := s) ?_ hs Eqk.nil
    unfold f_pour
    try simp only [Int.toNat_natCast]
    first | (rw [if_pos (by omega)]) | (rw [if_neg (by omega), if_pos (by omega)]) | (rw [if_neg (by omega), if_neg (by omega)])
  · replace q1 := bI_nz q1
    obtain ⟨b, rfl⟩ := Int.eq_ofNat_of_zero_le q1.1
    have iB := hI b (by omega)
    refine E_load rfl rfl rfl ?_
    refine E_load rfl rfl rfl ?_
    refine E_V1 (q := 43) (c := 12) (y := 144) rfl rfl (hL.lt 43 rfl) (hL.k 43 rfl) rfl rfl rfl rfl (n_isGuest hL hM hs (by omega) (by omega)) (fun r h2 hq => ?_)
    obtain ⟨rfl, hh⟩ := hq
    subst hh
    refine E_if1 rfl (bI_R _) (fun q2 => ?_) (fun q2 => ?_)
    · replace q2 := bI_nz q2
      obtain ⟨j, rfl⟩ := Int.eq_ofNat_of_zero_le q2.1
      refine E_load rfl rfl rfl ?_
      refine E_getr (c := 12) (r := 44) rfl (hL.lt 43 rfl) (hL.k 43 rfl) rfl hM.c1 ?_
      refine E_const rfl ?_
      refine E_load rfl rfl rfl ?_
      refine E_add rfl ?_
      refine E_ialn (n := 943) (v := (s ((19 + b)))) rfl (hL.lt 44 rfl) (hL.k 44 rfl) (hL.l 44 rfl) (by omega) (rdS hs (by omega)) ?_
      refine E_const rfl ?_
      refine E_cmp1 rfl (by omega) (fun q3 => ?_) (fun q3 => ?_)
      · have hj := q3
        refine E_load rfl rfl rfl ?_
        refine E_load rfl rfl rfl ?_
        refine E_load rfl rfl rfl ?_
        refine E_V2 (q := 43) (c := 12) (y := 179) rfl rfl (hL.lt 43 rfl) (hL.k 43 rfl) rfl rfl rfl rfl (n_pours hL hM hs hG (by omega) (by omega)) (fun r h2 hq => ?_)
        obtain ⟨rfl, c_1, hh, hs_1, hE0_1⟩ := hq
        subst hh
        have hE_1 : Eqk PS c c_1 := hE0_1.mono P44_PS
        have hM_1 : Mc c_1 := hM.of (hE0_1.row 43 (fun _ => rfl))
        refine E_load rfl rfl rfl ?_
        refine E_getr (c := 12) (r := 44) rfl (hL.lt 43 rfl) (hL.k 43 rfl) rfl hM_1.c1 ?_
        refine E_const rfl ?_
        refine E_load rfl rfl rfl ?_
        refine E_add rfl ?_
        refine E_ialn (n := 943) (v := ((poS s b j) ((25 + j)))) rfl (hL.lt 44 rfl) (hL.k 44 rfl) (hL.l 44 rfl) (by omega) (rdS hs_1 (by omega)) ?_
        refine E_iret rfl (fun h => absurd h (by decide)) ?_
        refine mutl (s' := poS s b j) ?_ hs_1 hE_1
        unfold f_pour
        try simp only [Int.toNat_natCast]
        first | (rw [if_pos (by omega)]) | (rw [if_neg (by omega), if_pos (by omega)]) | (rw [if_neg (by omega), if_neg (by omega)])
      · refine E_const rfl ?_
        refine E_iret rfl (fun h => absurd h (by decide)) ?_
        refine mutl (s' := s) ?_ hs Eqk.nil
        unfold f_pour
        try simp only [Int.toNat_natCast]
        first | (rw [if_pos (by omega)]) | (rw [if_neg (by omega), if_pos (by omega)]) | (rw [if_neg (by omega), if_neg (by omega)])
    · replace q2 := bI_z q2
      refine E_const rfl ?_
      refine E_iret rfl (fun h => absurd h (by decide)) ?_
      refine mutl (s' := s) ?_ hs Eqk.nil
      unfold f_pour
      try simp only [Int.toNat_natCast]
      first | (rw [if_pos (by omega)]) | (rw [if_neg (by omega), if_pos (by omega)]) | (rw [if_neg (by omega), if_neg (by omega)])
theorem l_goes2 {d : Nat} {h : Hp} {s : Nat → Int} (hL : Lay h) (hG : InvG s) : ∀ (n i : Nat), i + n = (s 36).toNat → ∀ c, Mc c → c 44 = gG s i → Ex (d + 2) none t_X11_goes 0 65 [(1, ((43 : Nat) : Int)), (0, (i : Int))] [] (wC h c) (fun r h2 => r = none ∧ ∃ c2, h2 = wC h c2 ∧ c2 44 = goS s ∧ Eqk P44 c c2) := by
  have hGG := hG
  obtain ⟨hI, hH, ⟨⟨n29, n30, n31, n32, n33, n34, n36⟩, nM⟩⟩ := hG
  intro n
  induction n with
  | zero =>
    intro i hi c hM hs
    refine E_load rfl rfl rfl ?_
    refine E_load rfl rfl rfl ?_
    refine E_getr (c := 12) (r := 44) rfl (hL.lt 43 rfl) (hL.k 43 rfl) rfl hM.c1 ?_
    refine E_const rfl ?_
    refine E_ialn (n := 943) (v := (s 36)) rfl (hL.lt 44 rfl) (hL.k 44 rfl) (hL.l 44 rfl) (by omega) ((rdS hs (by omega)).trans (gG_o n29.2 (by omega))) ?_
    refine E_cmp3 rfl (by omega) (fun q1 => ?_) (fun q1 => ?_)
    · refine E_load rfl rfl rfl ?_
      refine E_getr (c := 12) (r := 44) rfl (hL.lt 43 rfl) (hL.k 43 rfl) rfl hM.c1 ?_
      refine E_const rfl ?_
      refine E_dup2 rfl rfl rfl ?_
      refine E_ialn (n := 943) (v := (s 0)) rfl (hL.lt 44 rfl) (hL.k 44 rfl) (hL.l 44 rfl) (by omega) ((rdS hs (by omega)).trans (gG_o n29.2 (by omega))) ?_
      refine E_const rfl ?_
      refine E_add rfl ?_
      refine E_iasg (n := 943) (j := 0) rfl (hL.lt 44 rfl) (hL.k 44 rfl) (hL.l 44 rfl) (by omega) (by omega) (fun c_1 hc_1 => ?_)
      have hE_1 : Eqk P44 c c_1 := by rw [hc_1]; exact Eqk.up rfl
      have hM_1 : Mc c_1 := by rw [hc_1]; exact hM.upo rfl
      have hs_1 : c_1 44 = upd1 (gG s i) 0 ((s 0) + 1) := by rw [hc_1]; exact up2_rowS hs
      refine E_vret rfl ?_
      exact ⟨rfl, c_1, rfl, hs_1.trans (by rw [show i = (s 36).toNat by omega]; exact gG_end n29.2), hE_1⟩
    · exfalso; omega
  | succ n ih =>
    intro i hi c hM hs
    have hm := nM i (by omega)
    have hc := tl_calm hH
    have hH2 : InvH (gG s i) := hH.ofE fun k hk => gG_o n29.2 (by omega)
    have htl : tlI (gG s i) 228 0 = tlI s 228 0 := tlI_ofE (fun k hk => gG_o n29.2 (by omega)) hH (by omega)
    refine E_load rfl rfl rfl ?_
    refine E_load rfl rfl rfl ?_
    refine E_getr (c := 12) (r := 44) rfl (hL.lt 43 rfl) (hL.k 43 rfl) rfl hM.c1 ?_
    refine E_const rfl ?_
    refine E_ialn (n := 943) (v := (s 36)) rfl (hL.lt 44 rfl) (hL.k 44 rfl) (hL.l 44 rfl) (by omega) ((rdS hs (by omega)).trans (gG_o n29.2 (by omega))) ?_
    refine E_cmp3 rfl (by omega) (fun q1 => ?_) (fun q1 => ?_)
    · exfalso; omega
    · refine E_load rfl rfl rfl ?_
      refine E_getr (c := 12) (r := 44) rfl (hL.lt 43 rfl) (hL.k 43 rfl) rfl hM.c1 ?_
      refine E_const rfl ?_
      refine E_load rfl rfl rfl ?_
      refine E_add rfl ?_
      refine E_load rfl rfl rfl ?_
      refine E_getr (c := 12) (r := 44) rfl (hL.lt 43 rfl) (hL.k 43 rfl) rfl hM.c1 ?_
      refine E_const rfl ?_
      refine E_load rfl rfl rfl ?_
      refine E_add rfl ?_
      refine E_ialn (n := 943) (v := (s ((25 + i)))) rfl (hL.lt 44 rfl) (hL.k 44 rfl) (hL.l 44 rfl) (by omega) ((rdS hs (by omega)).trans (gG_o n29.2 (by omega))) ?_
      refine E_load rfl rfl rfl ?_
      refine E_const rfl ?_
      refine E_const rfl ?_
      refine E_V2 (q := 43) (c := 12) (y := 164) rfl rfl (hL.lt 43 rfl) (hL.k 43 rfl) rfl rfl rfl rfl (n_tellsOf hL hM hs (by omega) hH2) (fun r h2 hq => ?_)
      obtain ⟨rfl, hh⟩ := hq
      subst hh
      rw [htl]
      refine E_S2 (y := 142) rfl rfl rfl rfl rfl (m_nearer (by omega) (by omega) (by omega)) (fun r h2 hq => ?_)
      obtain ⟨rfl, hh⟩ := hq
      subst hh
      refine E_iasg (n := 943) (j := (25 + i)) rfl (hL.lt 44 rfl) (hL.k 44 rfl) (hL.l 44 rfl) (by omega) (by omega) (fun c_1 hc_1 => ?_)
      have hE_1 : Eqk P44 c c_1 := by rw [hc_1]; exact Eqk.up rfl
      have hM_1 : Mc c_1 := by rw [hc_1]; exact hM.upo rfl
      have hs_1 : c_1 44 = upd1 (gG s i) (25 + i) (nrI (s (25 + i)) (tlI s 228 0)) := by rw [hc_1]; exact up2_rowS hs
      refine E_iinc rfl rfl rfl ?_
      refine E_goto rfl ?_
      refine (ih (i + 1) (by omega) c_1 hM_1 (hs_1.trans (gG_succ rfl))).mono ?_
      rintro r hE ⟨e1, c9, e2, e4, e3⟩
      exact ⟨e1, c9, e2, e4, Eqk.trans hE_1 e3⟩
theorem l_goes1 {d : Nat} {h : Hp} {s : Nat → Int} (hL : Lay h) (hG : InvG s) : ∀ (n i : Nat), i + n = (s 29).toNat → ∀ c, Mc c → c 44 = gB s i → Ex (d + 2) none t_X11_goes 0 2 [(1, ((43 : Nat) : Int)), (0, (i : Int))] [] (wC h c) (fun r h2 => r = none ∧ ∃ c2, h2 = wC h c2 ∧ c2 44 = goS s ∧ Eqk P44 c c2) := by
  have hGG := hG
  obtain ⟨hI, hH, ⟨⟨n29, n30, n31, n32, n33, n34, n36⟩, nM⟩⟩ := hG
  intro n
  induction n with
  | zero =>
    intro i hi c hM hs
    refine E_load rfl rfl rfl ?_
    refine E_load rfl rfl rfl ?_
    refine E_getr (c := 12) (r := 44) rfl (hL.lt 43 rfl) (hL.k 43 rfl) rfl hM.c1 ?_
    refine E_const rfl ?_
    refine E_ialn (n := 943) (v := (s 29)) rfl (hL.lt 44 rfl) (hL.k 44 rfl) (hL.l 44 rfl) (by omega) ((rdS hs (by omega)).trans (gB_o (by omega))) ?_
    refine E_cmp3 rfl (by omega) (fun q1 => ?_) (fun q1 => ?_)
    · refine E_const rfl ?_
      refine E_store rfl rfl rfl ?_
      exact l_goes2 hL hGG _ 0 (Nat.zero_add _) c hM (hs.trans (gGB (by omega)))
    · exfalso; omega
  | succ n ih =>
    intro i hi c hM hs
    have iB := hI i (by omega)
    refine E_load rfl rfl rfl ?_
    refine E_load rfl rfl rfl ?_
    refine E_getr (c := 12) (r := 44) rfl (hL.lt 43 rfl) (hL.k 43 rfl) rfl hM.c1 ?_
    refine E_const rfl ?_
    refine E_ialn (n := 943) (v := (s 29)) rfl (hL.lt 44 rfl) (hL.k 44 rfl) (hL.l 44 rfl) (by omega) ((rdS hs (by omega)).trans (gB_o (by omega))) ?_
    refine E_cmp3 rfl (by omega) (fun q1 => ?_) (fun q1 => ?_)
    · exfalso; omega
    · refine E_load rfl rfl rfl ?_
      refine E_getr (c := 12) (r := 44) rfl (hL.lt 43 rfl) (hL.k 43 rfl) rfl hM.c1 ?_
      refine E_const rfl ?_
      refine E_load rfl rfl rfl ?_
      refine E_add rfl ?_
      refine E_dup2 rfl rfl rfl ?_
      refine E_ialn (n := 943) (v := (s ((7 + i)))) rfl (hL.lt 44 rfl) (hL.k 44 rfl) (hL.l 44 rfl) (by omega) ((rdS hs (by omega)).trans (gB_o (by omega))) ?_
      refine E_load rfl rfl rfl ?_
      refine E_getr (c := 12) (r := 44) rfl (hL.lt 43 rfl) (hL.k 43 rfl) rfl hM.c1 ?_
      refine E_const rfl ?_
      refine E_load rfl rfl rfl ?_
      refine E_add rfl ?_
      refine E_ialn (n := 943) (v := (s ((19 + i)))) rfl (hL.lt 44 rfl) (hL.k 44 rfl) (hL.l 44 rfl) (by omega) ((rdS hs (by omega)).trans (gB_o (by omega))) ?_
      refine E_if1 rfl (by omega) (fun q2 => ?_) (fun q2 => ?_)
      · refine E_const rfl ?_
        refine E_add rfl ?_
        refine E_iasg (n := 943) (j := (7 + i)) rfl (hL.lt 44 rfl) (hL.k 44 rfl) (hL.l 44 rfl) (by omega) (by omega) (fun c_1 hc_1 => ?_)
        have hE_1 : Eqk P44 c c_1 := by rw [hc_1]; exact Eqk.up rfl
        have hM_1 : Mc c_1 := by rw [hc_1]; exact hM.upo rfl
        have hs_1 : c_1 44 = upd1 (gB s i) (7 + i) ((s ((7 + i))) + 0) := by rw [hc_1]; exact up2_rowS hs
        refine E_iinc rfl rfl rfl ?_
        refine E_goto rfl ?_
        refine (ih (i + 1) (by omega) c_1 hM_1 (hs_1.trans (gB_succ ?_))).mono ?_
        · rw [show 12 + (7 + i) = 19 + i by omega]; (repeat' split) <;> omega
        rintro r hE ⟨e1, c9, e2, e4, e3⟩
        exact ⟨e1, c9, e2, e4, Eqk.trans hE_1 e3⟩
      · refine E_load rfl rfl rfl ?_
        refine E_getr (c := 12) (r := 44) rfl (hL.lt 43 rfl) (hL.k 43 rfl) rfl hM.c1 ?_
        refine E_const rfl ?_
        refine E_load rfl rfl rfl ?_
        refine E_add rfl ?_
        refine E_ialn (n := 943) (v := (s ((7 + i)))) rfl (hL.lt 44 rfl) (hL.k 44 rfl) (hL.l 44 rfl) (by omega) ((rdS hs (by omega)).trans (gB_o (by omega))) ?_
        refine E_const rfl ?_
        refine E_cmp3 rfl (by omega) (fun q3 => ?_) (fun q3 => ?_)
        · refine E_const rfl ?_
          refine E_add rfl ?_
          refine E_iasg (n := 943) (j := (7 + i)) rfl (hL.lt 44 rfl) (hL.k 44 rfl) (hL.l 44 rfl) (by omega) (by omega) (fun c_2 hc_2 => ?_)
          have hE_2 : Eqk P44 c c_2 := by rw [hc_2]; exact Eqk.up rfl
          have hM_2 : Mc c_2 := by rw [hc_2]; exact hM.upo rfl
          have hs_2 : c_2 44 = upd1 (gB s i) (7 + i) ((s ((7 + i))) + 0) := by rw [hc_2]; exact up2_rowS hs
          refine E_iinc rfl rfl rfl ?_
          refine E_goto rfl ?_
          refine (ih (i + 1) (by omega) c_2 hM_2 (hs_2.trans (gB_succ ?_))).mono ?_
          · rw [show 12 + (7 + i) = 19 + i by omega]; (repeat' split) <;> omega
          rintro r hE ⟨e1, c9, e2, e4, e3⟩
          exact ⟨e1, c9, e2, e4, Eqk.trans hE_2 e3⟩
        · refine E_const rfl ?_
          refine E_goto rfl ?_
          refine E_add rfl ?_
          refine E_iasg (n := 943) (j := (7 + i)) rfl (hL.lt 44 rfl) (hL.k 44 rfl) (hL.l 44 rfl) (by omega) (by omega) (fun c_3 hc_3 => ?_)
          have hE_3 : Eqk P44 c c_3 := by rw [hc_3]; exact Eqk.up rfl
          have hM_3 : Mc c_3 := by rw [hc_3]; exact hM.upo rfl
          have hs_3 : c_3 44 = upd1 (gB s i) (7 + i) ((s ((7 + i))) + 1) := by rw [hc_3]; exact up2_rowS hs
          refine E_iinc rfl rfl rfl ?_
          refine E_goto rfl ?_
          refine (ih (i + 1) (by omega) c_3 hM_3 (hs_3.trans (gB_succ ?_))).mono ?_
          · rw [show 12 + (7 + i) = 19 + i by omega]; (repeat' split) <;> omega
          rintro r hE ⟨e1, c9, e2, e4, e3⟩
          exact ⟨e1, c9, e2, e4, Eqk.trans hE_3 e3⟩
set_option maxHeartbeats 4000000 in
set_option maxRecDepth 100000 in
theorem n_goes {d : Nat} {h : Hp} {c : Nat → Nat → Int} {s : Nat → Int} (hL : Lay h) (hM : Mc c) (hs : c 44 = s) (hG : InvG s) : Ok (d + 2) 182 [(1, ((43 : Nat) : Int))] (wC h c) (fun r h2 => r = none ∧ ∃ c2, h2 = wC h c2 ∧ c2 44 = goS s ∧ Eqk P44 c c2) := by
  show Ex _ none t_X11_goes 0 0 _ [] (wC h c) _
  refine E_const rfl ?_
  refine E_store rfl rfl rfl ?_
  exact l_goes1 hL hG _ 0 (Nat.zero_add _) c hM (hs.trans gB_zero.symm)
set_option maxHeartbeats 4000000 in
set_option maxRecDepth 100000 in
theorem l_goesOn {d : Nat} {h : Hp} {s : Nat → Int} (hL : Lay h) (hG : InvG s) {m : Nat} (hm : m < 1000) : ∀ (n i : Nat), i + n = m → ∀ c, Mc c → c 44 = goN s i → Ex (d + 3) none t_X11_goesOn 0 2 [(1, ((43 : Nat) : Int)), (0, (m : Int)), (0, (i : Int))] [] (wC h c) (fun r h2 => r = none ∧ ∃ c2, h2 = wC h c2 ∧ c2 44 = goN s m ∧ Eqk P44 c c2) := by
  intro n
  induction n with
  | zero =>
    intro i hi   c hM hs 
    have hGi := hG.goN i
    refine E_load rfl rfl rfl ?_
    refine E_load rfl rfl rfl ?_
    refine E_cmp3 rfl (by omega) (fun q1 => ?_) (fun q1 => ?_)
    · refine E_vret rfl ?_
      exact ⟨rfl, c, rfl, hs.trans (by rw [show i = m by omega]), Eqk.nil⟩
    · exfalso; omega
  | succ n ih =>
    intro i hi   c hM hs 
    have hGi := hG.goN i
    refine E_load rfl rfl rfl ?_
    refine E_load rfl rfl rfl ?_
    refine E_cmp3 rfl (by omega) (fun q1 => ?_) (fun q1 => ?_)
    · exfalso; omega
    · refine E_load rfl rfl rfl ?_
      refine E_V0 (q := 43) (c := 12) (y := 182) rfl rfl (hL.lt 43 rfl) (hL.k 43 rfl) rfl rfl rfl rfl (n_goes hL hM hs hGi) (fun r h2 hq => ?_)
      obtain ⟨rfl, c_1, hh, hs_1, hE0_1⟩ := hq
      subst hh
      have hE_1 : Eqk P44 c c_1 := hE0_1
      have hM_1 : Mc c_1 := hM.of (hE0_1.row 43 (fun _ => rfl))
      refine E_iinc rfl rfl rfl ?_
      refine E_goto rfl ?_
      refine (ih (i + 1) (by omega) c_1 hM_1 hs_1).mono ?_
      rintro r hE ⟨e1, c9, e2, e4, e3⟩
      exact ⟨e1, c9, e2, e4, Eqk.trans hE_1 e3⟩
set_option maxHeartbeats 4000000 in
set_option maxRecDepth 100000 in
theorem n_goesOn {d : Nat} {h : Hp} {c : Nat → Nat → Int} {s : Nat → Int} (hL : Lay h) (hM : Mc c) (hs : c 44 = s) (hG : InvG s) {m : Nat} (hm : m < 1000) : Ok (d + 3) 183 [(1, ((43 : Nat) : Int)), (0, (m : Int))] (wC h c) (fun r h2 => r = none ∧ ∃ c2, h2 = wC h c2 ∧ c2 44 = goN s m ∧ Eqk P44 c c2) := by
  show Ex _ none t_X11_goesOn 0 0 _ [] (wC h c) _
  refine E_const rfl ?_
  refine E_store rfl rfl rfl ?_
  exact l_goesOn hL hG hm _ 0 (Nat.zero_add _) c hM hs
set_option maxHeartbeats 4000000 in
set_option maxRecDepth 100000 in
theorem n_pass {d : Nat} {h : Hp} {c : Nat → Nat → Int} {s : Nat → Int} (hL : Lay h) (hM : Mc c) (hs : c 44 = s) (hA : Inv s) {n : Int} (hn : inR n) : Ok (d + 6) 184 [(1, ((43 : Nat) : Int)), (0, n)] (wC h c) (fun r h2 => r = some (0, (f_pass s n).1) ∧ ∃ c2, h2 = wC h c2 ∧ c2 44 = (f_pass s n).2 ∧ Eqk PS c c2) := by
  show Ex _ none t_X11_pass 0 0 _ [] (wC h c) _
  have hG := hA.G
  obtain ⟨hI, hH, ⟨⟨n29, n30, n31, n32, n33, n34, n36⟩, nM⟩, hX⟩ := hA
  refine E_load rfl rfl rfl ?_
  refine E_const rfl ?_
  refine E_const rfl ?_
  refine E_S3 (y := 139) rfl rfl rfl rfl rfl (m_in (by omega) (by omega) (by omega)) (fun r h2 hq => ?_)
  obtain ⟨rfl, hh⟩ := hq
  subst hh
  refine E_if1 rfl (bI_R _) (fun q1 => ?_) (fun q1 => ?_)
  · replace q1 := bI_nz q1
    obtain ⟨m, rfl⟩ := Int.eq_ofNat_of_zero_le q1.1
    refine E_load rfl rfl rfl ?_
    refine E_getr (c := 12) (r := 44) rfl (hL.lt 43 rfl) (hL.k 43 rfl) rfl hM.c1 ?_
    refine E_const rfl ?_
    have hX0 := hX.1
    refine E_ialn (n := 943) (v := (s 0)) rfl (hL.lt 44 rfl) (hL.k 44 rfl) (hL.l 44 rfl) (by omega) (rdS hs (by omega)) ?_
    refine E_load rfl rfl rfl ?_
    refine E_add rfl ?_
    refine E_const rfl ?_
    refine E_cmp5 rfl (by omega) (fun q2 => ?_) (fun q2 => ?_)
    · refine E_load rfl rfl rfl ?_
      refine E_load rfl rfl rfl ?_
      refine E_V1 (q := 43) (c := 12) (y := 183) rfl rfl (hL.lt 43 rfl) (hL.k 43 rfl) rfl rfl rfl rfl (n_goesOn hL hM hs hG (by omega)) (fun r h2 hq => ?_)
      obtain ⟨rfl, c_1, hh, hs_1, hE0_1⟩ := hq
      subst hh
      have hE_1 : Eqk PS c c_1 := hE0_1.mono P44_PS
      have hM_1 : Mc c_1 := hM.of (hE0_1.row 43 (fun _ => rfl))
      refine E_load rfl rfl rfl ?_
      refine E_getr (c := 12) (r := 44) rfl (hL.lt 43 rfl) (hL.k 43 rfl) rfl hM_1.c1 ?_
      refine E_const rfl ?_
      refine E_ialn (n := 943) (v := ((goN s m) 0)) rfl (hL.lt 44 rfl) (hL.k 44 rfl) (hL.l 44 rfl) (by omega) (rdS hs_1 (by omega)) ?_
      refine E_iret rfl (fun h => absurd h (by decide)) ?_
      refine mutl (s' := goN s m) ?_ hs_1 hE_1
      unfold f_pass
      try simp only [Int.toNat_natCast]
      first | (rw [if_pos (by omega)]) | (rw [if_neg (by omega), if_pos (by omega)]) | (rw [if_neg (by omega), if_neg (by omega)])
    · refine E_const rfl ?_
      refine E_iret rfl (fun h => absurd h (by decide)) ?_
      refine mutl (s' := s) ?_ hs Eqk.nil
      unfold f_pass
      try simp only [Int.toNat_natCast]
      first | (rw [if_pos (by omega)]) | (rw [if_neg (by omega), if_pos (by omega)]) | (rw [if_neg (by omega), if_neg (by omega)])
  · replace q1 := bI_z q1
    refine E_const rfl ?_
    refine E_iret rfl (fun h => absurd h (by decide)) ?_
    refine mutl (s' := s) ?_ hs Eqk.nil
    unfold f_pass
    try simp only [Int.toNat_natCast]
    first | (rw [if_pos (by omega)]) | (rw [if_neg (by omega), if_pos (by omega)]) | (rw [if_neg (by omega), if_neg (by omega)])
