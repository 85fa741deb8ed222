set_option maxHeartbeats 4000000 in
set_option maxRecDepth 100000 in
theorem e_ripe {d : Nat} {h : Hp} {s : Nat → Int} (hL : Lay h) (hG : InvG s) {b i : Nat} (hi : i ≤ 70) {f46 : Nat → Int} (h46 : ∀ k, k < 29 → f46 k = s k) {x : Int} (hx : 0 ≤ x ∧ x ≤ 60) {c : Nat → Nat → Int} (hM : Mc c) (hs : c 44 = goN s i) (h46c : c 46 = f46) : Ex (d + 6) none t_X11_ripe 0 19 [(1, ((43 : Nat) : Int)), (0, (b : Int)), (0, x), (0, (i : Int))] [] (wC h c) (fun r h2 => r = some (0, x) ∧ ∃ c2, h2 = wC h c2 ∧ c2 44 = s ∧ Eqk PS c c2) := by
  refine E_load rfl rfl rfl ?_
  refine E_const rfl ?_
  refine E_cmp4 rfl (by omega) (fun q1 => ?_) (fun q1 => ?_)
  · refine E_load rfl rfl rfl ?_
    refine E_V0 (q := 43) (c := 12) (y := 148) rfl rfl (hL.lt 43 rfl) (hL.k 43 rfl) rfl rfl rfl rfl (n_goesBack (s0 := s) hL hM hs (fun k hk => by rw [h46c]; exact h46 k hk) (fun k hk => goN_hi hG hk _)) (fun r h2 hq => ?_)
    obtain ⟨rfl, c_1, hh, hs_1, hE0_1⟩ := hq
    subst hh
    have hE_1 : Eqk PS c c_1 := hE0_1.mono P44_PS
    have hM_1 : Mc c_1 := hM.of (hE0_1.row 43 (fun _ => rfl))
    have hr46_1 : c_1 46 = f46 := (hE0_1.row 46 (fun _ => rfl)).trans h46c
    refine E_load rfl rfl rfl ?_
    refine E_iret rfl (fun h => absurd h (by decide)) ?_
    exact ⟨rfl, c_1, rfl, hs_1, hE_1⟩
  · refine E_load rfl rfl rfl ?_
    refine E_const rfl ?_
    refine E_cmp1 rfl (by omega) (fun q2 => ?_) (fun q2 => ?_)
    · refine E_load rfl rfl rfl ?_
      refine E_V0 (q := 43) (c := 12) (y := 148) rfl rfl (hL.lt 43 rfl) (hL.k 43 rfl) rfl rfl rfl rfl (n_goesBack (s0 := s) hL hM hs (fun k hk => by rw [h46c]; exact h46 k hk) (fun k hk => goN_hi hG hk _)) (fun r h2 hq => ?_)
      obtain ⟨rfl, c_2, hh, hs_2, hE0_2⟩ := hq
      subst hh
      have hE_2 : Eqk PS c c_2 := hE0_2.mono P44_PS
      have hM_2 : Mc c_2 := hM.of (hE0_2.row 43 (fun _ => rfl))
      have hr46_2 : c_2 46 = f46 := (hE0_2.row 46 (fun _ => rfl)).trans h46c
      refine E_load rfl rfl rfl ?_
      refine E_iret rfl (fun h => absurd h (by decide)) ?_
      exact ⟨rfl, c_2, rfl, hs_2, hE_2⟩
    · exfalso; omega
set_option maxHeartbeats 4000000 in
set_option maxRecDepth 100000 in
theorem l_ripe {d : Nat} {h : Hp} {s : Nat → Int} (hL : Lay h) (hG : InvG s) {b : Nat} (hb : b < 6) {f46 : Nat → Int} (h46 : ∀ k, k < 29 → f46 k = s k) : ∀ (n i : Nat), i + n = 61 → ∀ c, Mc c → c 44 = goN s i → c 46 = f46 → Ex (d + 6) none t_X11_ripe 0 19 [(1, ((43 : Nat) : Int)), (0, (b : Int)), (0, -5), (0, (i : Int))] [] (wC h c) (fun r h2 => r = some (0, rpF s b i n) ∧ ∃ c2, h2 = wC h c2 ∧ c2 44 = s ∧ Eqk PS c c2) := by
  intro n
  induction n with
  | zero =>
    intro i hi   c hM hs h46c
    have hGi := hG.goN i
    have hbs := hGi.bs hb
    refine E_load rfl rfl rfl ?_
    refine E_const rfl ?_
    refine E_cmp4 rfl (by omega) (fun q1 => ?_) (fun q1 => ?_)
    · refine E_load rfl rfl rfl ?_
      refine E_V0 (q := 43) (c := 12) (y := 148) rfl rfl (hL.lt 43 rfl) (hL.k 43 rfl) rfl rfl rfl rfl (n_goesBack (s0 := s) hL hM hs (fun k hk => by rw [h46c]; exact h46 k hk) (fun k hk => goN_hi hG hk _)) (fun r h2 hq => ?_)
      obtain ⟨rfl, c_1, hh, hs_1, hE0_1⟩ := hq
      subst hh
      have hE_1 : Eqk PS c c_1 := hE0_1.mono P44_PS
      have hM_1 : Mc c_1 := hM.of (hE0_1.row 43 (fun _ => rfl))
      have hr46_1 : c_1 46 = f46 := (hE0_1.row 46 (fun _ => rfl)).trans h46c
      refine E_load rfl rfl rfl ?_
      refine E_iret rfl (fun h => absurd h (by decide)) ?_
      exact ⟨rfl, c_1, rfl, hs_1, hE_1⟩
    · exfalso; omega
  | succ n ih =>
    intro i hi   c hM hs h46c
    have hGi := hG.goN i
    have hbs := hGi.bs hb
    refine E_load rfl rfl rfl ?_
    refine E_const rfl ?_
    refine E_cmp4 rfl (by omega) (fun q1 => ?_) (fun q1 => ?_)
    · exfalso; omega
    · refine E_load rfl rfl rfl ?_
      refine E_const rfl ?_
      refine E_cmp1 rfl (by omega) (fun q2 => ?_) (fun q2 => ?_)
      · exfalso; omega
      · refine E_load rfl rfl rfl ?_
        refine E_load rfl rfl rfl ?_
        refine E_V1 (q := 43) (c := 12) (y := 167) rfl rfl (hL.lt 43 rfl) (hL.k 43 rfl) rfl rfl rfl rfl (n_saysOf hL hM hs hb hGi.1 hGi.2.1) (fun r h2 hq => ?_)
        obtain ⟨rfl, c_1, hh, hE0_1⟩ := hq
        subst hh
        have hE_1 : Eqk PS c c_1 := hE0_1.mono P47_PS
        have hM_1 : Mc c_1 := hM.of (hE0_1.row 43 (fun _ => rfl))
        have hs_1 : c_1 44 = goN s i := (hE0_1.row 44 (fun _ => rfl)).trans hs
        have hr46_1 : c_1 46 = f46 := (hE0_1.row 46 (fun _ => rfl)).trans h46c
        refine E_if2 rfl (by omega) (fun q3 => ?_) (fun q3 => ?_)
        · refine E_const rfl ?_
          refine E_store rfl rfl rfl ?_
          refine E_load rfl rfl rfl ?_
          refine E_V0 (q := 43) (c := 12) (y := 182) rfl rfl (hL.lt 43 rfl) (hL.k 43 rfl) rfl rfl rfl rfl (n_goes hL hM_1 hs_1 hGi) (fun r h2 hq => ?_)
          obtain ⟨rfl, c_2, hh, hs_2, hE0_2⟩ := hq
          subst hh
          have hE_2 : Eqk PS c_1 c_2 := hE0_2.mono P44_PS
          have hM_2 : Mc c_2 := hM_1.of (hE0_2.row 43 (fun _ => rfl))
          have hr46_2 : c_2 46 = f46 := (hE0_2.row 46 (fun _ => rfl)).trans hr46_1
          refine E_iinc rfl rfl rfl ?_
          refine E_goto rfl ?_
          refine (ih (i + 1) (by omega) c_2 hM_2 hs_2 hr46_2).mono ?_
          rintro r hE ⟨e1, c9, e2, e4, e3⟩
          exact ⟨by rw [e1, rpF, if_neg (by omega)], c9, e2, e4, Eqk.trans (hE_1.trans hE_2) e3⟩
        · refine E_load rfl rfl rfl ?_
          refine E_goto rfl ?_
          refine E_store rfl rfl rfl ?_
          refine E_load rfl rfl rfl ?_
          refine E_V0 (q := 43) (c := 12) (y := 182) rfl rfl (hL.lt 43 rfl) (hL.k 43 rfl) rfl rfl rfl rfl (n_goes hL hM_1 hs_1 hGi) (fun r h2 hq => ?_)
          obtain ⟨rfl, c_3, hh, hs_3, hE0_3⟩ := hq
          subst hh
          have hE_3 : Eqk PS c_1 c_3 := hE0_3.mono P44_PS
          have hM_3 : Mc c_3 := hM_1.of (hE0_3.row 43 (fun _ => rfl))
          have hr46_3 : c_3 46 = f46 := (hE0_3.row 46 (fun _ => rfl)).trans hr46_1
          refine E_iinc rfl rfl rfl ?_
          refine E_goto rfl ?_
          refine (e_ripe (i := i + 1) hL hG (by omega) h46 (x := i) (by omega) hM_3 hs_3 hr46_3).mono ?_
          rintro r hE ⟨e1, c9, e2, e4, e3⟩
          exact ⟨by rw [e1, rpF, if_pos (by omega)], c9, e2, e4, Eqk.trans (hE_1.trans hE_3) e3⟩
set_option maxHeartbeats 4000000 in
set_option maxRecDepth 100000 in
theorem n_ripe {d : Nat} {h : Hp} {c : Nat → Nat → Int} {s : Nat → Int} (hL : Lay h) (hM : Mc c) (hs : c 44 = s) (hA : Inv s) {x : Int} (hx : inR x) : Ok (d + 6) 187 [(1, ((43 : Nat) : Int)), (0, x)] (wC h c) (fun r h2 => r = some (0, a_ripe s x) ∧ ∃ c2, h2 = wC h c2 ∧ Eqk PQ c c2) := by
  show Ex _ none t_X11_ripe 0 0 _ [] (wC h c) _
  have hG := hA.G
  obtain ⟨hI, hH, ⟨⟨n29, n30, n31, n32, n33, n34, n36⟩, nM⟩, hX⟩ := hA
  refine E_load rfl rfl rfl ?_
  refine E_load rfl rfl rfl ?_
  refine E_V1 (q := 43) (c := 12) (y := 143) rfl rfl (hL.lt 43 rfl) (hL.k 43 rfl) rfl rfl rfl rfl (n_isBottle hL hM hs (by omega) (by omega)) (fun r h2 hq => ?_)
  obtain ⟨rfl, hh⟩ := hq
  subst hh
  refine E_if1 rfl (bI_R _) (fun q1 => ?_) (fun q1 => ?_)
  · replace q1 := bI_nz q1
    obtain ⟨b, rfl⟩ := Int.eq_ofNat_of_zero_le q1.1
    have iB := hI b (by omega)
    refine E_load rfl rfl rfl ?_
    refine E_V0 (q := 43) (c := 12) (y := 147) rfl rfl (hL.lt 43 rfl) (hL.k 43 rfl) rfl rfl rfl rfl (n_keeps hL hM hs) (fun r h2 hq => ?_)
    obtain ⟨rfl, c_1, hh, h46_1, hE0_1⟩ := hq
    subst hh
    have hE_1 : Eqk PS c c_1 := hE0_1.mono P46_PS
    have hM_1 : Mc c_1 := hM.of (hE0_1.row 43 (fun _ => rfl))
    have hs_1 : c_1 44 = s := (hE0_1.row 44 (fun _ => rfl)).trans hs
    obtain ⟨f46, hr46_1⟩ : ∃ f, c_1 46 = f := ⟨_, rfl⟩
    have h46 : ∀ k, k < 29 → f46 k = s k := fun k hk => by rw [← hr46_1]; exact h46_1 k hk
    refine E_const rfl ?_
    refine E_store rfl rfl rfl ?_
    refine E_const rfl ?_
    refine E_store rfl rfl rfl ?_
    refine (l_ripe hL hG (by omega) h46 61 0 rfl c_1 hM_1 hs_1 hr46_1).mono ?_
    rintro r hE ⟨rfl, c9, rfl, e4, e3⟩
    refine qryl ?_ (Eqk.PQ_of (Eqk.trans hE_1 e3) (e4.trans hs.symm))
    unfold a_ripe
    try simp only [Int.toNat_natCast]
    rw [if_neg (by omega)]
  · replace q1 := bI_z q1
    refine E_const rfl ?_
    refine E_iret rfl (fun h => absurd h (by decide)) ?_
    refine qryl ?_ (Eqk.PQ_of Eqk.nil (hs.trans hs.symm))
    unfold a_ripe
    try simp only [Int.toNat_natCast]
    first | (exfalso; omega) | (rw [if_pos (by omega)]; done) | (rw [if_neg (by omega), if_pos (by omega)]; done) | (rw [if_neg (by omega)]; done) | (rw [if_neg (by omega), if_neg (by omega), if_pos (by omega)]; done) | (rw [if_neg (by omega), if_neg (by omega)]; done) | (rw [if_neg (by omega), if_neg (by omega), if_neg (by omega), if_pos (by omega)]; done) | (rw [if_neg (by omega), if_neg (by omega), if_neg (by omega)]; done) | (rw [if_neg (by omega), if_neg (by omega), if_neg (by omega), if_neg (by omega), if_pos (by omega)]; done) | (rw [if_neg (by omega), if_neg (by omega), if_neg (by omega), if_neg (by omega)]; done) | (rw [if_neg (by omega), if_neg (by omega), if_neg (by omega), if_neg (by omega), if_neg (by omega), if_pos (by omega)]; done) | (rw [if_neg (by omega), if_neg (by omega), if_neg (by omega), if_neg (by omega), if_neg (by omega)]; done) | (rw [if_neg (by omega), if_neg (by omega), if_neg (by omega), if_neg (by omega), if_neg (by omega), if_neg (by omega), if_pos (by omega)]; done) | (rw [if_neg (by omega), if_neg (by omega), if_neg (by omega), if_neg (by omega), if_neg (by omega), if_neg (by omega)]; done)
set_option maxHeartbeats 4000000 in
set_option maxRecDepth 100000 in
theorem l_lies {d : Nat} {h : Hp} {s : Nat → Int} (hL : Lay h) (hG : InvG s) {b : Nat} (hb : b < 6) : ∀ (n i : Nat), i + n = 4 → ∀ (a1 a2 : Int) (v6 : AV) (t : Nat → Int), ((a1, a2) = liL s b i ∧ (∀ y : Int, upd1 t (13 + b) y = upd1 s (13 + b) y)) → ∀ c, Mc c → c 44 = t → Ex (d + 6) none t_X11_lies 0 29 [(1, ((43 : Nat) : Int)), (0, (b : Int)), (0, s (13 + b)), (0, a1), (0, a2), (0, (i : Int)), v6] [] (wC h c) (fun r h2 => r = some (0, (liL s b 4).1) ∧ ∃ c2, h2 = wC h c2 ∧ c2 44 = s ∧ Eqk PS c c2) := by
  intro n
  induction n with
  | zero =>
    intro i hi a1 a2 v6 t ha c hM hs 
    have hin := liL_in hG hb i (by omega)
    rw [← ha.1] at hin
    simp only at hin
    refine E_load rfl rfl rfl ?_
    refine E_const rfl ?_
    refine E_cmp3 rfl (by omega) (fun q1 => ?_) (fun q1 => ?_)
    · refine E_load rfl rfl rfl ?_
      refine E_getr (c := 12) (r := 44) rfl (hL.lt 43 rfl) (hL.k 43 rfl) rfl hM.c1 ?_
      refine E_const rfl ?_
      refine E_load rfl rfl rfl ?_
      refine E_add rfl ?_
      refine E_load rfl rfl rfl ?_
      refine E_iasg (n := 943) (j := (13 + b)) rfl (hL.lt 44 rfl) (hL.k 44 rfl) (hL.l 44 rfl) (by omega) (by omega) (fun c_1 hc_1 => ?_)
      have hE_1 : Eqk PS c c_1 := by rw [hc_1]; exact Eqk.up rfl
      have hM_1 : Mc c_1 := by rw [hc_1]; exact hM.upo rfl
      have hs_1 : c_1 44 = upd1 t (13 + b) (s ((13 + b))) := by rw [hc_1]; exact up2_rowS hs
      replace hs_1 : c_1 44 = s := hs_1.trans ((ha.2 _).trans upd1_self)
      refine E_load rfl rfl rfl ?_
      refine E_iret rfl (fun h => absurd h (by decide)) ?_
      exact ⟨by have e := ha.1; rw [show i = 4 by omega] at e; exact congrArg (fun z : Int × Int => some (((0 : Nat), z.1) : AV)) e, c_1, rfl, hs_1, hE_1⟩
    · exfalso; omega
  | succ n ih =>
    intro i hi a1 a2 v6 t ha c hM hs 
    have hin := liL_in hG hb i (by omega)
    rw [← ha.1] at hin
    simp only at hin
    refine E_load rfl rfl rfl ?_
    refine E_const rfl ?_
    refine E_cmp3 rfl (by omega) (fun q1 => ?_) (fun q1 => ?_)
    · exfalso; omega
    · refine E_load rfl rfl rfl ?_
      refine E_getr (c := 12) (r := 44) rfl (hL.lt 43 rfl) (hL.k 43 rfl) rfl hM.c1 ?_
      refine E_const rfl ?_
      refine E_load rfl rfl rfl ?_
      refine E_add rfl ?_
      refine E_load rfl rfl rfl ?_
      refine E_iasg (n := 943) (j := (13 + b)) rfl (hL.lt 44 rfl) (hL.k 44 rfl) (hL.l 44 rfl) (by omega) (by omega) (fun c_1 hc_1 => ?_)
      have hE_1 : Eqk PS c c_1 := by rw [hc_1]; exact Eqk.up rfl
      have hM_1 : Mc c_1 := by rw [hc_1]; exact hM.upo rfl
      have hs_1 : c_1 44 = upd1 t (13 + b) ((i : Nat) : Int) := by rw [hc_1]; exact up2_rowS hs
      replace hs_1 : c_1 44 = upd1 s (13 + b) (i : Int) := hs_1.trans (ha.2 _)
      have hGi := hG.quarter hb (x := (i : Int)) (by omega)
      have hbs := hGi.bs hb
      refine E_load rfl rfl rfl ?_
      refine E_load rfl rfl rfl ?_
      refine E_V1 (q := 43) (c := 12) (y := 167) rfl rfl (hL.lt 43 rfl) (hL.k 43 rfl) rfl rfl rfl rfl (n_saysOf hL hM_1 hs_1 hb hGi.1 hGi.2.1) (fun r h2 hq => ?_)
      obtain ⟨rfl, c_2, hh, hE0_2⟩ := hq
      subst hh
      have hE_2 : Eqk PS c_1 c_2 := hE0_2.mono P47_PS
      have hM_2 : Mc c_2 := hM_1.of (hE0_2.row 43 (fun _ => rfl))
      have hs_2 : c_2 44 = upd1 s (13 + b) (i : Int) := (hE0_2.row 44 (fun _ => rfl)).trans hs_1
      refine E_store rfl rfl rfl ?_
      refine E_load rfl rfl rfl ?_
      refine E_load rfl rfl rfl ?_
      refine E_cmp5 rfl (by omega) (fun q2 => ?_) (fun q2 => ?_)
      · refine E_load rfl rfl rfl ?_
        refine E_store rfl rfl rfl ?_
        refine E_load rfl rfl rfl ?_
        refine E_load rfl rfl rfl ?_
        refine E_cmp5 rfl (by omega) (fun q3 => ?_) (fun q3 => ?_)
        · refine E_load rfl rfl rfl ?_
          refine E_store rfl rfl rfl ?_
          refine E_iinc rfl rfl rfl ?_
          refine E_goto rfl ?_
          refine (ih (i + 1) (by omega) _ _ _ _ ⟨liL_f ha.1 (by omega), fun y => upd1_upd1⟩ c_2 hM_2 hs_2).mono ?_
          rintro r hE ⟨e1, c9, e2, e4, e3⟩
          exact ⟨e1, c9, e2, e4, Eqk.trans (hE_1.trans hE_2) e3⟩
        · refine E_load rfl rfl rfl ?_
          refine E_goto rfl ?_
          refine E_store rfl rfl rfl ?_
          refine E_iinc rfl rfl rfl ?_
          refine E_goto rfl ?_
          exfalso; omega
      · refine E_load rfl rfl rfl ?_
        refine E_goto rfl ?_
        refine E_store rfl rfl rfl ?_
        refine E_load rfl rfl rfl ?_
        refine E_load rfl rfl rfl ?_
        refine E_cmp5 rfl (by omega) (fun q4 => ?_) (fun q4 => ?_)
        · refine E_load rfl rfl rfl ?_
          refine E_store rfl rfl rfl ?_
          refine E_iinc rfl rfl rfl ?_
          refine E_goto rfl ?_
          exfalso; omega
        · refine E_load rfl rfl rfl ?_
          refine E_goto rfl ?_
          refine E_store rfl rfl rfl ?_
          refine E_iinc rfl rfl rfl ?_
          refine E_goto rfl ?_
          refine (ih (i + 1) (by omega) _ _ _ _ ⟨liL_t ha.1 (by omega), fun y => upd1_upd1⟩ c_2 hM_2 hs_2).mono ?_
          rintro r hE ⟨e1, c9, e2, e4, e3⟩
          exact ⟨e1, c9, e2, e4, Eqk.trans (hE_1.trans hE_2) e3⟩
set_option maxHeartbeats 4000000 in
set_option maxRecDepth 100000 in
theorem n_lies {d : Nat} {h : Hp} {c : Nat → Nat → Int} {s : Nat → Int} (hL : Lay h) (hM : Mc c) (hs : c 44 = s) (hA : Inv s) {x : Int} (hx : inR x) : Ok (d + 6) 188 [(1, ((43 : Nat) : Int)), (0, x)] (wC h c) (fun r h2 => r = some (0, a_lies s x) ∧ ∃ c2, h2 = wC h c2 ∧ Eqk PQ c c2) := by
  show Ex _ none t_X11_lies 0 0 _ [] (wC h c) _
  have hG := hA.G
  obtain ⟨hI, hH, ⟨⟨n29, n30, n31, n32, n33, n34, n36⟩, nM⟩, hX⟩ := hA
  refine E_load rfl rfl rfl ?_
  refine E_load rfl rfl rfl ?_
  refine E_V1 (q := 43) (c := 12) (y := 143) rfl rfl (hL.lt 43 rfl) (hL.k 43 rfl) rfl rfl rfl rfl (n_isBottle hL hM hs (by omega) (by omega)) (fun r h2 hq => ?_)
  obtain ⟨rfl, hh⟩ := hq
  subst hh
  refine E_if1 rfl (bI_R _) (fun q1 => ?_) (fun q1 => ?_)
  · replace q1 := bI_nz q1
    obtain ⟨b, rfl⟩ := Int.eq_ofNat_of_zero_le q1.1
    have iB := hI b (by omega)
    refine E_load rfl rfl rfl ?_
    refine E_getr (c := 12) (r := 44) rfl (hL.lt 43 rfl) (hL.k 43 rfl) rfl hM.c1 ?_
    refine E_const rfl ?_
    refine E_load rfl rfl rfl ?_
    refine E_add rfl ?_
    refine E_ialn (n := 943) (v := (s ((13 + b)))) rfl (hL.lt 44 rfl) (hL.k 44 rfl) (hL.l 44 rfl) (by omega) (rdS hs (by omega)) ?_
    refine E_store rfl rfl rfl ?_
    refine E_const rfl ?_
    refine E_store rfl rfl rfl ?_
    refine E_const rfl ?_
    refine E_store rfl rfl rfl ?_
    refine E_const rfl ?_
    refine E_store rfl rfl rfl ?_
    refine (l_lies hL hG (by omega) 4 0 rfl _ _ _ s ⟨rfl, fun _ => rfl⟩ c hM hs).mono ?_
    rintro r hE ⟨rfl, c9, rfl, e4, e3⟩
    refine qryl ?_ (Eqk.PQ_of (Eqk.trans Eqk.nil e3) (e4.trans hs.symm))
    unfold a_lies
    try simp only [Int.toNat_natCast]
    rw [if_neg (by omega)]
  · replace q1 := bI_z q1
    refine E_const rfl ?_
    refine E_iret rfl (fun h => absurd h (by decide)) ?_
    refine qryl ?_ (Eqk.PQ_of Eqk.nil (hs.trans hs.symm))
    unfold a_lies
    try simp only [Int.toNat_natCast]
    first | (exfalso; omega) | (rw [if_pos (by omega)]; done) | (rw [if_neg (by omega), if_pos (by omega)]; done) | (rw [if_neg (by omega)]; done) | (rw [if_neg (by omega), if_neg (by omega), if_pos (by omega)]; done) | (rw [if_neg (by omega), if_neg (by omega)]; done) | (rw [if_neg (by omega), if_neg (by omega), if_neg (by omega), if_pos (by omega)]; done) | (rw [if_neg (by omega), if_neg (by omega), if_neg (by omega)]; done) | (rw [if_neg (by omega), if_neg (by omega), if_neg (by omega), if_neg (by omega), if_pos (by omega)]; done) | (rw [if_neg (by omega), if_neg (by omega), if_neg (by omega), if_neg (by omega)]; done) | (rw [if_neg (by omega), if_neg (by omega), if_neg (by omega), if_neg (by omega), if_neg (by omega), if_pos (by omega)]; done) | (rw [if_neg (by omega), if_neg (by omega), if_neg (by omega), if_neg (by omega), if_neg (by omega)]; done) | (rw [if_neg (by omega), if_neg (by omega), if_neg (by omega), if_neg (by omega), if_neg (by omega), if_neg (by omega), if_pos (by omega)]; done) | (rw [if_neg (by omega), if_neg (by omega), if_neg (by omega), if_neg (by omega), if_neg (by omega), if_neg (by omega)]; done)
set_option maxHeartbeats 4000000 in
set_option maxRecDepth 100000 in
theorem l_words {d : Nat} {h : Hp} {s : Nat → Int} (hL : Lay h) (hG : InvG s) {b : Nat} (hb : b < 6) {w y : Int} (hw : inR w) (hy : inR y) : ∀ (n i : Nat), i + n = 199 → ∀ (a1 a2 u : Int) (v8 : AV) (t : Nat → Int), (u = 99 - (i : Int) ∧ (a1, a2) = wdL s b y i ∧ (∀ y : Int, upd1 t (1 + b) y = upd1 s (1 + b) y)) → ∀ c, Mc c → c 44 = t → Ex (d + 6) none t_X11_words 0 54 [(1, ((43 : Nat) : Int)), (0, (b : Int)), (0, y), (0, w), (0, s (1 + b)), (0, a1), (0, a2), (0, u), v8] [] (wC h c) (fun r h2 => r = some (0, if w = 0 then (wdL s b y 199).1 else (wdL s b y 199).2) ∧ ∃ c2, h2 = wC h c2 ∧ c2 44 = s ∧ Eqk PS c c2) := by
  intro n
  induction n with
  | zero =>
    intro i hi a1 a2 u v8 t ha c hM hs 
    refine E_load rfl rfl rfl ?_
    refine E_const rfl ?_
    refine E_cmp2 rfl (by omega) (fun q1 => ?_) (fun q1 => ?_)
    · refine E_load rfl rfl rfl ?_
      refine E_getr (c := 12) (r := 44) rfl (hL.lt 43 rfl) (hL.k 43 rfl) rfl hM.c1 ?_
      refine E_const rfl ?_
      refine E_load rfl rfl rfl ?_
      refine E_add rfl ?_
      refine E_load rfl rfl rfl ?_
      refine E_iasg (n := 943) (j := (1 + b)) rfl (hL.lt 44 rfl) (hL.k 44 rfl) (hL.l 44 rfl) (by omega) (by omega) (fun c_1 hc_1 => ?_)
      have hE_1 : Eqk PS c c_1 := by rw [hc_1]; exact Eqk.up rfl
      have hM_1 : Mc c_1 := by rw [hc_1]; exact hM.upo rfl
      have hs_1 : c_1 44 = upd1 t (1 + b) (s ((1 + b))) := by rw [hc_1]; exact up2_rowS hs
      replace hs_1 : c_1 44 = s := hs_1.trans ((ha.2.2 _).trans upd1_self)
      refine E_load rfl rfl rfl ?_
      refine E_if1 rfl (by omega) (fun q2 => ?_) (fun q2 => ?_)
      · refine E_load rfl rfl rfl ?_
        refine E_iret rfl (fun h => absurd h (by decide)) ?_
        exact ⟨by have e := ha.2.1; rw [if_neg (by omega), show (199 : Nat) = i by omega, ← e], c_1, rfl, hs_1, hE_1⟩
      · refine E_load rfl rfl rfl ?_
        refine E_goto rfl ?_
        refine E_iret rfl (fun h => absurd h (by decide)) ?_
        exact ⟨by have e := ha.2.1; rw [if_pos (by omega), show (199 : Nat) = i by omega, ← e], c_1, rfl, hs_1, hE_1⟩
    · exfalso; omega
  | succ n ih =>
    intro i hi a1 a2 u v8 t ha c hM hs 
    refine E_load rfl rfl rfl ?_
    refine E_const rfl ?_
    refine E_cmp2 rfl (by omega) (fun q1 => ?_) (fun q1 => ?_)
    · exfalso; omega
    · refine E_load rfl rfl rfl ?_
      refine E_getr (c := 12) (r := 44) rfl (hL.lt 43 rfl) (hL.k 43 rfl) rfl hM.c1 ?_
      refine E_const rfl ?_
      refine E_load rfl rfl rfl ?_
      refine E_add rfl ?_
      refine E_load rfl rfl rfl ?_
      refine E_iasg (n := 943) (j := (1 + b)) rfl (hL.lt 44 rfl) (hL.k 44 rfl) (hL.l 44 rfl) (by omega) (by omega) (fun c_1 hc_1 => ?_)
      have hE_1 : Eqk PS c c_1 := by rw [hc_1]; exact Eqk.up rfl
      have hM_1 : Mc c_1 := by rw [hc_1]; exact hM.upo rfl
      have hs_1 : c_1 44 = upd1 t (1 + b) u := by rw [hc_1]; exact up2_rowS hs
      replace hs_1 : c_1 44 = upd1 s (1 + b) (99 - (i : Int)) := hs_1.trans (by rw [ha.2.2, ha.1])
      have hGi := hG.word hb (x := 99 - (i : Int)) (by omega)
      have hbs := hGi.bs hb
      refine E_load rfl rfl rfl ?_
      refine E_load rfl rfl rfl ?_
      refine E_V1 (q := 43) (c := 12) (y := 167) rfl rfl (hL.lt 43 rfl) (hL.k 43 rfl) rfl rfl rfl rfl (n_saysOf hL hM_1 hs_1 hb hGi.1 hGi.2.1) (fun r h2 hq => ?_)
      obtain ⟨rfl, c_2, hh, hE0_2⟩ := hq
      subst hh
      have hE_2 : Eqk PS c_1 c_2 := hE0_2.mono P47_PS
      have hM_2 : Mc c_2 := hM_1.of (hE0_2.row 43 (fun _ => rfl))
      have hs_2 : c_2 44 = upd1 s (1 + b) (99 - (i : Int)) := (hE0_2.row 44 (fun _ => rfl)).trans hs_1
      refine E_load rfl rfl rfl ?_
      refine E_cmp1 rfl (by omega) (fun q2 => ?_) (fun q2 => ?_)
      · refine E_const rfl ?_
        refine E_store rfl rfl rfl ?_
        refine E_load rfl rfl rfl ?_
        refine E_load rfl rfl rfl ?_
        refine E_if0 rfl (by omega) (fun q3 => ?_) (fun q3 => ?_)
        · refine E_const rfl ?_
          refine E_add rfl ?_
          refine E_store rfl rfl rfl ?_
          refine E_load rfl rfl rfl ?_
          refine E_if0 rfl (by omega) (fun q4 => ?_) (fun q4 => ?_)
          · refine E_load rfl rfl rfl ?_
            refine E_store rfl rfl rfl ?_
            refine E_iinc rfl rfl rfl ?_
            refine E_goto rfl ?_
            refine (ih (i + 1) (by omega) _ _ _ _ _ ⟨by omega, wdL_f ha.2.1 (by omega), fun y => upd1_upd1⟩ c_2 hM_2 hs_2).mono ?_
            rintro r hE ⟨e1, c9, e2, e4, e3⟩
            exact ⟨e1, c9, e2, e4, Eqk.trans (hE_1.trans hE_2) e3⟩
          · exfalso; omega
        · exfalso; omega
      · refine E_const rfl ?_
        refine E_goto rfl ?_
        refine E_store rfl rfl rfl ?_
        refine E_load rfl rfl rfl ?_
        refine E_load rfl rfl rfl ?_
        refine E_if0 rfl (by omega) (fun q5 => ?_) (fun q5 => ?_)
        · exfalso; omega
        · refine E_const rfl ?_
          refine E_goto rfl ?_
          refine E_add rfl ?_
          refine E_store rfl rfl rfl ?_
          refine E_load rfl rfl rfl ?_
          refine E_if0 rfl (by omega) (fun q6 => ?_) (fun q6 => ?_)
          · exfalso; omega
          · refine E_load rfl rfl rfl ?_
            refine E_goto rfl ?_
            refine E_store rfl rfl rfl ?_
            refine E_iinc rfl rfl rfl ?_
            refine E_goto rfl ?_
            refine (ih (i + 1) (by omega) _ _ _ _ _ ⟨by omega, (by rw [ha.1]; exact wdL_t ha.2.1 (by omega)), fun y => upd1_upd1⟩ c_2 hM_2 hs_2).mono ?_
            rintro r hE ⟨e1, c9, e2, e4, e3⟩
            exact ⟨e1, c9, e2, e4, Eqk.trans (hE_1.trans hE_2) e3⟩
set_option maxHeartbeats 4000000 in
set_option maxRecDepth 100000 in
theorem n_words {d : Nat} {h : Hp} {c : Nat → Nat → Int} {s : Nat → Int} (hL : Lay h) (hM : Mc c) (hs : c 44 = s) (hA : Inv s) {x : Int} (hx : inR x) {y : Int} (hy : inR y) {w : Int} (hw : inR w) : Ok (d + 6) 198 [(1, ((43 : Nat) : Int)), (0, x), (0, y), (0, w)] (wC h c) (fun r h2 => r = some (0, a_words s x y w) ∧ ∃ c2, h2 = wC h c2 ∧ Eqk PQ c c2) := by
  show Ex _ none t_X11_words 0 0 _ [] (wC h c) _
  have hG := hA.G
  obtain ⟨hI, hH, ⟨⟨n29, n30, n31, n32, n33, n34, n36⟩, nM⟩, hX⟩ := hA
  refine E_load rfl rfl rfl ?_
  refine E_load rfl rfl rfl ?_
  refine E_V1 (q := 43) (c := 12) (y := 143) rfl rfl (hL.lt 43 rfl) (hL.k 43 rfl) rfl rfl rfl rfl (n_isBottle hL hM hs (by omega) (by omega)) (fun r h2 hq => ?_)
  obtain ⟨rfl, hh⟩ := hq
  subst hh
  refine E_if0 rfl (bI_R _) (fun q1 => ?_) (fun q1 => ?_)
  · replace q1 := bI_z q1
    refine E_const rfl ?_
    refine E_iret rfl (fun h => absurd h (by decide)) ?_
    refine qryl ?_ (Eqk.PQ_of Eqk.nil (hs.trans hs.symm))
    unfold a_words
    try simp only [Int.toNat_natCast]
    first | (exfalso; omega) | (rw [if_pos (by omega)]; done) | (rw [if_neg (by omega), if_pos (by omega)]; done) | (rw [if_neg (by omega)]; done) | (rw [if_neg (by omega), if_neg (by omega), if_pos (by omega)]; done) | (rw [if_neg (by omega), if_neg (by omega)]; done) | (rw [if_neg (by omega), if_neg (by omega), if_neg (by omega), if_pos (by omega)]; done) | (rw [if_neg (by omega), if_neg (by omega), if_neg (by omega)]; done) | (rw [if_neg (by omega), if_neg (by omega), if_neg (by omega), if_neg (by omega), if_pos (by omega)]; done) | (rw [if_neg (by omega), if_neg (by omega), if_neg (by omega), if_neg (by omega)]; done) | (rw [if_neg (by omega), if_neg (by omega), if_neg (by omega), if_neg (by omega), if_neg (by omega), if_pos (by omega)]; done) | (rw [if_neg (by omega), if_neg (by omega), if_neg (by omega), if_neg (by omega), if_neg (by omega)]; done) | (rw [if_neg (by omega), if_neg (by omega), if_neg (by omega), if_neg (by omega), if_neg (by omega), if_neg (by omega), if_pos (by omega)]; done) | (rw [if_neg (by omega), if_neg (by omega), if_neg (by omega), if_neg (by omega), if_neg (by omega), if_neg (by omega)]; done)
  · replace q1 := bI_nz q1
    obtain ⟨b, rfl⟩ := Int.eq_ofNat_of_zero_le q1.1
    have iB := hI b (by omega)
    refine E_load rfl rfl rfl ?_
    refine E_const rfl ?_
    refine E_const rfl ?_
    refine E_S3 (y := 139) rfl rfl rfl rfl rfl (m_in (by omega) (by omega) (by omega)) (fun r h2 hq => ?_)
    obtain ⟨rfl, hh⟩ := hq
    subst hh
    refine E_if1 rfl (bI_R _) (fun q2 => ?_) (fun q2 => ?_)
    · replace q2 := bI_nz q2
      refine E_load rfl rfl rfl ?_
      refine E_S1 (y := 146) rfl rfl rfl rfl rfl (m_isSaying (by omega)) (fun r h2 hq => ?_)
      obtain ⟨rfl, hh⟩ := hq
      subst hh
      refine E_if1 rfl (bI_R _) (fun q3 => ?_) (fun q3 => ?_)
      · replace q3 := bI_nz q3
        refine E_load rfl rfl rfl ?_
        refine E_getr (c := 12) (r := 44) rfl (hL.lt 43 rfl) (hL.k 43 rfl) rfl hM.c1 ?_
        refine E_const rfl ?_
        refine E_load rfl rfl rfl ?_
        refine E_add rfl ?_
        refine E_ialn (n := 943) (v := (s ((1 + b)))) rfl (hL.lt 44 rfl) (hL.k 44 rfl) (hL.l 44 rfl) (by omega) (rdS hs (by omega)) ?_
        refine E_store rfl rfl rfl ?_
        refine E_const rfl ?_
        refine E_store rfl rfl rfl ?_
        refine E_const rfl ?_
        refine E_store rfl rfl rfl ?_
        refine E_const rfl ?_
        refine E_store rfl rfl rfl ?_
        refine (l_words hL hG (by omega) hw hy 199 0 rfl _ _ _ _ s ⟨rfl, rfl, fun _ => rfl⟩ c hM hs).mono ?_
        rintro r hE ⟨rfl, c9, rfl, e4, e3⟩
        refine qryl ?_ (Eqk.PQ_of (Eqk.trans Eqk.nil e3) (e4.trans hs.symm))
        unfold a_words
        try simp only [Int.toNat_natCast]
        rw [if_neg (by omega), if_neg (by omega)]
      · replace q3 := bI_z q3
        refine E_const rfl ?_
        refine E_iret rfl (fun h => absurd h (by decide)) ?_
        refine qryl ?_ (Eqk.PQ_of Eqk.nil (hs.trans hs.symm))
        unfold a_words
        try simp only [Int.toNat_natCast]
        first | (exfalso; omega) | (rw [if_pos (by omega)]; done) | (rw [if_neg (by omega), if_pos (by omega)]; done) | (rw [if_neg (by omega)]; done) | (rw [if_neg (by omega), if_neg (by omega), if_pos (by omega)]; done) | (rw [if_neg (by omega), if_neg (by omega)]; done) | (rw [if_neg (by omega), if_neg (by omega), if_neg (by omega), if_pos (by omega)]; done) | (rw [if_neg (by omega), if_neg (by omega), if_neg (by omega)]; done) | (rw [if_neg (by omega), if_neg (by omega), if_neg (by omega), if_neg (by omega), if_pos (by omega)]; done) | (rw [if_neg (by omega), if_neg (by omega), if_neg (by omega), if_neg (by omega)]; done) | (rw [if_neg (by omega), if_neg (by omega), if_neg (by omega), if_neg (by omega), if_neg (by omega), if_pos (by omega)]; done) | (rw [if_neg (by omega), if_neg (by omega), if_neg (by omega), if_neg (by omega), if_neg (by omega)]; done) | (rw [if_neg (by omega), if_neg (by omega), if_neg (by omega), if_neg (by omega), if_neg (by omega), if_neg (by omega), if_pos (by omega)]; done) | (rw [if_neg (by omega), if_neg (by omega), if_neg (by omega), if_neg (by omega), if_neg (by omega), if_neg (by omega)]; done)
    · replace q2 := bI_z q2
      refine E_const rfl ?_
      refine E_iret rfl (fun h => absurd h (by decide)) ?_
      refine qryl ?_ (Eqk.PQ_of Eqk.nil (hs.trans hs.symm))
      unfold a_words
      try simp only [Int.toNat_natCast]
      first | (exfalso; omega) | (rw [if_pos (by omega)]; done) | (rw [if_neg (by omega), if_pos (by omega)]; done) | (rw [if_neg (by omega)]; done) | (rw [if_neg (by omega), if_neg (by omega), if_pos (by omega)]; done) | (rw [if_neg (by omega), if_neg (by omega)]; done) | (rw [if_neg (by omega), if_neg (by omega), if_neg (by omega), if_pos (by omega)]; done) | (rw [if_neg (by omega), if_neg (by omega), if_neg (by omega)]; done) | (rw [if_neg (by omega), if_neg (by omega), if_neg (by omega), if_neg (by omega), if_pos (by omega)]; done) | (rw [if_neg (by omega), if_neg (by omega), if_neg (by omega), if_neg (by omega)]; done) | (rw [if_neg (by omega), if_neg (by omega), if_neg (by omega), if_neg (by omega), if_neg (by omega), if_pos (by omega)]; done) | (rw [if_neg (by omega), if_neg (by omega), if_neg (by omega), if_neg (by omega), if_neg (by omega)]; done) | (rw [if_neg (by omega), if_neg (by omega), if_neg (by omega), if_neg (by omega), if_neg (by omega), if_neg (by omega), if_pos (by omega)]; done) | (rw [if_neg (by omega), if_neg (by omega), if_neg (by omega), if_neg (by omega), if_neg (by omega), if_neg (by omega)]; done)
