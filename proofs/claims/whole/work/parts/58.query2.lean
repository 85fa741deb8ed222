theorem laid_q {c : Nat → Nat → Int} {q b : Nat} {t : Nat → Int} {x : Int} (hb : b < 6) (h : LaidS c q t b) : LaidS (up2 c q 4 x) q (upd1 t (13 + b) x) b := by
  unfold LaidS
  rw [upd1_ne (show 43 + b ≠ 13 + b by omega), upd1_ne (show 1 + b ≠ 13 + b by omega), upd1_ne (show 7 + b ≠ 13 + b by omega), upd1_same, upd1_ne (show 19 + b ≠ 13 + b by omega)]
  exact ⟨⟨(up2_fldN (by omega)).trans h.1.1, (up2_fldN (by omega)).trans h.1.2.1, (up2_fldN (by omega)).trans h.1.2.2.1, up2_same, (up2_fldN (by omega)).trans h.1.2.2.2.2⟩, fun k hk => (up2_fldN (by omega)).trans ((h.2 k hk).trans (upd1_ne (by omega)).symm)⟩
theorem laid_w {c : Nat → Nat → Int} {q b : Nat} {t : Nat → Int} {x : Int} (hb : b < 6) (h : LaidS c q t b) : LaidS (up2 c q 2 x) q (upd1 t (1 + b) x) b := by
  unfold LaidS
  rw [upd1_ne (show 43 + b ≠ 1 + b by omega), upd1_same, upd1_ne (show 7 + b ≠ 1 + b by omega), upd1_ne (show 13 + b ≠ 1 + b by omega), upd1_ne (show 19 + b ≠ 1 + b by omega)]
  exact ⟨⟨(up2_fldN (by omega)).trans h.1.1, up2_same, (up2_fldN (by omega)).trans h.1.2.2.1, (up2_fldN (by omega)).trans h.1.2.2.2.1, (up2_fldN (by omega)).trans h.1.2.2.2.2⟩, fun k hk => (up2_fldN (by omega)).trans ((h.2 k hk).trans (upd1_ne (by omega)).symm)⟩
theorem laid_y {c : Nat → Nat → Int} {q b : Nat} {t : Nat → Int} {x : Int} (hb : b < 6) (h : LaidS c q t b) : LaidS (up2 c q 3 x) q (upd1 t (7 + b) x) b := by
  unfold LaidS
  rw [upd1_ne (show 43 + b ≠ 7 + b by omega), upd1_ne (show 1 + b ≠ 7 + b by omega), upd1_same, upd1_ne (show 13 + b ≠ 7 + b by omega), upd1_ne (show 19 + b ≠ 7 + b by omega)]
  exact ⟨⟨(up2_fldN (by omega)).trans h.1.1, (up2_fldN (by omega)).trans h.1.2.1, up2_same, (up2_fldN (by omega)).trans h.1.2.2.2.1, (up2_fldN (by omega)).trans h.1.2.2.2.2⟩, fun k hk => (up2_fldN (by omega)).trans ((h.2 k hk).trans (upd1_ne (by omega)).symm)⟩
theorem laid_v {c : Nat → Nat → Int} {q b : Nat} {t : Nat → Int} {x : Int} (hb : b < 6) (h : LaidS c q t b) : LaidS (up2 c q 1 x) q (upd1 t (43 + b) x) b := by
  unfold LaidS
  rw [upd1_same, upd1_ne (show 1 + b ≠ 43 + b by omega), upd1_ne (show 7 + b ≠ 43 + b by omega), upd1_ne (show 13 + b ≠ 43 + b by omega), upd1_ne (show 19 + b ≠ 43 + b by omega)]
  exact ⟨⟨up2_same, (up2_fldN (by omega)).trans h.1.2.1, (up2_fldN (by omega)).trans h.1.2.2.1, (up2_fldN (by omega)).trans h.1.2.2.2.1, (up2_fldN (by omega)).trans h.1.2.2.2.2⟩, fun k hk => (up2_fldN (by omega)).trans ((h.2 k hk).trans (upd1_ne (by omega)).symm)⟩
set_option maxHeartbeats 4000000 in
set_option maxRecDepth 100000 in
theorem Cl_lies {d : Nat} {h : Hp} {B : Nat → Nat} {s im : Nat → Int} {hi : Int} {L : List Int} (hL : Lay h) (hG : InvG s) {b : Nat} (hb : (b : Int) < s 29) {v1 : AV} : ∀ (n i : Nat), i + n = 3 → ∀ (a1 a2 : Int) (v7 : AV) (z : Int), (a1, a2) = liL s b (1 + i) → ∀ c, RepC h c B s im hi L → LaidS c (B b + 5) (upd1 s (13 + b) z) b → Ex (d + 12) none t_X10_lies 0 36 [(1, ((0 : Nat) : Int)), v1, (1, ((B b : Nat) : Int)), (1, ((B b + 5 : Nat) : Int)), (0, a1), (0, a2), (0, ((1 + i : Nat) : Int)), v7] [] (wC h c) (fun r h2 => r = some (0, (liL s b 4).1) ∧ ∃ c2, h2 = wC h c2 ∧ EqP (ScrP B (s 29)) c c2) := by
  have hGG := hG
  obtain ⟨hI, hH, ⟨⟨n29, n30, n31, n32, n33, n34, n36⟩, nM⟩⟩ := hGG
  intro n
  induction n with
  | zero =>
    intro i hin a1 a2 v7 z ha c hR hT
    have hin := liL_in hG (b := b) (by omega) (1 + i) (by omega)
    rw [← ha] at hin
    simp only at hin
    refine E_load rfl rfl rfl ?_
    refine E_const rfl ?_
    refine E_cmp3 rfl (by omega) (fun q1 => ?_) (fun q1 => ?_)
    · refine E_load rfl rfl rfl ?_
      refine E_iret rfl (fun h => absurd h (by decide)) ?_
      exact ⟨by rw [show (4 : Nat) = 1 + i by omega, ← ha], c, rfl, EqP.nil⟩
    · exfalso; omega
  | succ n ih =>
    intro i hin a1 a2 v7 z ha c hR hT
    have hin := liL_in hG (b := b) (by omega) (1 + i) (by omega)
    rw [← ha] at hin
    simp only at hin
    refine E_load rfl rfl rfl ?_
    refine E_const rfl ?_
    refine E_cmp3 rfl (by omega) (fun q1 => ?_) (fun q1 => ?_)
    · exfalso; omega
    · refine E_load rfl rfl rfl ?_
      refine E_load rfl rfl rfl ?_
      refine E_putg (cl := 6) rfl (show (B b + 5) < mN h by have := (hR.bot b (by omega)).1.1.1; omega) (hR.bot b (by omega)).1.2.2.2.2.2.1 rfl (fun c_1 hc_1 => ?_)
      have hE_1 : EqP (ScrP B (s 29)) c c_1 := by rw [hc_1]; exact EqP.up (scr_try (b := b) (by omega) _ _ (by omega))
      have hfBbp5_4_1 : c_1 (B b + 5) 4 = (((1 + i) : Nat) : Int) := by rw [hc_1]; exact up2_same
      have hR_1 := hR.scr hE_1
      have hX_1 : LaidS c_1 (B b + 5) (upd1 (upd1 s (13 + b) z) (13 + b) (((1 + i) : Nat) : Int)) b := by rw [hc_1]; exact laid_q (by omega) hT
      rw [upd1_upd1] at hX_1
      have hGi := hG.quarter (b := b) (by omega) (x := ((1 + i : Nat) : Int)) (by omega)
      have hbs := hGi.bs (b := b) (by omega)
      refine E_load rfl rfl rfl ?_
      refine E_load rfl rfl rfl ?_
      refine E_load rfl rfl rfl ?_
      refine E_V2 (q := 0) (c := 11) (y := 122) rfl rfl (hL.lt 0 rfl) (hL.k 0 rfl) rfl rfl rfl rfl (c_sayT hL hR_1 hG (hGi) (b := b) (by omega) hX_1 (fun k hk hk2 => upd1_ne (by omega)) (upd1_ne (by omega))) (fun r h2 hq => ?_)
      obtain ⟨rfl, hh⟩ := hq
      subst hh
      refine E_store rfl rfl rfl ?_
      refine E_load rfl rfl rfl ?_
      refine E_load rfl rfl rfl ?_
      refine E_cmp5 rfl (by omega) (fun q2 => ?_) (fun q2 => ?_)
      · refine E_iinc rfl rfl rfl ?_
        refine E_goto rfl ?_
        refine (ih (i + 1) (by omega) _ _ _ _ (by rw [← Nat.add_assoc]; exact liL_f ha (by omega)) c_1 hR_1 hX_1).mono ?_
        rintro r hE ⟨e1, c9, e2, e3⟩
        exact ⟨e1, c9, e2, EqP.trans hE_1 e3⟩
      · refine E_load rfl rfl rfl ?_
        refine E_store rfl rfl rfl ?_
        refine E_load rfl rfl rfl ?_
        refine E_store rfl rfl rfl ?_
        refine E_iinc rfl rfl rfl ?_
        refine E_goto rfl ?_
        refine (ih (i + 1) (by omega) _ _ _ _ (by rw [← Nat.add_assoc]; exact liL_t ha (by omega)) c_1 hR_1 hX_1).mono ?_
        rintro r hE ⟨e1, c9, e2, e3⟩
        exact ⟨e1, c9, e2, EqP.trans hE_1 e3⟩
set_option maxHeartbeats 4000000 in
set_option maxRecDepth 100000 in
theorem C_lies {d : Nat} {h : Hp} {c : Nat → Nat → Int} {B : Nat → Nat} {s im : Nat → Int} {hi : Int} {L : List Int} (hL : Lay h) (hR : RepC h c B s im hi L) (hA : Inv s) {x : Int} (hx : inR x) : Ok (d + 14) 89 [(1, ((0 : Nat) : Int)), (0, x)] (wC h c) (fun r h2 => r = some (0, a_lies s x) ∧ ∃ c2, h2 = wC h c2 ∧ EqP (ScrP B (s 29)) c c2) := by
  show Ex _ none t_X10_lies 0 0 _ [] (wC h c) _
  have hAA := hA
  have hG := hA.G
  obtain ⟨hI, hH, ⟨⟨n29, n30, n31, n32, n33, n34, n36⟩, nM⟩, hX⟩ := hA
  refine E_load rfl rfl rfl ?_
  refine E_load rfl rfl rfl ?_
  rcases Classical.em (0 ≤ x ∧ x < s 29) with hb | hb
  · obtain ⟨b, rfl⟩ := Int.eq_ofNat_of_zero_le hb.1
    have iB := hI b (by omega)
    refine E_V1 (q := 0) (c := 11) (y := 120) rfl rfl (hL.lt 0 rfl) (hL.k 0 rfl) rfl rfl rfl rfl (c_bY hL hR (b := b) (by omega)) (fun r h2 hq => ?_)
    obtain ⟨rfl, hh⟩ := hq
    subst hh
    refine E_store rfl rfl rfl ?_
    refine E_load rfl rfl rfl ?_
    refine E_null1 rfl (fun q1 => ?_) (fun q1 => ?_)
    · refine E_load rfl rfl rfl ?_
      refine E_V0 (q := (B b)) (c := (mK h (B b))) (y := 13) rfl rfl (show (B b) < mN h by have := (hR.bot b (by omega)).1.1.1; omega) rfl (by have e := (hR.bot b (by omega)).1.isB; rcases e with e | e | e | e | e | e | e <;> rw [e] <;> rfl) rfl rfl rfl (c_now hR hG (b := b) (by omega)) (fun r h2 hq => ?_)
      obtain ⟨rfl, c_1, hh, hX_1, hE_1⟩ := hq
      subst hh
      have hR_1 := hR.scr hE_1
      refine E_store rfl rfl rfl ?_
      refine E_load rfl rfl rfl ?_
      refine E_const rfl ?_
      refine E_putg (cl := 6) rfl (show (B b + 5) < mN h by have := (hR_1.bot b (by omega)).1.1.1; omega) (hR_1.bot b (by omega)).1.2.2.2.2.2.1 rfl (fun c_2 hc_2 => ?_)
      have hE_2 : EqP (ScrP B (s 29)) c_1 c_2 := by rw [hc_2]; exact EqP.up (scr_try (b := b) (by omega) _ _ (by omega))
      have hfBbp5_4_2 : c_2 (B b + 5) 4 = 0 := by rw [hc_2]; exact up2_same
      have hR_2 := hR_1.scr hE_2
      have hX_2 : LaidS c_2 (B b + 5) (upd1 s (13 + b) 0) b := by rw [hc_2]; exact laid_q (by omega) hX_1
      refine E_const rfl ?_
      refine E_store rfl rfl rfl ?_
      have hGi := hG.quarter (b := b) (by omega) (x := 0) (by omega)
      have hbs := hGi.bs (b := b) (by omega)
      refine E_load rfl rfl rfl ?_
      refine E_load rfl rfl rfl ?_
      refine E_load rfl rfl rfl ?_
      refine E_V2 (q := 0) (c := 11) (y := 122) rfl rfl (hL.lt 0 rfl) (hL.k 0 rfl) rfl rfl rfl rfl (c_sayT hL hR_2 hG (hGi) (b := b) (by omega) hX_2 (fun k hk hk2 => upd1_ne (by omega)) (upd1_ne (by omega))) (fun r h2 hq => ?_)
      obtain ⟨rfl, hh⟩ := hq
      subst hh
      refine E_store rfl rfl rfl ?_
      refine E_const rfl ?_
      refine E_store rfl rfl rfl ?_
      refine (Cl_lies hL hG (by omega) 3 0 rfl 0 (syS (upd1 s (13 + b) 0) b) _ 0 (by rw [liL]; exact (if_pos (show (-1000000 : Int) < syS (upd1 s (13 + b) 0) b by omega)).symm) c_2 hR_2 hX_2).mono ?_
      rintro r hE ⟨rfl, c9, rfl, e3⟩
      refine qryc ?_ (EqP.trans (hE_1.trans hE_2) e3)
      unfold a_lies
      try simp only [Int.toNat_natCast]
      rw [if_neg (by omega)]
    · exfalso; omega
  · refine E_V1 (q := 0) (c := 11) (y := 120) rfl rfl (hL.lt 0 rfl) (hL.k 0 rfl) rfl rfl rfl rfl (c_bN hL hR (by omega) n29.1 hb) (fun r h2 hq => ?_)
    obtain ⟨rfl, hh⟩ := hq
    subst hh
    refine E_store rfl rfl rfl ?_
    refine E_load rfl rfl rfl ?_
    refine E_null1 rfl (fun q2 => ?_) (fun q2 => ?_)
    · exfalso; omega
    · refine E_const rfl ?_
      refine E_iret rfl (fun h => absurd h (by decide)) ?_
      refine qryc ?_ EqP.nil
      unfold a_lies
      try simp only [Int.toNat_natCast]
      first | (exfalso; omega) | (rw [if_pos (by omega)] <;> rfl) | (rw [if_neg (by omega), if_pos (by omega)] <;> rfl) | (rw [if_neg (by omega)] <;> rfl) | (rw [if_neg (by omega), if_neg (by omega), if_pos (by omega)] <;> rfl) | (rw [if_neg (by omega), if_neg (by omega)] <;> rfl) | (rw [if_neg (by omega), if_neg (by omega), if_neg (by omega), if_pos (by omega)] <;> rfl) | (rw [if_neg (by omega), if_neg (by omega), if_neg (by omega)] <;> rfl) | (rw [if_neg (by omega), if_neg (by omega), if_neg (by omega), if_neg (by omega), if_pos (by omega)] <;> rfl) | (rw [if_neg (by omega), if_neg (by omega), if_neg (by omega), if_neg (by omega)] <;> rfl) | (rw [if_neg (by omega), if_neg (by omega), if_neg (by omega), if_neg (by omega), if_neg (by omega), if_pos (by omega)] <;> rfl) | (rw [if_neg (by omega), if_neg (by omega), if_neg (by omega), if_neg (by omega), if_neg (by omega)] <;> rfl) | (rw [if_neg (by omega), if_neg (by omega), if_neg (by omega), if_neg (by omega), if_neg (by omega), if_neg (by omega), if_pos (by omega)] <;> rfl) | (rw [if_neg (by omega), if_neg (by omega), if_neg (by omega), if_neg (by omega), if_neg (by omega), if_neg (by omega)] <;> rfl)
set_option maxHeartbeats 4000000 in
set_option maxRecDepth 100000 in
theorem Cl_words {d : Nat} {h : Hp} {B : Nat → Nat} {s im : Nat → Int} {hi : Int} {L : List Int} (hL : Lay h) (hG : InvG s) {b : Nat} (hb : (b : Int) < s 29) {w y : Int} (hw : inR w) (hy : inR y) {v1 : AV} : ∀ (n i : Nat), i + n = 199 → ∀ (a1 a2 u z : Int), (u = 99 - (i : Int) ∧ (a1, a2) = wdL s b y i) → ∀ c, RepC h c B s im hi L → LaidS c (B b + 5) (upd1 s (1 + b) z) b → Ex (d + 12) none t_X10_words 0 61 [(1, ((0 : Nat) : Int)), v1, (0, y), (0, w), (1, ((B b : Nat) : Int)), (1, ((B b + 5 : Nat) : Int)), (0, a1), (0, a2), (0, u)] [] (wC h c) (fun r h2 => r = some (0, if w = 0 then (wdL s b y 199).1 else (wdL s b y 199).2) ∧ ∃ c2, h2 = wC h c2 ∧ EqP (ScrP B (s 29)) c c2) := by
  have hGG := hG
  obtain ⟨hI, hH, ⟨⟨n29, n30, n31, n32, n33, n34, n36⟩, nM⟩⟩ := hGG
  intro n
  induction n with
  | zero =>
    intro i hin a1 a2 u z ha c hR hT
    refine E_load rfl rfl rfl ?_
    refine E_const rfl ?_
    refine E_cmp2 rfl (by omega) (fun q1 => ?_) (fun q1 => ?_)
    · refine E_load rfl rfl rfl ?_
      refine E_if1 rfl (by omega) (fun q2 => ?_) (fun q2 => ?_)
      · refine E_load rfl rfl rfl ?_
        refine E_iret rfl (fun h => absurd h (by decide)) ?_
        exact ⟨by rw [if_neg (by omega), show (199 : Nat) = i by omega, ← ha.2], c, rfl, EqP.nil⟩
      · refine E_load rfl rfl rfl ?_
        refine E_goto rfl ?_
        refine E_iret rfl (fun h => absurd h (by decide)) ?_
        exact ⟨by rw [if_pos (by omega), show (199 : Nat) = i by omega, ← ha.2], c, rfl, EqP.nil⟩
    · exfalso; omega
  | succ n ih =>
    intro i hin a1 a2 u z ha c hR hT
    refine E_load rfl rfl rfl ?_
    refine E_const rfl ?_
    refine E_cmp2 rfl (by omega) (fun q1 => ?_) (fun q1 => ?_)
    · exfalso; omega
    · refine E_load rfl rfl rfl ?_
      refine E_load rfl rfl rfl ?_
      refine E_putg (cl := 6) rfl (show (B b + 5) < mN h by have := (hR.bot b (by omega)).1.1.1; omega) (hR.bot b (by omega)).1.2.2.2.2.2.1 rfl (fun c_1 hc_1 => ?_)
      have hE_1 : EqP (ScrP B (s 29)) c c_1 := by rw [hc_1]; exact EqP.up (scr_try (b := b) (by omega) _ _ (by omega))
      have hfBbp5_2_1 : c_1 (B b + 5) 2 = u := by rw [hc_1]; exact up2_same
      have hR_1 := hR.scr hE_1
      have hX_1 : LaidS c_1 (B b + 5) (upd1 (upd1 s (1 + b) z) (1 + b) u) b := by rw [hc_1]; exact laid_w (by omega) hT
      rw [upd1_upd1, ha.1] at hX_1
      have hGi := hG.word (b := b) (by omega) (x := 99 - (i : Int)) (by omega)
      have hbs := hGi.bs (b := b) (by omega)
      refine E_load rfl rfl rfl ?_
      refine E_load rfl rfl rfl ?_
      refine E_load rfl rfl rfl ?_
      refine E_V2 (q := 0) (c := 11) (y := 122) rfl rfl (hL.lt 0 rfl) (hL.k 0 rfl) rfl rfl rfl rfl (c_sayT hL hR_1 hG (hGi) (b := b) (by omega) hX_1 (fun k hk hk2 => upd1_ne (by omega)) (upd1_ne (by omega))) (fun r h2 hq => ?_)
      obtain ⟨rfl, hh⟩ := hq
      subst hh
      refine E_load rfl rfl rfl ?_
      refine E_cmp1 rfl (by omega) (fun q2 => ?_) (fun q2 => ?_)
      · refine E_iinc rfl rfl rfl ?_
        refine E_goto rfl ?_
        refine (ih (i + 1) (by omega) _ _ _ _ ⟨by omega, (by have := wdL_f ha.2 (by omega); rw [Int.add_zero] at this; exact this)⟩ c_1 hR_1 hX_1).mono ?_
        rintro r hE ⟨e1, c9, e2, e3⟩
        exact ⟨e1, c9, e2, EqP.trans hE_1 e3⟩
      · refine E_iinc rfl rfl rfl ?_
        refine E_load rfl rfl rfl ?_
        refine E_store rfl rfl rfl ?_
        refine E_iinc rfl rfl rfl ?_
        refine E_goto rfl ?_
        refine (ih (i + 1) (by omega) _ _ _ _ ⟨by omega, (by rw [ha.1]; exact wdL_t ha.2 (by omega))⟩ c_1 hR_1 hX_1).mono ?_
        rintro r hE ⟨e1, c9, e2, e3⟩
        exact ⟨e1, c9, e2, EqP.trans hE_1 e3⟩
set_option maxHeartbeats 4000000 in
set_option maxRecDepth 100000 in
theorem C_words {d : Nat} {h : Hp} {c : Nat → Nat → Int} {B : Nat → Nat} {s im : Nat → Int} {hi : Int} {L : List Int} (hL : Lay h) (hR : RepC h c B s im hi L) (hA : Inv s) {x : Int} (hx : inR x) {y : Int} (hy : inR y) {w : Int} (hw : inR w) : Ok (d + 14) 94 [(1, ((0 : Nat) : Int)), (0, x), (0, y), (0, w)] (wC h c) (fun r h2 => r = some (0, a_words s x y w) ∧ ∃ c2, h2 = wC h c2 ∧ EqP (ScrP B (s 29)) c c2) := by
  show Ex _ none t_X10_words 0 0 _ [] (wC h c) _
  have hAA := hA
  have hG := hA.G
  obtain ⟨hI, hH, ⟨⟨n29, n30, n31, n32, n33, n34, n36⟩, nM⟩, hX⟩ := hA
  refine E_load rfl rfl rfl ?_
  refine E_load rfl rfl rfl ?_
  rcases Classical.em (0 ≤ x ∧ x < s 29) with hb | hb
  · obtain ⟨b, rfl⟩ := Int.eq_ofNat_of_zero_le hb.1
    have iB := hI b (by omega)
    refine E_V1 (q := 0) (c := 11) (y := 120) rfl rfl (hL.lt 0 rfl) (hL.k 0 rfl) rfl rfl rfl rfl (c_bY hL hR (b := b) (by omega)) (fun r h2 hq => ?_)
    obtain ⟨rfl, hh⟩ := hq
    subst hh
    refine E_store rfl rfl rfl ?_
    refine E_load rfl rfl rfl ?_
    refine E_null0 rfl (fun q1 => ?_) (fun q1 => ?_)
    · exfalso; omega
    · refine E_load rfl rfl rfl ?_
      refine E_const rfl ?_
      refine E_const rfl ?_
      refine E_S3 (y := 111) rfl rfl rfl rfl rfl (c_within (by omega) (by omega) (by omega)) (fun r h2 hq => ?_)
      obtain ⟨rfl, hh⟩ := hq
      subst hh
      refine E_if1 rfl (bI_R _) (fun q2 => ?_) (fun q2 => ?_)
      · replace q2 := bI_nz q2
        refine E_load rfl rfl rfl ?_
        refine E_const rfl ?_
        refine E_const rfl ?_
        refine E_S3 (y := 111) rfl rfl rfl rfl rfl (c_within (by omega) (by omega) (by omega)) (fun r h2 hq => ?_)
        obtain ⟨rfl, hh⟩ := hq
        subst hh
        refine E_if1 rfl (bI_R _) (fun q3 => ?_) (fun q3 => ?_)
        · replace q3 := bI_nz q3
          refine E_load rfl rfl rfl ?_
          refine E_V0 (q := (B b)) (c := (mK h (B b))) (y := 13) rfl rfl (show (B b) < mN h by have := (hR.bot b (by omega)).1.1.1; omega) rfl (by have e := (hR.bot b (by omega)).1.isB; rcases e with e | e | e | e | e | e | e <;> rw [e] <;> rfl) rfl rfl rfl (c_now hR hG (b := b) (by omega)) (fun r h2 hq => ?_)
          obtain ⟨rfl, c_1, hh, hX_1, hE_1⟩ := hq
          subst hh
          have hR_1 := hR.scr hE_1
          refine E_store rfl rfl rfl ?_
          refine E_const rfl ?_
          refine E_store rfl rfl rfl ?_
          refine E_const rfl ?_
          refine E_store rfl rfl rfl ?_
          refine E_const rfl ?_
          refine E_store rfl rfl rfl ?_
          refine (Cl_words hL hG (by omega) hw hy 199 0 rfl _ _ _ (s (1 + b)) ⟨rfl, rfl⟩ c_1 hR_1 (by rw [upd1_self]; exact hX_1)).mono ?_
          rintro r hE ⟨rfl, c9, rfl, e3⟩
          refine qryc ?_ (EqP.trans hE_1 e3)
          unfold a_words
          try simp only [Int.toNat_natCast]
          rw [if_neg (by omega), if_neg (by omega)]
        · replace q3 := bI_z q3
          refine E_const rfl ?_
          refine E_iret rfl (fun h => absurd h (by decide)) ?_
          refine qryc ?_ EqP.nil
          unfold a_words
          try simp only [Int.toNat_natCast]
          first | (exfalso; omega) | (rw [if_pos (by omega)] <;> rfl) | (rw [if_neg (by omega), if_pos (by omega)] <;> rfl) | (rw [if_neg (by omega)] <;> rfl) | (rw [if_neg (by omega), if_neg (by omega), if_pos (by omega)] <;> rfl) | (rw [if_neg (by omega), if_neg (by omega)] <;> rfl) | (rw [if_neg (by omega), if_neg (by omega), if_neg (by omega), if_pos (by omega)] <;> rfl) | (rw [if_neg (by omega), if_neg (by omega), if_neg (by omega)] <;> rfl) | (rw [if_neg (by omega), if_neg (by omega), if_neg (by omega), if_neg (by omega), if_pos (by omega)] <;> rfl) | (rw [if_neg (by omega), if_neg (by omega), if_neg (by omega), if_neg (by omega)] <;> rfl) | (rw [if_neg (by omega), if_neg (by omega), if_neg (by omega), if_neg (by omega), if_neg (by omega), if_pos (by omega)] <;> rfl) | (rw [if_neg (by omega), if_neg (by omega), if_neg (by omega), if_neg (by omega), if_neg (by omega)] <;> rfl) | (rw [if_neg (by omega), if_neg (by omega), if_neg (by omega), if_neg (by omega), if_neg (by omega), if_neg (by omega), if_pos (by omega)] <;> rfl) | (rw [if_neg (by omega), if_neg (by omega), if_neg (by omega), if_neg (by omega), if_neg (by omega), if_neg (by omega)] <;> rfl)
      · replace q2 := bI_z q2
        refine E_const rfl ?_
        refine E_iret rfl (fun h => absurd h (by decide)) ?_
        refine qryc ?_ EqP.nil
        unfold a_words
        try simp only [Int.toNat_natCast]
        first | (exfalso; omega) | (rw [if_pos (by omega)] <;> rfl) | (rw [if_neg (by omega), if_pos (by omega)] <;> rfl) | (rw [if_neg (by omega)] <;> rfl) | (rw [if_neg (by omega), if_neg (by omega), if_pos (by omega)] <;> rfl) | (rw [if_neg (by omega), if_neg (by omega)] <;> rfl) | (rw [if_neg (by omega), if_neg (by omega), if_neg (by omega), if_pos (by omega)] <;> rfl) | (rw [if_neg (by omega), if_neg (by omega), if_neg (by omega)] <;> rfl) | (rw [if_neg (by omega), if_neg (by omega), if_neg (by omega), if_neg (by omega), if_pos (by omega)] <;> rfl) | (rw [if_neg (by omega), if_neg (by omega), if_neg (by omega), if_neg (by omega)] <;> rfl) | (rw [if_neg (by omega), if_neg (by omega), if_neg (by omega), if_neg (by omega), if_neg (by omega), if_pos (by omega)] <;> rfl) | (rw [if_neg (by omega), if_neg (by omega), if_neg (by omega), if_neg (by omega), if_neg (by omega)] <;> rfl) | (rw [if_neg (by omega), if_neg (by omega), if_neg (by omega), if_neg (by omega), if_neg (by omega), if_neg (by omega), if_pos (by omega)] <;> rfl) | (rw [if_neg (by omega), if_neg (by omega), if_neg (by omega), if_neg (by omega), if_neg (by omega), if_neg (by omega)] <;> rfl)
  · refine E_V1 (q := 0) (c := 11) (y := 120) rfl rfl (hL.lt 0 rfl) (hL.k 0 rfl) rfl rfl rfl rfl (c_bN hL hR (by omega) n29.1 hb) (fun r h2 hq => ?_)
    obtain ⟨rfl, hh⟩ := hq
    subst hh
    refine E_store rfl rfl rfl ?_
    refine E_load rfl rfl rfl ?_
    refine E_null0 rfl (fun q4 => ?_) (fun q4 => ?_)
    · refine E_const rfl ?_
      refine E_iret rfl (fun h => absurd h (by decide)) ?_
      refine qryc ?_ EqP.nil
      unfold a_words
      try simp only [Int.toNat_natCast]
      first | (exfalso; omega) | (rw [if_pos (by omega)] <;> rfl) | (rw [if_neg (by omega), if_pos (by omega)] <;> rfl) | (rw [if_neg (by omega)] <;> rfl) | (rw [if_neg (by omega), if_neg (by omega), if_pos (by omega)] <;> rfl) | (rw [if_neg (by omega), if_neg (by omega)] <;> rfl) | (rw [if_neg (by omega), if_neg (by omega), if_neg (by omega), if_pos (by omega)] <;> rfl) | (rw [if_neg (by omega), if_neg (by omega), if_neg (by omega)] <;> rfl) | (rw [if_neg (by omega), if_neg (by omega), if_neg (by omega), if_neg (by omega), if_pos (by omega)] <;> rfl) | (rw [if_neg (by omega), if_neg (by omega), if_neg (by omega), if_neg (by omega)] <;> rfl) | (rw [if_neg (by omega), if_neg (by omega), if_neg (by omega), if_neg (by omega), if_neg (by omega), if_pos (by omega)] <;> rfl) | (rw [if_neg (by omega), if_neg (by omega), if_neg (by omega), if_neg (by omega), if_neg (by omega)] <;> rfl) | (rw [if_neg (by omega), if_neg (by omega), if_neg (by omega), if_neg (by omega), if_neg (by omega), if_neg (by omega), if_pos (by omega)] <;> rfl) | (rw [if_neg (by omega), if_neg (by omega), if_neg (by omega), if_neg (by omega), if_neg (by omega), if_neg (by omega)] <;> rfl)
    · exfalso; omega
set_option maxHeartbeats 4000000 in
set_option maxRecDepth 100000 in
theorem C_as {d : Nat} {h : Hp} {c : Nat → Nat → Int} {B : Nat → Nat} {s im : Nat → Int} {hi : Int} {L : List Int} (hL : Lay h) (hR : RepC h c B s im hi L) (hA : Inv s) {x : Int} (hx : inR x) {k : Int} (hk : inR k) : Ok (d + 14) 107 [(1, ((0 : Nat) : Int)), (0, x), (0, k)] (wC h c) (fun r h2 => r = some (0, a_as s x k) ∧ ∃ c2, h2 = wC h c2 ∧ EqP (ScrP B (s 29)) c c2) := by
  show Ex _ none t_X10_as 0 0 _ [] (wC h c) _
  have hAA := hA
  have hG := hA.G
  obtain ⟨hI, hH, ⟨⟨n29, n30, n31, n32, n33, n34, n36⟩, nM⟩, hX⟩ := hA
  refine E_load rfl rfl rfl ?_
  refine E_load rfl rfl rfl ?_
  rcases Classical.em (0 ≤ x ∧ x < s 29) with hb | hb
  · obtain ⟨b, rfl⟩ := Int.eq_ofNat_of_zero_le hb.1
    have iB := hI b (by omega)
    refine E_V1 (q := 0) (c := 11) (y := 120) rfl rfl (hL.lt 0 rfl) (hL.k 0 rfl) rfl rfl rfl rfl (c_bY hL hR (b := b) (by omega)) (fun r h2 hq => ?_)
    obtain ⟨rfl, hh⟩ := hq
    subst hh
    refine E_store rfl rfl rfl ?_
    refine E_load rfl rfl rfl ?_
    refine E_null0 rfl (fun q1 => ?_) (fun q1 => ?_)
    · exfalso; omega
    · refine E_load rfl rfl rfl ?_
      refine E_const rfl ?_
      refine E_const rfl ?_
      refine E_S3 (y := 111) rfl rfl rfl rfl rfl (c_within (by omega) (by omega) (by omega)) (fun r h2 hq => ?_)
      obtain ⟨rfl, hh⟩ := hq
      subst hh
      refine E_if1 rfl (bI_R _) (fun q2 => ?_) (fun q2 => ?_)
      · replace q2 := bI_nz q2
        refine E_load rfl rfl rfl ?_
        refine E_load rfl rfl rfl ?_
        refine E_getfB (x := (s (37 + b))) rfl (show (B b) < mN h by have := (hR.bot b (by omega)).1.1.1; omega) (hR.bot b (by omega)).1.isB rfl ((hR.bot b (by omega)).1.2.1.1) ?_
        refine E_cmp0 rfl (by omega) (fun q3 => ?_) (fun q3 => ?_)
        · refine E_const rfl ?_
          refine E_goto rfl ?_
          refine E_store rfl rfl rfl ?_
          refine E_load rfl rfl rfl ?_
          refine E_if0 rfl (by omega) (fun q4 => ?_) (fun q4 => ?_)
          · exfalso; omega
          · refine E_load rfl rfl rfl ?_
            refine E_getrB (r := (B b + 1)) rfl (show (B b) < mN h by have := (hR.bot b (by omega)).1.1.1; omega) (hR.bot b (by omega)).1.isB rfl ((hR.bot b (by omega)).1.2.1.2.2.2.1) ?_
            refine E_getf (c := 6) (v := (0, (s (43 + b)))) rfl (show (B b + 1) < mN h by have := (hR.bot b (by omega)).1.1.1; omega) (hR.bot b (by omega)).1.2.2.1.2.1 rfl (fv ((hR.bot b (by omega)).2.1.1.1)) ?_
            refine E_goto rfl ?_
            refine E_iret rfl (fun h => absurd h (by decide)) ?_
            refine qryc ?_ EqP.nil
            unfold a_as isUn
            try simp only [Int.toNat_natCast]
            first | (rw [if_pos (by omega)]; done) | (rw [if_neg (by omega), if_pos (by omega)] <;> rfl) | (rw [if_neg (by omega), if_neg (by omega)] <;> rfl)
        · refine E_load rfl rfl rfl ?_
          refine E_load rfl rfl rfl ?_
          refine E_getfB (x := (s (37 + b))) rfl (show (B b) < mN h by have := (hR.bot b (by omega)).1.1.1; omega) (hR.bot b (by omega)).1.isB rfl ((hR.bot b (by omega)).1.2.1.1) ?_
          refine E_S1 (y := 115) rfl rfl rfl rfl rfl (c_above (by omega)) (fun r h2 hq => ?_)
          obtain ⟨rfl, hh⟩ := hq
          subst hh
          have hka : (if 3 < s (37 + b) then s (37 + b) - 3 else 0) = s (37 + b) - 3 ∨ ((if 3 < s (37 + b) then s (37 + b) - 3 else 0) = 0 ∧ s (37 + b) ≤ 3) := by split <;> omega
          refine E_cmp0 rfl (by constructor <;> (first | omega | (split <;> omega))) (fun q5 => ?_) (fun q5 => ?_)
          · refine E_const rfl ?_
            refine E_goto rfl ?_
            refine E_store rfl rfl rfl ?_
            refine E_load rfl rfl rfl ?_
            refine E_if0 rfl (by omega) (fun q6 => ?_) (fun q6 => ?_)
            · exfalso; omega
            · refine E_load rfl rfl rfl ?_
              refine E_getrB (r := (B b + 1)) rfl (show (B b) < mN h by have := (hR.bot b (by omega)).1.1.1; omega) (hR.bot b (by omega)).1.isB rfl ((hR.bot b (by omega)).1.2.1.2.2.2.1) ?_
              refine E_getf (c := 6) (v := (0, (s (43 + b)))) rfl (show (B b + 1) < mN h by have := (hR.bot b (by omega)).1.1.1; omega) (hR.bot b (by omega)).1.2.2.1.2.1 rfl (fv ((hR.bot b (by omega)).2.1.1.1)) ?_
              refine E_goto rfl ?_
              refine E_iret rfl (fun h => absurd h (by decide)) ?_
              refine qryc ?_ EqP.nil
              unfold a_as isUn
              try simp only [Int.toNat_natCast]
              first | (rw [if_pos (by omega)]; done) | (rw [if_neg (by omega), if_pos (by omega)] <;> rfl) | (rw [if_neg (by omega), if_neg (by omega)] <;> rfl)
          · refine E_load rfl rfl rfl ?_
            refine E_if1 rfl (by omega) (fun q7 => ?_) (fun q7 => ?_)
            · refine E_const rfl ?_
              refine E_store rfl rfl rfl ?_
              refine E_load rfl rfl rfl ?_
              refine E_if0 rfl (by omega) (fun q8 => ?_) (fun q8 => ?_)
              · refine E_const rfl ?_
                refine E_iret rfl (fun h => absurd h (by decide)) ?_
                refine qryc ?_ EqP.nil
                unfold a_as isUn
                try simp only [Int.toNat_natCast]
                first | (rw [if_pos (by omega)]; done) | (rw [if_neg (by omega), if_pos (by omega)] <;> rfl) | (rw [if_neg (by omega), if_neg (by omega)] <;> rfl)
              · exfalso; omega
            · refine E_const rfl ?_
              refine E_goto rfl ?_
              refine E_store rfl rfl rfl ?_
              refine E_load rfl rfl rfl ?_
              refine E_if0 rfl (by omega) (fun q9 => ?_) (fun q9 => ?_)
              · exfalso; omega
              · refine E_load rfl rfl rfl ?_
                refine E_getrB (r := (B b + 1)) rfl (show (B b) < mN h by have := (hR.bot b (by omega)).1.1.1; omega) (hR.bot b (by omega)).1.isB rfl ((hR.bot b (by omega)).1.2.1.2.2.2.1) ?_
                refine E_getf (c := 6) (v := (0, (s (43 + b)))) rfl (show (B b + 1) < mN h by have := (hR.bot b (by omega)).1.1.1; omega) (hR.bot b (by omega)).1.2.2.1.2.1 rfl (fv ((hR.bot b (by omega)).2.1.1.1)) ?_
                refine E_goto rfl ?_
                refine E_iret rfl (fun h => absurd h (by decide)) ?_
                refine qryc ?_ EqP.nil
                unfold a_as isUn
                try simp only [Int.toNat_natCast]
                first | (rw [if_pos (by omega)]; done) | (rw [if_neg (by omega), if_pos (by omega)] <;> rfl) | (rw [if_neg (by omega), if_neg (by omega)] <;> rfl)
      · replace q2 := bI_z q2
        refine E_const rfl ?_
        refine E_iret rfl (fun h => absurd h (by decide)) ?_
        refine qryc ?_ EqP.nil
        unfold a_as isUn
        try simp only [Int.toNat_natCast]
        first | (rw [if_pos (by omega)]; done) | (rw [if_neg (by omega), if_pos (by omega)] <;> rfl) | (rw [if_neg (by omega), if_neg (by omega)] <;> rfl)
  · refine E_V1 (q := 0) (c := 11) (y := 120) rfl rfl (hL.lt 0 rfl) (hL.k 0 rfl) rfl rfl rfl rfl (c_bN hL hR (by omega) n29.1 hb) (fun r h2 hq => ?_)
    obtain ⟨rfl, hh⟩ := hq
    subst hh
    refine E_store rfl rfl rfl ?_
    refine E_load rfl rfl rfl ?_
    refine E_null0 rfl (fun q10 => ?_) (fun q10 => ?_)
    · refine E_const rfl ?_
      refine E_iret rfl (fun h => absurd h (by decide)) ?_
      refine qryc ?_ EqP.nil
      unfold a_as isUn
      try simp only [Int.toNat_natCast]
      first | (rw [if_pos (by omega)]; done) | (rw [if_neg (by omega), if_pos (by omega)] <;> rfl) | (rw [if_neg (by omega), if_neg (by omega)] <;> rfl)
    · exfalso; omega
set_option maxHeartbeats 4000000 in
set_option maxRecDepth 100000 in
theorem C_count {d : Nat} {h : Hp} {c : Nat → Nat → Int} {B : Nat → Nat} {s im : Nat → Int} {hi : Int} {L : List Int} (hL : Lay h) (hR : RepC h c B s im hi L) (hA : Inv s) {w : Int} (hw : inR w) : Ok (d + 14) 110 [(1, ((0 : Nat) : Int)), (0, w)] (wC h c) (fun r h2 => r = some (0, a_count s (L.length : Int) w) ∧ ∃ c2, h2 = wC h c2 ∧ EqP (ScrP B (s 29)) c c2) := by
  show Ex _ none t_X10_count 0 0 _ [] (wC h c) _
  have hAA := hA
  have hG := hA.G
  obtain ⟨hI, hH, ⟨⟨n29, n30, n31, n32, n33, n34, n36⟩, nM⟩, hX⟩ := hA
  refine E_load rfl rfl rfl ?_
  rcases (show w = 0 ∨ w = 1 ∨ w = 2 ∨ w = 3 ∨ w = 4 ∨ w = 5 ∨ w = 6 ∨ w = 7 ∨ (w ≠ 0 ∧ w ≠ 1 ∧ w ≠ 2 ∧ w ≠ 3 ∧ w ≠ 4 ∧ w ≠ 5 ∧ w ≠ 6 ∧ w ≠ 7) by omega) with rfl | rfl | rfl | rfl | rfl | rfl | rfl | rfl | hno
  · refine E_sw (t := 48) rfl (by omega) (rfl) ?_
    refine E_load rfl rfl rfl ?_
    refine E_getr (c := 11) (r := 42) rfl (hL.lt 0 rfl) (hL.k 0 rfl) rfl (hR.C.g 0 11 42 (by decide)) ?_
    refine E_V0 (q := 42) (c := 0) (y := 3) rfl rfl (hL.lt 42 rfl) (hL.k 42 rfl) rfl rfl rfl rfl (j_size hL hR.list) (fun r h2 hq => ?_)
    obtain ⟨rfl, hh⟩ := hq
    subst hh
    refine E_iret rfl (fun h => absurd h (by decide)) ?_
    refine qryc ?_ EqP.nil
    unfold a_count
    first | rfl | (rw [if_neg (by omega), if_neg (by omega), if_neg (by omega)]; done) | (show s 29 = _; omega)
  · refine E_sw (t := 58) rfl (by omega) (rfl) ?_
    refine E_load rfl rfl rfl ?_
    refine E_getf (c := 11) (v := (0, (s 30))) rfl (hL.lt 0 rfl) (hL.k 0 rfl) rfl (fv (hR.cellars)) ?_
    refine E_iret rfl (fun h => absurd h (by decide)) ?_
    refine qryc ?_ EqP.nil
    unfold a_count
    first | rfl | (rw [if_neg (by omega), if_neg (by omega), if_neg (by omega)]; done) | (show s 29 = _; omega)
  · refine E_sw (t := 63) rfl (by omega) (rfl) ?_
    refine E_load rfl rfl rfl ?_
    refine E_getr (c := 11) (r := 10) rfl (hL.lt 0 rfl) (hL.k 0 rfl) rfl (hR.C.g 0 3 10 (by decide)) ?_
    refine E_getf (c := 8) (v := (0, (s 31))) rfl (hL.lt 10 rfl) (hL.k 10 rfl) rfl (fv (hR.seen.1)) ?_
    refine E_iret rfl (fun h => absurd h (by decide)) ?_
    refine qryc ?_ EqP.nil
    unfold a_count
    first | rfl | (rw [if_neg (by omega), if_neg (by omega), if_neg (by omega)]; done) | (show s 29 = _; omega)
  · refine E_sw (t := 71) rfl (by omega) (rfl) ?_
    refine E_load rfl rfl rfl ?_
    refine E_getr (c := 11) (r := 13) rfl (hL.lt 0 rfl) (hL.k 0 rfl) rfl (hR.C.g 0 4 13 (by decide)) ?_
    refine E_getf (c := 8) (v := (0, (s 32))) rfl (hL.lt 13 rfl) (hL.k 13 rfl) rfl (fv (hR.eve.1)) ?_
    refine E_iret rfl (fun h => absurd h (by decide)) ?_
    refine qryc ?_ EqP.nil
    unfold a_count
    first | rfl | (rw [if_neg (by omega), if_neg (by omega), if_neg (by omega)]; done) | (show s 29 = _; omega)
  · refine E_sw (t := 79) rfl (by omega) (rfl) ?_
    refine E_load rfl rfl rfl ?_
    refine E_getr (c := 11) (r := 16) rfl (hL.lt 0 rfl) (hL.k 0 rfl) rfl (hR.C.g 0 5 16 (by decide)) ?_
    refine E_getf (c := 8) (v := (0, (s 33))) rfl (hL.lt 16 rfl) (hL.k 16 rfl) rfl (fv (hR.book.1)) ?_
    refine E_iret rfl (fun h => absurd h (by decide)) ?_
    refine qryc ?_ EqP.nil
    unfold a_count
    first | rfl | (rw [if_neg (by omega), if_neg (by omega), if_neg (by omega)]; done) | (show s 29 = _; omega)
  · refine E_sw (t := 87) rfl (by omega) (rfl) ?_
    refine E_load rfl rfl rfl ?_
    refine E_getr (c := 11) (r := 1) rfl (hL.lt 0 rfl) (hL.k 0 rfl) rfl (hR.C.g 0 0 1 (by decide)) ?_
    refine E_getf (c := 8) (v := (0, (s 34))) rfl (hL.lt 1 rfl) (hL.k 1 rfl) rfl (fv (hR.tape.1)) ?_
    refine E_iret rfl (fun h => absurd h (by decide)) ?_
    refine qryc ?_ EqP.nil
    unfold a_count
    first | rfl | (rw [if_neg (by omega), if_neg (by omega), if_neg (by omega)]; done) | (show s 29 = _; omega)
  · refine E_sw (t := 95) rfl (by omega) (rfl) ?_
    refine E_load rfl rfl rfl ?_
    refine E_getr (c := 11) (r := 19) rfl (hL.lt 0 rfl) (hL.k 0 rfl) rfl (hR.C.g 0 6 19 (by decide)) ?_
    refine E_getf (c := 8) (v := (0, (L.length : Int))) rfl (hL.lt 19 rfl) (hL.k 19 rfl) rfl (fv (hR.bod.1)) ?_
    refine E_iret rfl (fun h => absurd h (by decide)) ?_
    refine qryc ?_ EqP.nil
    unfold a_count
    first | rfl | (rw [if_neg (by omega), if_neg (by omega), if_neg (by omega)]; done) | (show s 29 = _; omega)
  · refine E_sw (t := 103) rfl (by omega) (rfl) ?_
    refine E_load rfl rfl rfl ?_
    refine E_getr (c := 11) (r := 4) rfl (hL.lt 0 rfl) (hL.k 0 rfl) rfl (hR.C.g 0 1 4 (by decide)) ?_
    refine E_getf (c := 8) (v := (0, (s 36))) rfl (hL.lt 4 rfl) (hL.k 4 rfl) rfl (fv (hR.mood.1)) ?_
    refine E_iret rfl (fun h => absurd h (by decide)) ?_
    refine qryc ?_ EqP.nil
    unfold a_count
    first | rfl | (rw [if_neg (by omega), if_neg (by omega), if_neg (by omega)]; done) | (show s 29 = _; omega)
  · refine E_sw (t := 111) rfl (by omega) (by simp only [List.lookup]; (repeat' split) <;> first | rfl | (exfalso; simp at *; omega)) ?_
    refine E_const rfl ?_
    refine E_iret rfl (fun h => absurd h (by decide)) ?_
    refine qryc ?_ EqP.nil
    unfold a_count
    first | rfl | (rw [if_neg (by omega), if_neg (by omega), if_neg (by omega)]; done) | (show s 29 = _; omega)
set_option maxHeartbeats 4000000 in
set_option maxRecDepth 100000 in
theorem C_trace {d : Nat} {h : Hp} {c : Nat → Nat → Int} {B : Nat → Nat} {s im : Nat → Int} {hi : Int} {L : List Int} (hl20 : L.length ≤ 20) (hL : Lay h) (hR : RepC h c B s im hi L) (hA : Inv s) {x : Int} (hx : inR x) : Ok (d + 14) 106 [(1, ((0 : Nat) : Int)), (0, x)] (wC h c) (fun r h2 => r = some (0, a_trace L x) ∧ ∃ c2, h2 = wC h c2 ∧ EqP (ScrP B (s 29)) c c2) := by
  show Ex _ none t_X10_trace 0 0 _ [] (wC h c) _
  have hAA := hA
  have hG := hA.G
  obtain ⟨hI, hH, ⟨⟨n29, n30, n31, n32, n33, n34, n36⟩, nM⟩, hX⟩ := hA
  have hl : L.length ≤ 20 := hl20
  refine E_load rfl rfl rfl ?_
  refine E_const rfl ?_
  refine E_load rfl rfl rfl ?_
  refine E_getr (c := 11) (r := 19) rfl (hL.lt 0 rfl) (hL.k 0 rfl) rfl (hR.C.g 0 6 19 (by decide)) ?_
  refine E_getf (c := 8) (v := (0, (L.length : Int))) rfl (hL.lt 19 rfl) (hL.k 19 rfl) rfl (fv (hR.bod.1)) ?_
  refine E_const rfl ?_
  refine E_sub rfl ?_
  refine E_S3 (y := 111) rfl rfl rfl rfl rfl (c_within (by omega) (by omega) (by omega)) (fun r h2 hq => ?_)
  obtain ⟨rfl, hh⟩ := hq
  subst hh
  refine E_if0 rfl (bI_R _) (fun q1 => ?_) (fun q1 => ?_)
  · replace q1 := bI_z q1
    refine E_const rfl ?_
    refine E_iret rfl (fun h => absurd h (by decide)) ?_
    refine qryc ?_ EqP.nil
    unfold a_trace
    try simp only [Int.toNat_natCast]
    first | (exfalso; omega) | (rw [if_pos (by omega)] <;> rfl) | (rw [if_neg (by omega), if_pos (by omega)] <;> rfl) | (rw [if_neg (by omega)] <;> rfl) | (rw [if_neg (by omega), if_neg (by omega), if_pos (by omega)] <;> rfl) | (rw [if_neg (by omega), if_neg (by omega)] <;> rfl) | (rw [if_neg (by omega), if_neg (by omega), if_neg (by omega), if_pos (by omega)] <;> rfl) | (rw [if_neg (by omega), if_neg (by omega), if_neg (by omega)] <;> rfl) | (rw [if_neg (by omega), if_neg (by omega), if_neg (by omega), if_neg (by omega), if_pos (by omega)] <;> rfl) | (rw [if_neg (by omega), if_neg (by omega), if_neg (by omega), if_neg (by omega)] <;> rfl) | (rw [if_neg (by omega), if_neg (by omega), if_neg (by omega), if_neg (by omega), if_neg (by omega), if_pos (by omega)] <;> rfl) | (rw [if_neg (by omega), if_neg (by omega), if_neg (by omega), if_neg (by omega), if_neg (by omega)] <;> rfl) | (rw [if_neg (by omega), if_neg (by omega), if_neg (by omega), if_neg (by omega), if_neg (by omega), if_neg (by omega), if_pos (by omega)] <;> rfl) | (rw [if_neg (by omega), if_neg (by omega), if_neg (by omega), if_neg (by omega), if_neg (by omega), if_neg (by omega)] <;> rfl)
  · replace q1 := bI_nz q1
    obtain ⟨k, rfl⟩ := Int.eq_ofNat_of_zero_le q1.1
    refine E_load rfl rfl rfl ?_
    refine E_getr (c := 11) (r := 19) rfl (hL.lt 0 rfl) (hL.k 0 rfl) rfl (hR.C.g 0 6 19 (by decide)) ?_
    refine E_load rfl rfl rfl ?_
    refine E_const rfl ?_
    refine E_V2 (q := 19) (c := 8) (y := 60) rfl rfl (hL.lt 19 rfl) (hL.k 19 rfl) rfl rfl rfl rfl (s_atv (sh19 hL hR.C) (by decide) (by decide) (by omega) (by omega) (by rw [hR.bod.1]; omega) (by rw [hR.bod.1]; omega) (atM (by rw [hR.bod.1]; omega) (hR.bod.2 k (by omega)))) (fun r h2 hq => ?_)
    obtain ⟨rfl, hh⟩ := hq
    subst hh
    refine E_goto rfl ?_
    refine E_iret rfl (fun h => absurd h (by decide)) ?_
    refine qryc ?_ EqP.nil
    unfold a_trace
    try simp only [Int.toNat_natCast]
    first | (exfalso; omega) | (rw [if_pos (by omega)] <;> rfl) | (rw [if_neg (by omega), if_pos (by omega)] <;> rfl) | (rw [if_neg (by omega)] <;> rfl) | (rw [if_neg (by omega), if_neg (by omega), if_pos (by omega)] <;> rfl) | (rw [if_neg (by omega), if_neg (by omega)] <;> rfl) | (rw [if_neg (by omega), if_neg (by omega), if_neg (by omega), if_pos (by omega)] <;> rfl) | (rw [if_neg (by omega), if_neg (by omega), if_neg (by omega)] <;> rfl) | (rw [if_neg (by omega), if_neg (by omega), if_neg (by omega), if_neg (by omega), if_pos (by omega)] <;> rfl) | (rw [if_neg (by omega), if_neg (by omega), if_neg (by omega), if_neg (by omega)] <;> rfl) | (rw [if_neg (by omega), if_neg (by omega), if_neg (by omega), if_neg (by omega), if_neg (by omega), if_pos (by omega)] <;> rfl) | (rw [if_neg (by omega), if_neg (by omega), if_neg (by omega), if_neg (by omega), if_neg (by omega)] <;> rfl) | (rw [if_neg (by omega), if_neg (by omega), if_neg (by omega), if_neg (by omega), if_neg (by omega), if_neg (by omega), if_pos (by omega)] <;> rfl) | (rw [if_neg (by omega), if_neg (by omega), if_neg (by omega), if_neg (by omega), if_neg (by omega), if_neg (by omega)] <;> rfl)
set_option maxHeartbeats 4000000 in
set_option maxRecDepth 100000 in
theorem Cl_whose {d : Nat} {h : Hp} {B : Nat → Nat} {s im : Nat → Int} {hi : Int} {L : List Int} (hL : Lay h) (hG : InvG s) {m : Nat} (hm : m ≤ 100) {y : Int} (hy : inR y) : ∀ (n i : Nat), i + n = (s 29).toNat → ∀ (a : Int) (v5 : AV), a = orL (fun b => decide (syS (goN s m) b = y)) i → ∀ c, RepC h c B s im hi L → Ex (d + 12) none t_X10_whose 0 31 [(1, ((0 : Nat) : Int)), (0, y), (0, (m : Int)), (0, a), (0, (i : Int)), v5] [] (wC h c) (fun r h2 => r = some (0, orL (fun b => decide (syS (goN s m) b = y)) (s 29).toNat) ∧ ∃ c2, h2 = wC h c2 ∧ EqP (ScrP B (s 29)) c c2) := by
  have hGG := hG
  obtain ⟨hI, hH, ⟨⟨n29, n30, n31, n32, n33, n34, n36⟩, nM⟩⟩ := hGG
  intro n
  induction n with
  | zero =>
    intro i hin a v5 ha c hR 
    refine E_load rfl rfl rfl ?_
    refine E_load rfl rfl rfl ?_
    refine E_getr (c := 11) (r := 42) rfl (hL.lt 0 rfl) (hL.k 0 rfl) rfl (hR.C.g 0 11 42 (by decide)) ?_
    refine E_V0 (q := 42) (c := 0) (y := 3) rfl rfl (hL.lt 42 rfl) (hL.k 42 rfl) rfl rfl rfl rfl (j_size hL hR.list) (fun r h2 hq => ?_)
    obtain ⟨rfl, hh⟩ := hq
    subst hh
    refine E_cmp3 rfl (by omega) (fun q1 => ?_) (fun q1 => ?_)
    · refine E_load rfl rfl rfl ?_
      refine E_iret rfl (fun h => absurd h (by decide)) ?_
      exact ⟨by rw [ha, show i = (s 29).toNat by omega], c, rfl, EqP.nil⟩
    · exfalso; omega
  | succ n ih =>
    intro i hin a v5 ha c hR 
    refine E_load rfl rfl rfl ?_
    refine E_load rfl rfl rfl ?_
    refine E_getr (c := 11) (r := 42) rfl (hL.lt 0 rfl) (hL.k 0 rfl) rfl (hR.C.g 0 11 42 (by decide)) ?_
    refine E_V0 (q := 42) (c := 0) (y := 3) rfl rfl (hL.lt 42 rfl) (hL.k 42 rfl) rfl rfl rfl rfl (j_size hL hR.list) (fun r h2 hq => ?_)
    obtain ⟨rfl, hh⟩ := hq
    subst hh
    refine E_cmp3 rfl (by omega) (fun q1 => ?_) (fun q1 => ?_)
    · exfalso; omega
    · have hbs := (hG.goN m).bs (b := i) (by omega)
      refine E_load rfl rfl rfl ?_
      refine E_getr (c := 11) (r := 42) rfl (hL.lt 0 rfl) (hL.k 0 rfl) rfl (hR.C.g 0 11 42 (by decide)) ?_
      refine E_load rfl rfl rfl ?_
      refine E_V1 (q := 42) (c := 0) (y := 5) rfl rfl (hL.lt 42 rfl) (hL.k 42 rfl) rfl rfl rfl rfl (j_get hL hR.list (by omega)) (fun r h2 hq => ?_)
      obtain ⟨rfl, hh⟩ := hq
      subst hh
      refine E_castB rfl (show (B i) < mN h by have := (hR.bot i (by omega)).1.1.1; omega) (hR.bot i (by omega)).1.isB ?_
      refine E_store rfl rfl rfl ?_
      refine E_load rfl rfl rfl ?_
      refine E_load rfl rfl rfl ?_
      refine E_load rfl rfl rfl ?_
      refine E_load rfl rfl rfl ?_
      refine E_V1 (q := (B i)) (c := (mK h (B i))) (y := 14) rfl rfl (show (B i) < mN h by have := (hR.bot i (by omega)).1.1.1; omega) rfl (by have e := (hR.bot i (by omega)).1.isB; rcases e with e | e | e | e | e | e | e <;> rw [e] <;> rfl) rfl rfl rfl (c_beh hR hG (b := i) (by omega) (by omega)) (fun r h2 hq => ?_)
      obtain ⟨rfl, c_1, hh, hX_1, hE_1⟩ := hq
      subst hh
      have hR_1 := hR.scr hE_1
      refine E_V2 (q := 0) (c := 11) (y := 122) rfl rfl (hL.lt 0 rfl) (hL.k 0 rfl) rfl rfl rfl rfl (c_sayT hL hR_1 hG (hG.goN m) (b := i) (by omega) hX_1 (fun k hk _ => goN_hi hG hk _) (goN_hi hG (by omega) _)) (fun r h2 hq => ?_)
      obtain ⟨rfl, hh⟩ := hq
      subst hh
      refine E_load rfl rfl rfl ?_
      refine E_cmp1 rfl (by omega) (fun q2 => ?_) (fun q2 => ?_)
      · refine E_iinc rfl rfl rfl ?_
        refine E_goto rfl ?_
        refine (ih (i + 1) (by omega) _ _ (by rw [ha]; exact (mBit_0 (orL_R _ _)).symm.trans (orL_f (decide_eq_false (by omega)))) c_1 hR_1).mono ?_
        rintro r hE ⟨e1, c9, e2, e3⟩
        exact ⟨e1, c9, e2, EqP.trans hE_1 e3⟩
      · refine E_load rfl rfl rfl ?_
        refine E_const rfl ?_
        refine E_load rfl rfl rfl ?_
        refine E_bit (z := (mBit 8 1 ((i : Nat) : Int))) rfl rfl rfl ?_
        refine E_bit (z := (mBit 6 a (mBit 8 1 ((i : Nat) : Int)))) rfl rfl rfl ?_
        refine E_store rfl rfl rfl ?_
        refine E_iinc rfl rfl rfl ?_
        refine E_goto rfl ?_
        refine (ih (i + 1) (by omega) _ _ (by rw [ha]; exact orL_t (decide_eq_true (by omega))) c_1 hR_1).mono ?_
        rintro r hE ⟨e1, c9, e2, e3⟩
        exact ⟨e1, c9, e2, EqP.trans hE_1 e3⟩
set_option maxHeartbeats 4000000 in
set_option maxRecDepth 100000 in
theorem C_whose {d : Nat} {h : Hp} {c : Nat → Nat → Int} {B : Nat → Nat} {s im : Nat → Int} {hi : Int} {L : List Int} (hL : Lay h) (hR : RepC h c B s im hi L) (hA : Inv s) {y : Int} (hy : inR y) {n : Int} (hn : inR n) : Ok (d + 14) 98 [(1, ((0 : Nat) : Int)), (0, y), (0, n)] (wC h c) (fun r h2 => r = some (0, a_whose s y n) ∧ ∃ c2, h2 = wC h c2 ∧ EqP (ScrP B (s 29)) c c2) := by
  show Ex _ none t_X10_whose 0 0 _ [] (wC h c) _
  have hAA := hA
  have hG := hA.G
  obtain ⟨hI, hH, ⟨⟨n29, n30, n31, n32, n33, n34, n36⟩, nM⟩, hX⟩ := hA
  refine E_load rfl rfl rfl ?_
  refine E_const rfl ?_
  refine E_const rfl ?_
  refine E_S3 (y := 111) rfl rfl rfl rfl rfl (c_within (by omega) (by omega) (by omega)) (fun r h2 hq => ?_)
  obtain ⟨rfl, hh⟩ := hq
  subst hh
  refine E_if0 rfl (bI_R _) (fun q1 => ?_) (fun q1 => ?_)
  · replace q1 := bI_z q1
    refine E_const rfl ?_
    refine E_iret rfl (fun h => absurd h (by decide)) ?_
    refine qryc ?_ EqP.nil
    unfold a_whose
    try simp only [Int.toNat_natCast]
    first | (exfalso; omega) | (rw [if_pos (by omega)] <;> rfl) | (rw [if_neg (by omega), if_pos (by omega)] <;> rfl) | (rw [if_neg (by omega)] <;> rfl) | (rw [if_neg (by omega), if_neg (by omega), if_pos (by omega)] <;> rfl) | (rw [if_neg (by omega), if_neg (by omega)] <;> rfl) | (rw [if_neg (by omega), if_neg (by omega), if_neg (by omega), if_pos (by omega)] <;> rfl) | (rw [if_neg (by omega), if_neg (by omega), if_neg (by omega)] <;> rfl) | (rw [if_neg (by omega), if_neg (by omega), if_neg (by omega), if_neg (by omega), if_pos (by omega)] <;> rfl) | (rw [if_neg (by omega), if_neg (by omega), if_neg (by omega), if_neg (by omega)] <;> rfl) | (rw [if_neg (by omega), if_neg (by omega), if_neg (by omega), if_neg (by omega), if_neg (by omega), if_pos (by omega)] <;> rfl) | (rw [if_neg (by omega), if_neg (by omega), if_neg (by omega), if_neg (by omega), if_neg (by omega)] <;> rfl) | (rw [if_neg (by omega), if_neg (by omega), if_neg (by omega), if_neg (by omega), if_neg (by omega), if_neg (by omega), if_pos (by omega)] <;> rfl) | (rw [if_neg (by omega), if_neg (by omega), if_neg (by omega), if_neg (by omega), if_neg (by omega), if_neg (by omega)] <;> rfl)
  · replace q1 := bI_nz q1
    refine E_load rfl rfl rfl ?_
    refine E_const rfl ?_
    refine E_const rfl ?_
    refine E_S3 (y := 111) rfl rfl rfl rfl rfl (c_within (by omega) (by omega) (by omega)) (fun r h2 hq => ?_)
    obtain ⟨rfl, hh⟩ := hq
    subst hh
    refine E_if1 rfl (bI_R _) (fun q2 => ?_) (fun q2 => ?_)
    · replace q2 := bI_nz q2
      obtain ⟨m, rfl⟩ := Int.eq_ofNat_of_zero_le q2.1
      refine E_const rfl ?_
      refine E_store rfl rfl rfl ?_
      refine E_const rfl ?_
      refine E_store rfl rfl rfl ?_
      refine (Cl_whose hL hG (by omega) hy _ 0 (Nat.zero_add _) 0 _ rfl c hR).mono ?_
      rintro r hE ⟨rfl, c9, rfl, e3⟩
      refine qryc ?_ (EqP.trans EqP.nil e3)
      unfold a_whose
      try simp only [Int.toNat_natCast]
      rw [if_neg (by omega)]
    · replace q2 := bI_z q2
      refine E_const rfl ?_
      refine E_iret rfl (fun h => absurd h (by decide)) ?_
      refine qryc ?_ EqP.nil
      unfold a_whose
      try simp only [Int.toNat_natCast]
      first | (exfalso; omega) | (rw [if_pos (by omega)] <;> rfl) | (rw [if_neg (by omega), if_pos (by omega)] <;> rfl) | (rw [if_neg (by omega)] <;> rfl) | (rw [if_neg (by omega), if_neg (by omega), if_pos (by omega)] <;> rfl) | (rw [if_neg (by omega), if_neg (by omega)] <;> rfl) | (rw [if_neg (by omega), if_neg (by omega), if_neg (by omega), if_pos (by omega)] <;> rfl) | (rw [if_neg (by omega), if_neg (by omega), if_neg (by omega)] <;> rfl) | (rw [if_neg (by omega), if_neg (by omega), if_neg (by omega), if_neg (by omega), if_pos (by omega)] <;> rfl) | (rw [if_neg (by omega), if_neg (by omega), if_neg (by omega), if_neg (by omega)] <;> rfl) | (rw [if_neg (by omega), if_neg (by omega), if_neg (by omega), if_neg (by omega), if_neg (by omega), if_pos (by omega)] <;> rfl) | (rw [if_neg (by omega), if_neg (by omega), if_neg (by omega), if_neg (by omega), if_neg (by omega)] <;> rfl) | (rw [if_neg (by omega), if_neg (by omega), if_neg (by omega), if_neg (by omega), if_neg (by omega), if_neg (by omega), if_pos (by omega)] <;> rfl) | (rw [if_neg (by omega), if_neg (by omega), if_neg (by omega), if_neg (by omega), if_neg (by omega), if_neg (by omega)] <;> rfl)
set_option maxHeartbeats 4000000 in
set_option maxRecDepth 100000 in
theorem Cl_looked {d : Nat} {h : Hp} {B : Nat → Nat} {s im : Nat → Int} {hi : Int} {L : List Int} (hL : Lay h) (hG : InvG s) (hX : InvX s) : ∀ (n i : Nat), i + n = (s 33).toNat → ∀ (v2 : AV), ∀ c, RepC h c B s im hi L → Ex (d + 12) none t_X10_looked 0 2 [(1, ((0 : Nat) : Int)), (0, (i : Int)), v2] [] (wC h c) (fun r h2 => r = some (0, lkF s i n) ∧ ∃ c2, h2 = wC h c2 ∧ EqP (ScrP B (s 29)) c c2) := by
  have hGG := hG
  obtain ⟨hI, hH, ⟨⟨n29, n30, n31, n32, n33, n34, n36⟩, nM⟩⟩ := hGG
  intro n
  induction n with
  | zero =>
    intro i hin v2  c hR 
    refine E_load rfl rfl rfl ?_
    refine E_load rfl rfl rfl ?_
    refine E_getr (c := 11) (r := 16) rfl (hL.lt 0 rfl) (hL.k 0 rfl) rfl (hR.C.g 0 5 16 (by decide)) ?_
    refine E_getf (c := 8) (v := (0, (s 33))) rfl (hL.lt 16 rfl) (hL.k 16 rfl) rfl (fv (hR.book.1)) ?_
    refine E_cmp3 rfl (by omega) (fun q1 => ?_) (fun q1 => ?_)
    · refine E_const rfl ?_
      refine E_iret rfl (fun h => absurd h (by decide)) ?_
      exact ⟨rfl, c, rfl, EqP.nil⟩
    · exfalso; omega
  | succ n ih =>
    intro i hin v2  c hR 
    refine E_load rfl rfl rfl ?_
    refine E_load rfl rfl rfl ?_
    refine E_getr (c := 11) (r := 16) rfl (hL.lt 0 rfl) (hL.k 0 rfl) rfl (hR.C.g 0 5 16 (by decide)) ?_
    refine E_getf (c := 8) (v := (0, (s 33))) rfl (hL.lt 16 rfl) (hL.k 16 rfl) rfl (fv (hR.book.1)) ?_
    refine E_cmp3 rfl (by omega) (fun q1 => ?_) (fun q1 => ?_)
    · exfalso; omega
    · obtain ⟨x1, x2⟩ := hX.2.2.2.2.2 i (by omega)
      obtain ⟨b, hb⟩ := Int.eq_ofNat_of_zero_le x1.1
      have hy := hG.bs (b := b) (by omega)
      have hbn : (s (112 + i)).toNat = b := by omega
      refine E_load rfl rfl rfl ?_
      refine E_load rfl rfl rfl ?_
      refine E_getr (c := 11) (r := 16) rfl (hL.lt 0 rfl) (hL.k 0 rfl) rfl (hR.C.g 0 5 16 (by decide)) ?_
      refine E_load rfl rfl rfl ?_
      refine E_const rfl ?_
      refine E_V2 (q := 16) (c := 8) (y := 60) rfl rfl (hL.lt 16 rfl) (hL.k 16 rfl) rfl rfl rfl rfl (s_atv (v := ((b : Nat) : Int)) (sh16 hL hR.C) (by decide) (by decide) (by omega) (by omega) (by rw [hR.book.1]; omega) (by rw [hR.book.1]; omega) (atS_of (w := 2) (k := 0) (by rw [hR.book.1]; omega) (by decide) (by rw [Nat.mul_comm i 2]; exact (hR.book.2 i (by omega)).1.trans hb))) (fun r h2 hq => ?_)
      obtain ⟨rfl, hh⟩ := hq
      subst hh
      refine E_V1 (q := 0) (c := 11) (y := 120) rfl rfl (hL.lt 0 rfl) (hL.k 0 rfl) rfl rfl rfl rfl (c_bY hL hR (b := b) (by omega)) (fun r h2 hq => ?_)
      obtain ⟨rfl, hh⟩ := hq
      subst hh
      refine E_store rfl rfl rfl ?_
      refine E_load rfl rfl rfl ?_
      refine E_null0 rfl (fun q2 => ?_) (fun q2 => ?_)
      · exfalso; omega
      · refine E_load rfl rfl rfl ?_
        refine E_load rfl rfl rfl ?_
        refine E_load rfl rfl rfl ?_
        refine E_getrB (r := (B b + 1)) rfl (show (B b) < mN h by have := (hR.bot b (by omega)).1.1.1; omega) (hR.bot b (by omega)).1.isB rfl ((hR.bot b (by omega)).1.2.1.2.2.2.1) ?_
        refine E_V2 (q := 0) (c := 11) (y := 122) rfl rfl (hL.lt 0 rfl) (hL.k 0 rfl) rfl rfl rfl rfl (c_sayN hL hR hG (b := b) (by omega)) (fun r h2 hq => ?_)
        obtain ⟨rfl, hh⟩ := hq
        subst hh
        refine E_load rfl rfl rfl ?_
        refine E_getr (c := 11) (r := 16) rfl (hL.lt 0 rfl) (hL.k 0 rfl) rfl (hR.C.g 0 5 16 (by decide)) ?_
        refine E_load rfl rfl rfl ?_
        refine E_const rfl ?_
        refine E_V2 (q := 16) (c := 8) (y := 60) rfl rfl (hL.lt 16 rfl) (hL.k 16 rfl) rfl rfl rfl rfl (s_atv (v := (s (120 + i))) (sh16 hL hR.C) (by decide) (by decide) (by omega) (by omega) (by rw [hR.book.1]; omega) (by rw [hR.book.1]; omega) (atS_of (w := 2) (k := 1) (by rw [hR.book.1]; omega) (by decide) (by rw [Nat.mul_comm i 2]; exact (hR.book.2 i (by omega)).2))) (fun r h2 hq => ?_)
        obtain ⟨rfl, hh⟩ := hq
        subst hh
        refine E_cmp0 rfl (by omega) (fun q3 => ?_) (fun q3 => ?_)
        · refine E_iinc rfl rfl rfl ?_
          refine E_goto rfl ?_
          refine (ih (i + 1) (by omega) _ c hR).mono ?_
          rintro r hE ⟨e1, c9, e2, e3⟩
          exact ⟨by rw [e1, lkF, if_neg (by rw [hbn]; omega)], c9, e2, EqP.trans EqP.nil e3⟩
        · refine E_load rfl rfl rfl ?_
          refine E_iret rfl (fun h => absurd h (by decide)) ?_
          exact ⟨by rw [lkF, if_pos (by rw [hbn]; omega)], c, rfl, EqP.nil⟩
set_option maxHeartbeats 4000000 in
set_option maxRecDepth 100000 in
theorem C_looked {d : Nat} {h : Hp} {c : Nat → Nat → Int} {B : Nat → Nat} {s im : Nat → Int} {hi : Int} {L : List Int} (hL : Lay h) (hR : RepC h c B s im hi L) (hA : Inv s)  : Ok (d + 14) 104 [(1, ((0 : Nat) : Int))] (wC h c) (fun r h2 => r = some (0, a_looked s) ∧ ∃ c2, h2 = wC h c2 ∧ EqP (ScrP B (s 29)) c c2) := by
  show Ex _ none t_X10_looked 0 0 _ [] (wC h c) _
  have hAA := hA
  have hG := hA.G
  obtain ⟨hI, hH, ⟨⟨n29, n30, n31, n32, n33, n34, n36⟩, nM⟩, hX⟩ := hA
  refine E_const rfl ?_
  refine E_store rfl rfl rfl ?_
  refine (Cl_looked hL hG hX _ 0 (Nat.zero_add _) _ c hR).mono ?_
  rintro r hE ⟨rfl, c9, rfl, e3⟩
  exact qryc rfl (EqP.trans EqP.nil e3)
