theorem qryc {h : Hp} {c c2 : Nat → Nat → Int} {P : Nat → Nat → Prop} {F v : Int} (e : F = v) (fr : EqP P c c2) : some ((0, v) : AV) = some (0, F) ∧ ∃ c3, wC h c2 = wC h c3 ∧ EqP P c c3 := by
  subst e
  exact ⟨rfl, c2, rfl, fr⟩
theorem qrycL {h : Hp} {c c2 : Nat → Nat → Int} {P : Nat → Nat → Prop} {F v : Int} (e : F = v) (fr : EqP P c c2) : some ((2, v) : AV) = some (2, F) ∧ ∃ c3, wC h c2 = wC h c3 ∧ EqP P c c3 := by
  subst e
  exact ⟨rfl, c2, rfl, fr⟩
theorem c_bY {d : Nat} {h : Hp} {c : Nat → Nat → Int} {B : Nat → Nat} {s im : Nat → Int} {hi : Int} {L : List Int} (hL : Lay h) (hR : RepC h c B s im hi L) {b : Nat} (hb : (b : Int) < s 29) : Ok (d + 3) 120 [(1, ((0 : Nat) : Int)), (0, (b : Int))] (wC h c) (fun r h2 => r = some (1, ((B b : Nat) : Int)) ∧ h2 = wC h c) :=
  c_botY hL hR.C hR.list (by omega) ⟨by have := (hR.bot b hb).1.1.1; omega, (hR.bot b hb).1.isB⟩
theorem c_bN {d : Nat} {h : Hp} {c : Nat → Nat → Int} {B : Nat → Nat} {s im : Nat → Int} {hi : Int} {L : List Int} (hL : Lay h) (hR : RepC h c B s im hi L) {x : Int} (hx : inR x) (n29 : 0 ≤ s 29) (hb : ¬ (0 ≤ x ∧ x < s 29)) : Ok (d + 3) 120 [(1, ((0 : Nat) : Int)), (0, x)] (wC h c) (fun r h2 => r = some (1, -1) ∧ h2 = wC h c) :=
  c_botN hL hR.C hR.list hx (by omega)
theorem c_softR {d : Nat} {h : Hp} {c : Nat → Nat → Int} {B : Nat → Nat} {s im : Nat → Int} {hi : Int} {L : List Int} (hL : Lay h) (hR : RepC h c B s im hi L) (hG : InvG s) {b : Nat} (hb : (b : Int) < s 29) : Ok (d + 6) 26 [(1, ((28 : Nat) : Int)), (1, ((B b : Nat) : Int)), (1, ((B b + 1 : Nat) : Int))] (wC h c) (fun r h2 => r = some (0, sfS s b) ∧ h2 = wC h c) := by
  obtain ⟨cl, k1, k2⟩ := hR.held
  obtain ⟨b1, b2, b3⟩ := hR.bot b hb
  have hb6 : b < 6 := by have := hG.2.2.1; omega
  obtain ⟨i1, i2, i3, i4, i5, i6, i7⟩ := hG.1 b hb6
  have e : sfS s b = softK (rtC (envK (b : Int) (s (37 + b)) (s (43 + b)) (s (1 + b)) (s (7 + b)) (s (13 + b))) cl) (s (7 + b)) := by
    unfold sfS lkS
    rw [k2.1, lk_steps k1.2.2.2.2.2]
    rfl
  rw [e]
  exact c_soft hL hR.C k1 b1 b1.2.2.1 b2 i5 i6 i1 i2 i3 hb6
set_option maxHeartbeats 4000000 in
set_option maxRecDepth 100000 in
theorem Cl_when {d : Nat} {h : Hp} {B : Nat → Nat} {s im : Nat → Int} {hi : Int} {L : List Int} (hL : Lay h) (hG : InvG s) {b : Nat} (hb : (b : Int) < s 29) {w : Int} (hw : inR w) {v1 : AV} : ∀ (n i : Nat), i + n = 60 → ∀ (a1 a2 : Int) (v7 : AV), (a1, a2) = whL s b (1 + i) → ∀ c, RepC h c B s im hi L → Ex (d + 12) none t_X10_when 0 41 [(1, ((0 : Nat) : Int)), v1, (0, w), (1, ((B b : Nat) : Int)), (0, a1), (0, a2), (0, ((1 + i : Nat) : Int)), v7] [] (wC h c) (fun r h2 => r = some (0, if w = 0 then (whL s b 61).1 else (whL s b 61).2) ∧ ∃ c2, h2 = wC h c2 ∧ EqP (ScrP B (s 29)) c c2) := by
  have hGG := hG
  obtain ⟨hI, hH, ⟨⟨n29, n30, n31, n32, n33, n34, n36⟩, nM⟩⟩ := hGG
  intro n
  induction n with
  | zero =>
    intro i hin a1 a2 v7 ha c hR 
    have hbs := (hG.goN (1 + i)).bs (b := b) (by omega)
    have hin := whL_in hG (b := b) (by omega) (1 + i)
    rw [← ha] at hin
    simp only at hin
    refine E_load rfl rfl rfl ?_
    refine E_const rfl ?_
    refine E_cmp4 rfl (by omega) (fun q1 => ?_) (fun q1 => ?_)
    · refine E_load rfl rfl rfl ?_
      refine E_if1 rfl (by omega) (fun q2 => ?_) (fun q2 => ?_)
      · refine E_load rfl rfl rfl ?_
        refine E_iret rfl (fun h => absurd h (by decide)) ?_
        exact ⟨by rw [if_neg (by omega), show (61 : Nat) = 1 + i by omega, ← ha], c, rfl, EqP.nil⟩
      · refine E_load rfl rfl rfl ?_
        refine E_goto rfl ?_
        refine E_iret rfl (fun h => absurd h (by decide)) ?_
        exact ⟨by rw [if_pos (by omega), show (61 : Nat) = 1 + i by omega, ← ha], c, rfl, EqP.nil⟩
    · exfalso; omega
  | succ n ih =>
    intro i hin a1 a2 v7 ha c hR 
    have hbs := (hG.goN (1 + i)).bs (b := b) (by omega)
    have hin := whL_in hG (b := b) (by omega) (1 + i)
    rw [← ha] at hin
    simp only at hin
    refine E_load rfl rfl rfl ?_
    refine E_const rfl ?_
    refine E_cmp4 rfl (by omega) (fun q1 => ?_) (fun q1 => ?_)
    · exfalso; omega
    · refine E_load rfl rfl rfl ?_
      refine E_load rfl rfl rfl ?_
      refine E_load rfl rfl rfl ?_
      refine E_load rfl rfl rfl ?_
      refine E_V1 (q := (B b)) (c := (mK h (B b))) (y := 14) rfl rfl (show (B b) < mN h by have := (hR.bot b (by omega)).1.1.1; omega) rfl (by have e := (hR.bot b (by omega)).1.isB; rcases e with e | e | e | e | e | e | e <;> rw [e] <;> rfl) rfl rfl rfl (c_beh hR hG (b := b) (by omega) (by omega)) (fun r h2 hq => ?_)
      obtain ⟨rfl, c_1, hh, hX_1, hE_1⟩ := hq
      subst hh
      have hR_1 := hR.scr hE_1
      refine E_V2 (q := 0) (c := 11) (y := 122) rfl rfl (hL.lt 0 rfl) (hL.k 0 rfl) rfl rfl rfl rfl (c_sayT hL hR_1 hG (hG.goN (1 + i)) (b := b) (by omega) hX_1 (fun k hk _ => goN_hi hG hk _) (goN_hi hG (by omega) _)) (fun r h2 hq => ?_)
      obtain ⟨rfl, hh⟩ := hq
      subst hh
      refine E_store rfl rfl rfl ?_
      refine E_load rfl rfl rfl ?_
      refine E_load rfl rfl rfl ?_
      refine E_cmp5 rfl (by omega) (fun q2 => ?_) (fun q2 => ?_)
      · refine E_iinc rfl rfl rfl ?_
        refine E_goto rfl ?_
        refine (ih (i + 1) (by omega) _ _ _ (by rw [← Nat.add_assoc]; exact whL_f ha (by omega)) c_1 hR_1).mono ?_
        rintro r hE ⟨e1, c9, e2, e3⟩
        exact ⟨e1, c9, e2, EqP.trans hE_1 e3⟩
      · refine E_load rfl rfl rfl ?_
        refine E_store rfl rfl rfl ?_
        refine E_load rfl rfl rfl ?_
        refine E_store rfl rfl rfl ?_
        refine E_iinc rfl rfl rfl ?_
        refine E_goto rfl ?_
        refine (ih (i + 1) (by omega) _ _ _ (by rw [← Nat.add_assoc]; exact whL_t ha (by omega)) c_1 hR_1).mono ?_
        rintro r hE ⟨e1, c9, e2, e3⟩
        exact ⟨e1, c9, e2, EqP.trans hE_1 e3⟩
set_option maxHeartbeats 4000000 in
set_option maxRecDepth 100000 in
theorem C_when {d : Nat} {h : Hp} {c : Nat → Nat → Int} {B : Nat → Nat} {s im : Nat → Int} {hi : Int} {L : List Int} (hL : Lay h) (hR : RepC h c B s im hi L) (hA : Inv s) {x : Int} (hx : inR x) {w : Int} (hw : inR w) : Ok (d + 14) 87 [(1, ((0 : Nat) : Int)), (0, x), (0, w)] (wC h c) (fun r h2 => r = some (0, a_when s x w) ∧ ∃ c2, h2 = wC h c2 ∧ EqP (ScrP B (s 29)) c c2) := by
  show Ex _ none t_X10_when 0 0 _ [] (wC h c) _
  have hAA := hA
  have hG := hA.G
  obtain ⟨hI, hH, ⟨⟨n29, n30, n31, n32, n33, n34, n36⟩, nM⟩, hX⟩ := hA
  refine E_load rfl rfl rfl ?_
  refine E_load rfl rfl rfl ?_
  rcases Classical.em (0 ≤ x ∧ x < s 29) with hb | hb
  · obtain ⟨b, rfl⟩ := Int.eq_ofNat_of_zero_le hb.1
    have iB := hI b (by omega)
    refine E_V1 (q := 0) (c := 11) (y := 120) rfl rfl (hL.lt 0 rfl) (hL.k 0 rfl) rfl rfl rfl rfl (c_bY hL hR (b := b) (by omega)) (fun r h2 hq => ?_)
    obtain ⟨rfl, hh⟩ := hq
    subst hh
    refine E_store rfl rfl rfl ?_
    refine E_load rfl rfl rfl ?_
    refine E_null0 rfl (fun q1 => ?_) (fun q1 => ?_)
    · exfalso; omega
    · refine E_load rfl rfl rfl ?_
      refine E_const rfl ?_
      refine E_const rfl ?_
      refine E_S3 (y := 111) rfl rfl rfl rfl rfl (c_within (by omega) (by omega) (by omega)) (fun r h2 hq => ?_)
      obtain ⟨rfl, hh⟩ := hq
      subst hh
      refine E_if1 rfl (bI_R _) (fun q2 => ?_) (fun q2 => ?_)
      · replace q2 := bI_nz q2
        refine E_const rfl ?_
        refine E_store rfl rfl rfl ?_
        refine E_load rfl rfl rfl ?_
        refine E_load rfl rfl rfl ?_
        refine E_load rfl rfl rfl ?_
        refine E_const rfl ?_
        refine E_V1 (q := (B b)) (c := (mK h (B b))) (y := 14) rfl rfl (show (B b) < mN h by have := (hR.bot b (by omega)).1.1.1; omega) rfl (by have e := (hR.bot b (by omega)).1.isB; rcases e with e | e | e | e | e | e | e <;> rw [e] <;> rfl) rfl rfl rfl (c_beh hR hG (b := b) (n := 0) (by omega) (by omega)) (fun r h2 hq => ?_)
        obtain ⟨rfl, c_1, hh, hX_1, hE_1⟩ := hq
        subst hh
        have hR_1 := hR.scr hE_1
        refine E_V2 (q := 0) (c := 11) (y := 122) rfl rfl (hL.lt 0 rfl) (hL.k 0 rfl) rfl rfl rfl rfl (c_sayT hL hR_1 hG (hG.goN 0) (b := b) (by omega) hX_1 (fun k hk _ => goN_hi hG hk _) (goN_hi hG (by omega) _)) (fun r h2 hq => ?_)
        obtain ⟨rfl, hh⟩ := hq
        subst hh
        refine E_store rfl rfl rfl ?_
        refine E_const rfl ?_
        refine E_store rfl rfl rfl ?_
        have h0 := (hG.goN 0).bs (b := b) (by omega)
        refine (Cl_when hL hG (by omega) hw 60 0 rfl 0 (syS (goN s 0) b) _ (by rw [whL]; exact (if_pos (show (-1000000 : Int) < syS (goN s 0) b by omega)).symm) c_1 hR_1).mono ?_
        rintro r hE ⟨rfl, c9, rfl, e3⟩
        refine qryc ?_ (EqP.trans hE_1 e3)
        unfold a_when
        try simp only [Int.toNat_natCast]
        rw [if_neg (by omega)]
      · replace q2 := bI_z q2
        refine E_const rfl ?_
        refine E_iret rfl (fun h => absurd h (by decide)) ?_
        refine qryc ?_ EqP.nil
        unfold a_when
        try simp only [Int.toNat_natCast]
        first | (exfalso; omega) | (rw [if_pos (by omega)] <;> rfl) | (rw [if_neg (by omega), if_pos (by omega)] <;> rfl) | (rw [if_neg (by omega)] <;> rfl) | (rw [if_neg (by omega), if_neg (by omega), if_pos (by omega)] <;> rfl) | (rw [if_neg (by omega), if_neg (by omega)] <;> rfl) | (rw [if_neg (by omega), if_neg (by omega), if_neg (by omega), if_pos (by omega)] <;> rfl) | (rw [if_neg (by omega), if_neg (by omega), if_neg (by omega)] <;> rfl) | (rw [if_neg (by omega), if_neg (by omega), if_neg (by omega), if_neg (by omega), if_pos (by omega)] <;> rfl) | (rw [if_neg (by omega), if_neg (by omega), if_neg (by omega), if_neg (by omega)] <;> rfl) | (rw [if_neg (by omega), if_neg (by omega), if_neg (by omega), if_neg (by omega), if_neg (by omega), if_pos (by omega)] <;> rfl) | (rw [if_neg (by omega), if_neg (by omega), if_neg (by omega), if_neg (by omega), if_neg (by omega)] <;> rfl) | (rw [if_neg (by omega), if_neg (by omega), if_neg (by omega), if_neg (by omega), if_neg (by omega), if_neg (by omega), if_pos (by omega)] <;> rfl) | (rw [if_neg (by omega), if_neg (by omega), if_neg (by omega), if_neg (by omega), if_neg (by omega), if_neg (by omega)] <;> rfl)
  · refine E_V1 (q := 0) (c := 11) (y := 120) rfl rfl (hL.lt 0 rfl) (hL.k 0 rfl) rfl rfl rfl rfl (c_bN hL hR (by omega) n29.1 hb) (fun r h2 hq => ?_)
    obtain ⟨rfl, hh⟩ := hq
    subst hh
    refine E_store rfl rfl rfl ?_
    refine E_load rfl rfl rfl ?_
    refine E_null0 rfl (fun q3 => ?_) (fun q3 => ?_)
    · refine E_const rfl ?_
      refine E_iret rfl (fun h => absurd h (by decide)) ?_
      refine qryc ?_ EqP.nil
      unfold a_when
      try simp only [Int.toNat_natCast]
      first | (exfalso; omega) | (rw [if_pos (by omega)] <;> rfl) | (rw [if_neg (by omega), if_pos (by omega)] <;> rfl) | (rw [if_neg (by omega)] <;> rfl) | (rw [if_neg (by omega), if_neg (by omega), if_pos (by omega)] <;> rfl) | (rw [if_neg (by omega), if_neg (by omega)] <;> rfl) | (rw [if_neg (by omega), if_neg (by omega), if_neg (by omega), if_pos (by omega)] <;> rfl) | (rw [if_neg (by omega), if_neg (by omega), if_neg (by omega)] <;> rfl) | (rw [if_neg (by omega), if_neg (by omega), if_neg (by omega), if_neg (by omega), if_pos (by omega)] <;> rfl) | (rw [if_neg (by omega), if_neg (by omega), if_neg (by omega), if_neg (by omega)] <;> rfl) | (rw [if_neg (by omega), if_neg (by omega), if_neg (by omega), if_neg (by omega), if_neg (by omega), if_pos (by omega)] <;> rfl) | (rw [if_neg (by omega), if_neg (by omega), if_neg (by omega), if_neg (by omega), if_neg (by omega)] <;> rfl) | (rw [if_neg (by omega), if_neg (by omega), if_neg (by omega), if_neg (by omega), if_neg (by omega), if_neg (by omega), if_pos (by omega)] <;> rfl) | (rw [if_neg (by omega), if_neg (by omega), if_neg (by omega), if_neg (by omega), if_neg (by omega), if_neg (by omega)] <;> rfl)
    · exfalso; omega
set_option maxHeartbeats 4000000 in
set_option maxRecDepth 100000 in
theorem Cl_ripe {d : Nat} {h : Hp} {B : Nat → Nat} {s im : Nat → Int} {hi : Int} {L : List Int} (hL : Lay h) (hG : InvG s) {b : Nat} (hb : (b : Int) < s 29) {v1 : AV} : ∀ (n i : Nat), i + n = 61 → ∀ c, RepC h c B s im hi L → Ex (d + 12) none t_X10_ripe 0 14 [(1, ((0 : Nat) : Int)), v1, (1, ((B b : Nat) : Int)), (0, (i : Int))] [] (wC h c) (fun r h2 => r = some (0, rpF s b i n) ∧ ∃ c2, h2 = wC h c2 ∧ EqP (ScrP B (s 29)) c c2) := by
  have hGG := hG
  obtain ⟨hI, hH, ⟨⟨n29, n30, n31, n32, n33, n34, n36⟩, nM⟩⟩ := hGG
  intro n
  induction n with
  | zero =>
    intro i hin   c hR 
    have hbs := (hG.goN i).bs (b := b) (by omega)
    refine E_load rfl rfl rfl ?_
    refine E_const rfl ?_
    refine E_cmp4 rfl (by omega) (fun q1 => ?_) (fun q1 => ?_)
    · refine E_const rfl ?_
      refine E_iret rfl (fun h => absurd h (by decide)) ?_
      exact ⟨rfl, c, rfl, EqP.nil⟩
    · exfalso; omega
  | succ n ih =>
    intro i hin   c hR 
    have hbs := (hG.goN i).bs (b := b) (by omega)
    refine E_load rfl rfl rfl ?_
    refine E_const rfl ?_
    refine E_cmp4 rfl (by omega) (fun q1 => ?_) (fun q1 => ?_)
    · exfalso; omega
    · refine E_load rfl rfl rfl ?_
      refine E_load rfl rfl rfl ?_
      refine E_load rfl rfl rfl ?_
      refine E_load rfl rfl rfl ?_
      refine E_V1 (q := (B b)) (c := (mK h (B b))) (y := 14) rfl rfl (show (B b) < mN h by have := (hR.bot b (by omega)).1.1.1; omega) rfl (by have e := (hR.bot b (by omega)).1.isB; rcases e with e | e | e | e | e | e | e <;> rw [e] <;> rfl) rfl rfl rfl (c_beh hR hG (b := b) (by omega) (by omega)) (fun r h2 hq => ?_)
      obtain ⟨rfl, c_1, hh, hX_1, hE_1⟩ := hq
      subst hh
      have hR_1 := hR.scr hE_1
      refine E_V2 (q := 0) (c := 11) (y := 122) rfl rfl (hL.lt 0 rfl) (hL.k 0 rfl) rfl rfl rfl rfl (c_sayT hL hR_1 hG (hG.goN i) (b := b) (by omega) hX_1 (fun k hk _ => goN_hi hG hk _) (goN_hi hG (by omega) _)) (fun r h2 hq => ?_)
      obtain ⟨rfl, hh⟩ := hq
      subst hh
      refine E_if2 rfl (by omega) (fun q2 => ?_) (fun q2 => ?_)
      · refine E_iinc rfl rfl rfl ?_
        refine E_goto rfl ?_
        refine (ih (i + 1) (by omega) c_1 hR_1).mono ?_
        rintro r hE ⟨e1, c9, e2, e3⟩
        exact ⟨by rw [e1, rpF, if_neg (by omega)], c9, e2, EqP.trans hE_1 e3⟩
      · refine E_load rfl rfl rfl ?_
        refine E_iret rfl (fun h => absurd h (by decide)) ?_
        exact ⟨by rw [rpF, if_pos (by omega)], c_1, rfl, hE_1⟩
set_option maxHeartbeats 4000000 in
set_option maxRecDepth 100000 in
theorem C_ripe {d : Nat} {h : Hp} {c : Nat → Nat → Int} {B : Nat → Nat} {s im : Nat → Int} {hi : Int} {L : List Int} (hL : Lay h) (hR : RepC h c B s im hi L) (hA : Inv s) {x : Int} (hx : inR x) : Ok (d + 14) 88 [(1, ((0 : Nat) : Int)), (0, x)] (wC h c) (fun r h2 => r = some (0, a_ripe s x) ∧ ∃ c2, h2 = wC h c2 ∧ EqP (ScrP B (s 29)) c c2) := by
  show Ex _ none t_X10_ripe 0 0 _ [] (wC h c) _
  have hAA := hA
  have hG := hA.G
  obtain ⟨hI, hH, ⟨⟨n29, n30, n31, n32, n33, n34, n36⟩, nM⟩, hX⟩ := hA
  refine E_load rfl rfl rfl ?_
  refine E_load rfl rfl rfl ?_
  rcases Classical.em (0 ≤ x ∧ x < s 29) with hb | hb
  · obtain ⟨b, rfl⟩ := Int.eq_ofNat_of_zero_le hb.1
    have iB := hI b (by omega)
    refine E_V1 (q := 0) (c := 11) (y := 120) rfl rfl (hL.lt 0 rfl) (hL.k 0 rfl) rfl rfl rfl rfl (c_bY hL hR (b := b) (by omega)) (fun r h2 hq => ?_)
    obtain ⟨rfl, hh⟩ := hq
    subst hh
    refine E_store rfl rfl rfl ?_
    refine E_load rfl rfl rfl ?_
    refine E_null1 rfl (fun q1 => ?_) (fun q1 => ?_)
    · refine E_const rfl ?_
      refine E_store rfl rfl rfl ?_
      refine (Cl_ripe hL hG (by omega) 61 0 rfl c hR).mono ?_
      rintro r hE ⟨rfl, c9, rfl, e3⟩
      refine qryc ?_ (EqP.trans EqP.nil e3)
      unfold a_ripe
      try simp only [Int.toNat_natCast]
      rw [if_neg (by omega)]
    · exfalso; omega
  · refine E_V1 (q := 0) (c := 11) (y := 120) rfl rfl (hL.lt 0 rfl) (hL.k 0 rfl) rfl rfl rfl rfl (c_bN hL hR (by omega) n29.1 hb) (fun r h2 hq => ?_)
    obtain ⟨rfl, hh⟩ := hq
    subst hh
    refine E_store rfl rfl rfl ?_
    refine E_load rfl rfl rfl ?_
    refine E_null1 rfl (fun q2 => ?_) (fun q2 => ?_)
    · exfalso; omega
    · refine E_const rfl ?_
      refine E_iret rfl (fun h => absurd h (by decide)) ?_
      refine qryc ?_ EqP.nil
      unfold a_ripe
      try simp only [Int.toNat_natCast]
      first | (exfalso; omega) | (rw [if_pos (by omega)] <;> rfl) | (rw [if_neg (by omega), if_pos (by omega)] <;> rfl) | (rw [if_neg (by omega)] <;> rfl) | (rw [if_neg (by omega), if_neg (by omega), if_pos (by omega)] <;> rfl) | (rw [if_neg (by omega), if_neg (by omega)] <;> rfl) | (rw [if_neg (by omega), if_neg (by omega), if_neg (by omega), if_pos (by omega)] <;> rfl) | (rw [if_neg (by omega), if_neg (by omega), if_neg (by omega)] <;> rfl) | (rw [if_neg (by omega), if_neg (by omega), if_neg (by omega), if_neg (by omega), if_pos (by omega)] <;> rfl) | (rw [if_neg (by omega), if_neg (by omega), if_neg (by omega), if_neg (by omega)] <;> rfl) | (rw [if_neg (by omega), if_neg (by omega), if_neg (by omega), if_neg (by omega), if_neg (by omega), if_pos (by omega)] <;> rfl) | (rw [if_neg (by omega), if_neg (by omega), if_neg (by omega), if_neg (by omega), if_neg (by omega)] <;> rfl) | (rw [if_neg (by omega), if_neg (by omega), if_neg (by omega), if_neg (by omega), if_neg (by omega), if_neg (by omega), if_pos (by omega)] <;> rfl) | (rw [if_neg (by omega), if_neg (by omega), if_neg (by omega), if_neg (by omega), if_neg (by omega), if_neg (by omega)] <;> rfl)
set_option maxHeartbeats 4000000 in
set_option maxRecDepth 100000 in
theorem C_mood {d : Nat} {h : Hp} {c : Nat → Nat → Int} {B : Nat → Nat} {s im : Nat → Int} {hi : Int} {L : List Int} (hL : Lay h) (hR : RepC h c B s im hi L) (hA : Inv s) {x : Int} (hx : inR x) : Ok (d + 14) 81 [(1, ((0 : Nat) : Int)), (0, x)] (wC h c) (fun r h2 => r = some (0, a_mood s x) ∧ ∃ c2, h2 = wC h c2 ∧ EqP (ScrP B (s 29)) c c2) := by
  show Ex _ none t_X10_mood 0 0 _ [] (wC h c) _
  have hAA := hA
  have hG := hA.G
  obtain ⟨hI, hH, ⟨⟨n29, n30, n31, n32, n33, n34, n36⟩, nM⟩, hX⟩ := hA
  refine E_load rfl rfl rfl ?_
  refine E_load rfl rfl rfl ?_
  refine E_V1 (q := 0) (c := 11) (y := 119) rfl rfl (hL.lt 0 rfl) (hL.k 0 rfl) rfl rfl rfl rfl (c_isG hL hR hG (by omega)) (fun r h2 hq => ?_)
  obtain ⟨rfl, hh⟩ := hq
  subst hh
  refine E_if0 rfl (bI_R _) (fun q1 => ?_) (fun q1 => ?_)
  · replace q1 := bI_z q1
    refine E_const rfl ?_
    refine E_iret rfl (fun h => absurd h (by decide)) ?_
    refine qryc ?_ EqP.nil
    unfold a_mood
    try simp only [Int.toNat_natCast]
    first | (exfalso; omega) | (rw [if_pos (by omega)] <;> rfl) | (rw [if_neg (by omega), if_pos (by omega)] <;> rfl) | (rw [if_neg (by omega)] <;> rfl) | (rw [if_neg (by omega), if_neg (by omega), if_pos (by omega)] <;> rfl) | (rw [if_neg (by omega), if_neg (by omega)] <;> rfl) | (rw [if_neg (by omega), if_neg (by omega), if_neg (by omega), if_pos (by omega)] <;> rfl) | (rw [if_neg (by omega), if_neg (by omega), if_neg (by omega)] <;> rfl) | (rw [if_neg (by omega), if_neg (by omega), if_neg (by omega), if_neg (by omega), if_pos (by omega)] <;> rfl) | (rw [if_neg (by omega), if_neg (by omega), if_neg (by omega), if_neg (by omega)] <;> rfl) | (rw [if_neg (by omega), if_neg (by omega), if_neg (by omega), if_neg (by omega), if_neg (by omega), if_pos (by omega)] <;> rfl) | (rw [if_neg (by omega), if_neg (by omega), if_neg (by omega), if_neg (by omega), if_neg (by omega)] <;> rfl) | (rw [if_neg (by omega), if_neg (by omega), if_neg (by omega), if_neg (by omega), if_neg (by omega), if_neg (by omega), if_pos (by omega)] <;> rfl) | (rw [if_neg (by omega), if_neg (by omega), if_neg (by omega), if_neg (by omega), if_neg (by omega), if_neg (by omega)] <;> rfl)
  · replace q1 := bI_nz q1
    obtain ⟨k, rfl⟩ := Int.eq_ofNat_of_zero_le q1.1
    refine E_load rfl rfl rfl ?_
    refine E_getr (c := 11) (r := 4) rfl (hL.lt 0 rfl) (hL.k 0 rfl) rfl (hR.C.g 0 1 4 (by decide)) ?_
    refine E_load rfl rfl rfl ?_
    refine E_const rfl ?_
    refine E_V2 (q := 4) (c := 8) (y := 60) rfl rfl (hL.lt 4 rfl) (hL.k 4 rfl) rfl rfl rfl rfl (s_atv (sh4 hL hR.C) (by decide) (by decide) (by omega) (by omega) (by rw [hR.mood.1]; omega) (by rw [hR.mood.1]; omega) (atM (by rw [hR.mood.1]; omega) (hR.mood.2 k (by omega)))) (fun r h2 hq => ?_)
    obtain ⟨rfl, hh⟩ := hq
    subst hh
    refine E_goto rfl ?_
    refine E_iret rfl (fun h => absurd h (by decide)) ?_
    refine qryc ?_ EqP.nil
    unfold a_mood
    try simp only [Int.toNat_natCast]
    first | (exfalso; omega) | (rw [if_pos (by omega)] <;> rfl) | (rw [if_neg (by omega), if_pos (by omega)] <;> rfl) | (rw [if_neg (by omega)] <;> rfl) | (rw [if_neg (by omega), if_neg (by omega), if_pos (by omega)] <;> rfl) | (rw [if_neg (by omega), if_neg (by omega)] <;> rfl) | (rw [if_neg (by omega), if_neg (by omega), if_neg (by omega), if_pos (by omega)] <;> rfl) | (rw [if_neg (by omega), if_neg (by omega), if_neg (by omega)] <;> rfl) | (rw [if_neg (by omega), if_neg (by omega), if_neg (by omega), if_neg (by omega), if_pos (by omega)] <;> rfl) | (rw [if_neg (by omega), if_neg (by omega), if_neg (by omega), if_neg (by omega)] <;> rfl) | (rw [if_neg (by omega), if_neg (by omega), if_neg (by omega), if_neg (by omega), if_neg (by omega), if_pos (by omega)] <;> rfl) | (rw [if_neg (by omega), if_neg (by omega), if_neg (by omega), if_neg (by omega), if_neg (by omega)] <;> rfl) | (rw [if_neg (by omega), if_neg (by omega), if_neg (by omega), if_neg (by omega), if_neg (by omega), if_neg (by omega), if_pos (by omega)] <;> rfl) | (rw [if_neg (by omega), if_neg (by omega), if_neg (by omega), if_neg (by omega), if_neg (by omega), if_neg (by omega)] <;> rfl)
set_option maxHeartbeats 4000000 in
set_option maxRecDepth 100000 in
theorem C_told {d : Nat} {h : Hp} {c : Nat → Nat → Int} {B : Nat → Nat} {s im : Nat → Int} {hi : Int} {L : List Int} (hL : Lay h) (hR : RepC h c B s im hi L) (hA : Inv s) {w : Int} (hw : inR w) : Ok (d + 14) 82 [(1, ((0 : Nat) : Int)), (0, w)] (wC h c) (fun r h2 => r = some (0, a_told s w) ∧ ∃ c2, h2 = wC h c2 ∧ EqP (ScrP B (s 29)) c c2) := by
  show Ex _ none t_X10_told 0 0 _ [] (wC h c) _
  have hAA := hA
  have hG := hA.G
  obtain ⟨hI, hH, ⟨⟨n29, n30, n31, n32, n33, n34, n36⟩, nM⟩, hX⟩ := hA
  refine E_load rfl rfl rfl ?_
  rcases (show w = 0 ∨ w = 1 ∨ w = 2 ∨ w = 3 ∨ w = 4 ∨ w = 5 ∨ (w ≠ 0 ∧ w ≠ 1 ∧ w ≠ 2 ∧ w ≠ 3 ∧ w ≠ 4 ∧ w ≠ 5) by omega) with rfl | rfl | rfl | rfl | rfl | rfl | hno
  · refine E_sw (t := 40) rfl (by omega) (rfl) ?_
    refine E_load rfl rfl rfl ?_
    refine E_getf (c := 11) (v := (0, (s 0))) rfl (hL.lt 0 rfl) (hL.k 0 rfl) rfl (fv (hR.year)) ?_
    refine E_iret rfl (fun h => absurd h (by decide)) ?_
    refine qryc ?_ EqP.nil
    unfold a_told
    first | rfl | (rw [if_neg (by omega), if_neg (by omega), if_neg (by omega), if_neg (by omega), if_neg (by omega), if_neg (by omega)]) | (exact fuS_N n29.2)
  · refine E_sw (t := 45) rfl (by omega) (rfl) ?_
    refine E_load rfl rfl rfl ?_
    refine E_getr (c := 11) (r := 28) rfl (hL.lt 0 rfl) (hL.k 0 rfl) rfl (hR.C.g 0 9 28 (by decide)) ?_
    refine E_V0 (q := 28) (c := 2) (y := 23) rfl rfl (hL.lt 28 rfl) (hL.k 28 rfl) rfl rfl rfl rfl (c_calmR hL hR) (fun r h2 hq => ?_)
    obtain ⟨rfl, hh⟩ := hq
    subst hh
    refine E_iret rfl (fun h => absurd h (by decide)) ?_
    refine qryc ?_ EqP.nil
    unfold a_told
    first | rfl | (rw [if_neg (by omega), if_neg (by omega), if_neg (by omega), if_neg (by omega), if_neg (by omega), if_neg (by omega)]) | (exact fuS_N n29.2)
  · refine E_sw (t := 53) rfl (by omega) (rfl) ?_
    refine E_load rfl rfl rfl ?_
    refine E_getr (c := 11) (r := 28) rfl (hL.lt 0 rfl) (hL.k 0 rfl) rfl (hR.C.g 0 9 28 (by decide)) ?_
    refine E_V0 (q := 28) (c := 2) (y := 24) rfl rfl (hL.lt 28 rfl) (hL.k 28 rfl) rfl rfl rfl rfl (c_peaceR hL hR) (fun r h2 hq => ?_)
    obtain ⟨rfl, hh⟩ := hq
    subst hh
    refine E_iret rfl (fun h => absurd h (by decide)) ?_
    refine qryc ?_ EqP.nil
    unfold a_told
    first | rfl | (rw [if_neg (by omega), if_neg (by omega), if_neg (by omega), if_neg (by omega), if_neg (by omega), if_neg (by omega)]) | (exact fuS_N n29.2)
  · refine E_sw (t := 61) rfl (by omega) (rfl) ?_
    refine E_load rfl rfl rfl ?_
    refine E_V0 (q := 0) (c := 11) (y := 124) rfl rfl (hL.lt 0 rfl) (hL.k 0 rfl) rfl rfl rfl rfl (c_full hL hR hG) (fun r h2 hq => ?_)
    obtain ⟨rfl, hh⟩ := hq
    subst hh
    refine E_iret rfl (fun h => absurd h (by decide)) ?_
    refine qryc ?_ EqP.nil
    unfold a_told
    first | rfl | (rw [if_neg (by omega), if_neg (by omega), if_neg (by omega), if_neg (by omega), if_neg (by omega), if_neg (by omega)]) | (exact fuS_N n29.2)
  · refine E_sw (t := 66) rfl (by omega) (rfl) ?_
    refine E_load rfl rfl rfl ?_
    refine E_const rfl ?_
    refine E_V1 (q := 0) (c := 11) (y := 123) rfl rfl (hL.lt 0 rfl) (hL.k 0 rfl) rfl rfl rfl rfl (c_allSay hL hR hG (m := 0) (by omega)) (fun r h2 hq => ?_)
    obtain ⟨rfl, c_1, hh, hE_1⟩ := hq
    subst hh
    have hR_1 := hR.scr hE_1
    refine E_iret rfl (fun h => absurd h (by decide)) ?_
    refine qryc ?_ hE_1
    unfold a_told
    first | rfl | (rw [if_neg (by omega), if_neg (by omega), if_neg (by omega), if_neg (by omega), if_neg (by omega), if_neg (by omega)]) | (exact fuS_N n29.2)
  · refine E_sw (t := 72) rfl (by omega) (rfl) ?_
    refine E_load rfl rfl rfl ?_
    refine E_getr (c := 11) (r := 4) rfl (hL.lt 0 rfl) (hL.k 0 rfl) rfl (hR.C.g 0 1 4 (by decide)) ?_
    refine E_S1 (y := 117) rfl rfl rfl rfl rfl (c_sum (sh4 hL hR.C) hR.mood n36) (fun r h2 hq => ?_)
    obtain ⟨rfl, hh⟩ := hq
    subst hh
    refine E_iret rfl (fun h => absurd h (by decide)) ?_
    refine qryc ?_ EqP.nil
    unfold a_told
    first | rfl | (rw [if_neg (by omega), if_neg (by omega), if_neg (by omega), if_neg (by omega), if_neg (by omega), if_neg (by omega)]) | (exact fuS_N n29.2)
  · refine E_sw (t := 80) rfl (by omega) (by simp only [List.lookup]; (repeat' split) <;> first | rfl | (exfalso; simp at *; omega)) ?_
    refine E_const rfl ?_
    refine E_iret rfl (fun h => absurd h (by decide)) ?_
    refine qryc ?_ EqP.nil
    unfold a_told
    first | rfl | (rw [if_neg (by omega), if_neg (by omega), if_neg (by omega), if_neg (by omega), if_neg (by omega), if_neg (by omega)]) | (exact fuS_N n29.2)
set_option maxHeartbeats 4000000 in
set_option maxRecDepth 100000 in
theorem C_of {d : Nat} {h : Hp} {c : Nat → Nat → Int} {B : Nat → Nat} {s im : Nat → Int} {hi : Int} {L : List Int} (hL : Lay h) (hR : RepC h c B s im hi L) (hA : Inv s) {x : Int} (hx : inR x) {w : Int} (hw : inR w) : Ok (d + 14) 78 [(1, ((0 : Nat) : Int)), (0, x), (0, w)] (wC h c) (fun r h2 => r = some (0, a_of s x w) ∧ ∃ c2, h2 = wC h c2 ∧ EqP (ScrP B (s 29)) c c2) := by
  show Ex _ none t_X10_of 0 0 _ [] (wC h c) _
  have hAA := hA
  have hG := hA.G
  obtain ⟨hI, hH, ⟨⟨n29, n30, n31, n32, n33, n34, n36⟩, nM⟩, hX⟩ := hA
  refine E_load rfl rfl rfl ?_
  refine E_load rfl rfl rfl ?_
  rcases Classical.em (0 ≤ x ∧ x < s 29) with hb | hb
  · obtain ⟨b, rfl⟩ := Int.eq_ofNat_of_zero_le hb.1
    have iB := hI b (by omega)
    refine E_V1 (q := 0) (c := 11) (y := 120) rfl rfl (hL.lt 0 rfl) (hL.k 0 rfl) rfl rfl rfl rfl (c_bY hL hR (b := b) (by omega)) (fun r h2 hq => ?_)
    obtain ⟨rfl, hh⟩ := hq
    subst hh
    refine E_store rfl rfl rfl ?_
    refine E_load rfl rfl rfl ?_
    refine E_null1 rfl (fun q1 => ?_) (fun q1 => ?_)
    · refine E_load rfl rfl rfl ?_
      rcases (show w = 0 ∨ w = 1 ∨ w = 2 ∨ w = 3 ∨ w = 4 ∨ w = 5 ∨ w = 6 ∨ w = 7 ∨ (w ≠ 0 ∧ w ≠ 1 ∧ w ≠ 2 ∧ w ≠ 3 ∧ w ≠ 4 ∧ w ≠ 5 ∧ w ≠ 6 ∧ w ≠ 7) by omega) with rfl | rfl | rfl | rfl | rfl | rfl | rfl | rfl | hno
      · refine E_sw (t := 60) rfl (by omega) (rfl) ?_
        refine E_load rfl rfl rfl ?_
        refine E_getfB (x := (s (37 + b))) rfl (show (B b) < mN h by have := (hR.bot b (by omega)).1.1.1; omega) (hR.bot b (by omega)).1.isB rfl ((hR.bot b (by omega)).1.2.1.1) ?_
        refine E_iret rfl (fun h => absurd h (by decide)) ?_
        refine qryc ?_ EqP.nil
        unfold a_of
        try simp only [Int.toNat_natCast]
        first | (rw [if_pos (by omega)]; done) | (rw [if_neg (by omega)]; first | rfl | (show s (19 + b) = _; omega))
      · refine E_sw (t := 65) rfl (by omega) (rfl) ?_
        refine E_load rfl rfl rfl ?_
        refine E_getrB (r := (B b + 1)) rfl (show (B b) < mN h by have := (hR.bot b (by omega)).1.1.1; omega) (hR.bot b (by omega)).1.isB rfl ((hR.bot b (by omega)).1.2.1.2.2.2.1) ?_
        refine E_getf (c := 6) (v := (0, (s (43 + b)))) rfl (show (B b + 1) < mN h by have := (hR.bot b (by omega)).1.1.1; omega) (hR.bot b (by omega)).1.2.2.1.2.1 rfl (fv ((hR.bot b (by omega)).2.1.1.1)) ?_
        refine E_iret rfl (fun h => absurd h (by decide)) ?_
        refine qryc ?_ EqP.nil
        unfold a_of
        try simp only [Int.toNat_natCast]
        first | (rw [if_pos (by omega)]; done) | (rw [if_neg (by omega)]; first | rfl | (show s (19 + b) = _; omega))
      · refine E_sw (t := 73) rfl (by omega) (rfl) ?_
        refine E_load rfl rfl rfl ?_
        refine E_getrB (r := (B b + 1)) rfl (show (B b) < mN h by have := (hR.bot b (by omega)).1.1.1; omega) (hR.bot b (by omega)).1.isB rfl ((hR.bot b (by omega)).1.2.1.2.2.2.1) ?_
        refine E_getf (c := 6) (v := (0, (s (1 + b)))) rfl (show (B b + 1) < mN h by have := (hR.bot b (by omega)).1.1.1; omega) (hR.bot b (by omega)).1.2.2.1.2.1 rfl (fv ((hR.bot b (by omega)).2.1.1.2.1)) ?_
        refine E_iret rfl (fun h => absurd h (by decide)) ?_
        refine qryc ?_ EqP.nil
        unfold a_of
        try simp only [Int.toNat_natCast]
        first | (rw [if_pos (by omega)]; done) | (rw [if_neg (by omega)]; first | rfl | (show s (19 + b) = _; omega))
      · refine E_sw (t := 81) rfl (by omega) (rfl) ?_
        refine E_load rfl rfl rfl ?_
        refine E_getrB (r := (B b + 1)) rfl (show (B b) < mN h by have := (hR.bot b (by omega)).1.1.1; omega) (hR.bot b (by omega)).1.isB rfl ((hR.bot b (by omega)).1.2.1.2.2.2.1) ?_
        refine E_getf (c := 6) (v := (0, (s (7 + b)))) rfl (show (B b + 1) < mN h by have := (hR.bot b (by omega)).1.1.1; omega) (hR.bot b (by omega)).1.2.2.1.2.1 rfl (fv ((hR.bot b (by omega)).2.1.1.2.2.1)) ?_
        refine E_iret rfl (fun h => absurd h (by decide)) ?_
        refine qryc ?_ EqP.nil
        unfold a_of
        try simp only [Int.toNat_natCast]
        first | (rw [if_pos (by omega)]; done) | (rw [if_neg (by omega)]; first | rfl | (show s (19 + b) = _; omega))
      · refine E_sw (t := 89) rfl (by omega) (rfl) ?_
        refine E_load rfl rfl rfl ?_
        refine E_getrB (r := (B b + 1)) rfl (show (B b) < mN h by have := (hR.bot b (by omega)).1.1.1; omega) (hR.bot b (by omega)).1.isB rfl ((hR.bot b (by omega)).1.2.1.2.2.2.1) ?_
        refine E_getf (c := 6) (v := (0, (s (13 + b)))) rfl (show (B b + 1) < mN h by have := (hR.bot b (by omega)).1.1.1; omega) (hR.bot b (by omega)).1.2.2.1.2.1 rfl (fv ((hR.bot b (by omega)).2.1.1.2.2.2.1)) ?_
        refine E_iret rfl (fun h => absurd h (by decide)) ?_
        refine qryc ?_ EqP.nil
        unfold a_of
        try simp only [Int.toNat_natCast]
        first | (rw [if_pos (by omega)]; done) | (rw [if_neg (by omega)]; first | rfl | (show s (19 + b) = _; omega))
      · refine E_sw (t := 97) rfl (by omega) (rfl) ?_
        refine E_load rfl rfl rfl ?_
        refine E_getrB (r := (B b + 1)) rfl (show (B b) < mN h by have := (hR.bot b (by omega)).1.1.1; omega) (hR.bot b (by omega)).1.isB rfl ((hR.bot b (by omega)).1.2.1.2.2.2.1) ?_
        refine E_getf (c := 6) (v := (0, (s (19 + b)))) rfl (show (B b + 1) < mN h by have := (hR.bot b (by omega)).1.1.1; omega) (hR.bot b (by omega)).1.2.2.1.2.1 rfl (fv ((hR.bot b (by omega)).2.1.1.2.2.2.2)) ?_
        have e0 : s (19 + b) = 0 ∨ s (19 + b) = 1 := iB.2.2.2.1
        refine E_if0 rfl (by omega) (fun q2 => ?_) (fun q2 => ?_)
        · refine E_const rfl ?_
          refine E_iret rfl (fun h => absurd h (by decide)) ?_
          refine qryc ?_ EqP.nil
          unfold a_of
          try simp only [Int.toNat_natCast]
          first | (rw [if_pos (by omega)]; done) | (rw [if_neg (by omega)]; first | rfl | (show s (19 + b) = _; omega))
        · refine E_const rfl ?_
          refine E_goto rfl ?_
          refine E_iret rfl (fun h => absurd h (by decide)) ?_
          refine qryc ?_ EqP.nil
          unfold a_of
          try simp only [Int.toNat_natCast]
          first | (rw [if_pos (by omega)]; done) | (rw [if_neg (by omega)]; first | rfl | (show s (19 + b) = _; omega))
      · refine E_sw (t := 113) rfl (by omega) (rfl) ?_
        refine E_load rfl rfl rfl ?_
        refine E_getr (c := 11) (r := 28) rfl (hL.lt 0 rfl) (hL.k 0 rfl) rfl (hR.C.g 0 9 28 (by decide)) ?_
        refine E_load rfl rfl rfl ?_
        refine E_load rfl rfl rfl ?_
        refine E_getrB (r := (B b + 1)) rfl (show (B b) < mN h by have := (hR.bot b (by omega)).1.1.1; omega) (hR.bot b (by omega)).1.isB rfl ((hR.bot b (by omega)).1.2.1.2.2.2.1) ?_
        refine E_V2 (q := 28) (c := 2) (y := 26) rfl rfl (hL.lt 28 rfl) (hL.k 28 rfl) rfl rfl rfl rfl (c_softR hL hR hG (b := b) (by omega)) (fun r h2 hq => ?_)
        obtain ⟨rfl, hh⟩ := hq
        subst hh
        refine E_iret rfl (fun h => absurd h (by decide)) ?_
        refine qryc ?_ EqP.nil
        unfold a_of
        try simp only [Int.toNat_natCast]
        first | (rw [if_pos (by omega)]; done) | (rw [if_neg (by omega)]; first | rfl | (show s (19 + b) = _; omega))
      · refine E_sw (t := 126) rfl (by omega) (rfl) ?_
        refine E_load rfl rfl rfl ?_
        refine E_load rfl rfl rfl ?_
        refine E_load rfl rfl rfl ?_
        refine E_getrB (r := (B b + 1)) rfl (show (B b) < mN h by have := (hR.bot b (by omega)).1.1.1; omega) (hR.bot b (by omega)).1.isB rfl ((hR.bot b (by omega)).1.2.1.2.2.2.1) ?_
        refine E_V2 (q := 0) (c := 11) (y := 122) rfl rfl (hL.lt 0 rfl) (hL.k 0 rfl) rfl rfl rfl rfl (c_sayN hL hR hG (b := b) (by omega)) (fun r h2 hq => ?_)
        obtain ⟨rfl, hh⟩ := hq
        subst hh
        refine E_iret rfl (fun h => absurd h (by decide)) ?_
        refine qryc ?_ EqP.nil
        unfold a_of
        try simp only [Int.toNat_natCast]
        first | (rw [if_pos (by omega)]; done) | (rw [if_neg (by omega)]; first | rfl | (show s (19 + b) = _; omega))
      · refine E_sw (t := 136) rfl (by omega) (by simp only [List.lookup]; (repeat' split) <;> first | rfl | (exfalso; simp at *; omega)) ?_
        refine E_const rfl ?_
        refine E_iret rfl (fun h => absurd h (by decide)) ?_
        refine qryc ?_ EqP.nil
        unfold a_of
        try simp only [Int.toNat_natCast]
        first | (rw [if_pos (by omega)]; done) | (rw [if_neg (by omega)]; first | rfl | (show s (19 + b) = _; omega))
    · exfalso; omega
  · refine E_V1 (q := 0) (c := 11) (y := 120) rfl rfl (hL.lt 0 rfl) (hL.k 0 rfl) rfl rfl rfl rfl (c_bN hL hR (by omega) n29.1 hb) (fun r h2 hq => ?_)
    obtain ⟨rfl, hh⟩ := hq
    subst hh
    refine E_store rfl rfl rfl ?_
    refine E_load rfl rfl rfl ?_
    refine E_null1 rfl (fun q3 => ?_) (fun q3 => ?_)
    · exfalso; omega
    · refine E_const rfl ?_
      refine E_iret rfl (fun h => absurd h (by decide)) ?_
      refine qryc ?_ EqP.nil
      unfold a_of
      try simp only [Int.toNat_natCast]
      first | (rw [if_pos (by omega)]; done) | (rw [if_neg (by omega)]; first | rfl | (show s (19 + b) = _; omega))
