theorem upd1_id {s : Nat → Int} {k : Nat} {x : Int} (h : x = s k) : upd1 s k x = s := by rw [h]; exact upd1_self
theorem upd1_comm {s : Nat → Int} {k j : Nat} {x y : Int} (h : k ≠ j) : upd1 (upd1 s k x) j y = upd1 (upd1 s j y) k x := by
  funext i
  unfold upd1
  by_cases h1 : i = j
  · rw [if_pos h1, if_neg (by omega), if_pos h1]
  · rw [if_neg h1]
    by_cases h2 : i = k
    · rw [if_pos h2, if_pos h2]
    · rw [if_neg h2, if_neg h2, if_neg h1]
set_option maxHeartbeats 4000000 in
set_option maxRecDepth 100000 in
theorem Cl_old {d : Nat} {h : Hp} {B : Nat → Nat} {s im : Nat → Int} {hi : Int} {L : List Int} (hL : Lay h) (hG : InvG s) (hS : InvS s) {b : Nat} (hb : (b : Int) < s 29) {w : Int} (hw : inR w) : ∀ (n i : Nat), i + n = 100 → ∀ (a1 a2 y : Int), (y = 99 - (i : Int) ∧ (a1, a2) = odL s b i) → ∀ c, RepC h c B s im hi L → Ex (d + 13) none t_X10_old 0 32 [(1, ((0 : Nat) : Int)), (0, (b : Int)), (0, w), (1, ((B b : Nat) : Int)), (0, a1), (0, a2), (0, y)] [] (wC h c) (fun r h2 => r = some (0, if w = 0 then (odL s b 100).1 else (odL s b 100).2) ∧ ∃ c2, h2 = wC h c2 ∧ EqP (ScrP B (s 29)) c c2) := by
  have hGG := hG
  obtain ⟨hI, hH, ⟨⟨n29, n30, n31, n32, n33, n34, n36⟩, nM⟩⟩ := hGG
  intro n
  induction n with
  | zero =>
    intro i hin a1 a2 y ha c hR 
    refine E_load rfl rfl rfl ?_
    refine E_if2 rfl (by omega) (fun q1 => ?_) (fun q1 => ?_)
    · refine E_load rfl rfl rfl ?_
      refine E_if1 rfl (by omega) (fun q2 => ?_) (fun q2 => ?_)
      · refine E_load rfl rfl rfl ?_
        refine E_iret rfl (fun h => absurd h (by decide)) ?_
        exact ⟨by rw [if_neg (by omega), show (100 : Nat) = i by omega, ← ha.2], c, rfl, EqP.nil⟩
      · refine E_load rfl rfl rfl ?_
        refine E_goto rfl ?_
        refine E_iret rfl (fun h => absurd h (by decide)) ?_
        exact ⟨by rw [if_pos (by omega), show (100 : Nat) = i by omega, ← ha.2], c, rfl, EqP.nil⟩
    · exfalso; omega
  | succ n ih =>
    intro i hin a1 a2 y ha c hR 
    refine E_load rfl rfl rfl ?_
    refine E_if2 rfl (by omega) (fun q1 => ?_) (fun q1 => ?_)
    · exfalso; omega
    · refine E_load rfl rfl rfl ?_
      refine E_load rfl rfl rfl ?_
      refine E_load rfl rfl rfl ?_
      refine E_load rfl rfl rfl ?_
      refine E_getrB (r := (B b + 1)) rfl (show (B b) < mN h by have := (hR.bot b (by omega)).1.1.1; omega) (hR.bot b (by omega)).1.isB rfl ((hR.bot b (by omega)).1.2.1.2.2.2.1) ?_
      refine E_getf (c := 6) (v := (0, (s (43 + b)))) rfl (show (B b + 1) < mN h by have := (hR.bot b (by omega)).1.1.1; omega) (hR.bot b (by omega)).1.2.2.1.2.1 rfl (fv ((hR.bot b (by omega)).2.1.1.1)) ?_
      rw [ha.1]
      refine E_V3 (q := 0) (c := 11) (y := 135) rfl rfl (hL.lt 0 rfl) (hL.k 0 rfl) rfl rfl rfl rfl (c_seen (t := (upd1 s (7 + b) (99 - (i : Int)))) (y := 99 - (i : Int)) (v := s (43 + b)) hL hR hG hS (hG.years (b := b) (by omega) (by omega)) (by rw [upd1_id (s := upd1 s (7 + b) (99 - (i : Int))) (upd1_ne (by omega)).symm]) (hS.ofE fun k hk hk2 => upd1_ne (by omega)) (by omega)) (fun r h2 hq => ?_)
      obtain ⟨rfl, c_1, hh, hE_1⟩ := hq
      subst hh
      have hR_1 := hR.scr hE_1
      refine E_if0 rfl (bB_R _) (fun q2 => ?_) (fun q2 => ?_)
      · replace q2 := bB_z q2
        refine E_iinc rfl rfl rfl ?_
        refine E_goto rfl ?_
        refine (ih (i + 1) (by omega) _ _ _ ⟨by omega, (by have := odL_f ha.2 q2; rw [Int.add_zero] at this; exact this)⟩ c_1 hR_1).mono ?_
        rintro r hE ⟨e1, c9, e2, e3⟩
        exact ⟨e1, c9, e2, EqP.trans hE_1 e3⟩
      · replace q2 := bB_nz q2
        refine E_iinc rfl rfl rfl ?_
        refine E_load rfl rfl rfl ?_
        refine E_store rfl rfl rfl ?_
        refine E_iinc rfl rfl rfl ?_
        refine E_goto rfl ?_
        refine (ih (i + 1) (by omega) _ _ _ ⟨by omega, odL_t ha.2 q2⟩ c_1 hR_1).mono ?_
        rintro r hE ⟨e1, c9, e2, e3⟩
        exact ⟨e1, c9, e2, EqP.trans hE_1 e3⟩
set_option maxHeartbeats 4000000 in
set_option maxRecDepth 100000 in
theorem C_old {d : Nat} {h : Hp} {c : Nat → Nat → Int} {B : Nat → Nat} {s im : Nat → Int} {hi : Int} {L : List Int} (hL : Lay h) (hR : RepC h c B s im hi L) (hA : Inv s) {x : Int} (hx : inR x) {w : Int} (hw : inR w) : Ok (d + 16) 96 [(1, ((0 : Nat) : Int)), (0, x), (0, w)] (wC h c) (fun r h2 => r = some (0, a_old s x w) ∧ ∃ c2, h2 = wC h c2 ∧ EqP (ScrP B (s 29)) c c2) := by
  show Ex _ none t_X10_old 0 0 _ [] (wC h c) _
  have hAA := hA
  have hG := hA.G
  obtain ⟨hI, hH, ⟨⟨n29, n30, n31, n32, n33, n34, n36⟩, nM⟩, hX⟩ := hA
  refine E_load rfl rfl rfl ?_
  refine E_load rfl rfl rfl ?_
  rcases Classical.em (0 ≤ x ∧ x < s 29) with hb | hb
  · obtain ⟨b, rfl⟩ := Int.eq_ofNat_of_zero_le hb.1
    have iB := hI b (by omega)
    refine E_V1 (q := 0) (c := 11) (y := 120) rfl rfl (hL.lt 0 rfl) (hL.k 0 rfl) rfl rfl rfl rfl (c_bY hL hR (b := b) (by omega)) (fun r h2 hq => ?_)
    obtain ⟨rfl, hh⟩ := hq
    subst hh
    refine E_store rfl rfl rfl ?_
    refine E_load rfl rfl rfl ?_
    refine E_null0 rfl (fun q1 => ?_) (fun q1 => ?_)
    · exfalso; omega
    · refine E_load rfl rfl rfl ?_
      refine E_const rfl ?_
      refine E_const rfl ?_
      refine E_S3 (y := 111) rfl rfl rfl rfl rfl (c_within (by omega) (by omega) (by omega)) (fun r h2 hq => ?_)
      obtain ⟨rfl, hh⟩ := hq
      subst hh
      refine E_if1 rfl (bI_R _) (fun q2 => ?_) (fun q2 => ?_)
      · replace q2 := bI_nz q2
        refine E_const rfl ?_
        refine E_store rfl rfl rfl ?_
        refine E_const rfl ?_
        refine E_store rfl rfl rfl ?_
        refine E_const rfl ?_
        refine E_store rfl rfl rfl ?_
        have hS : InvS s := hX.2.2.2.1
        refine (Cl_old hL hG hS (by omega) hw 100 0 rfl _ _ _ ⟨rfl, rfl⟩ c hR).mono ?_
        rintro r hE ⟨rfl, c9, rfl, e3⟩
        refine qryc ?_ (EqP.trans EqP.nil e3)
        unfold a_old
        try simp only [Int.toNat_natCast]
        rw [if_neg (by omega)]
      · replace q2 := bI_z q2
        refine E_const rfl ?_
        refine E_iret rfl (fun h => absurd h (by decide)) ?_
        refine qryc ?_ EqP.nil
        unfold a_old
        try simp only [Int.toNat_natCast]
        first | (exfalso; omega) | (rw [if_pos (by omega)] <;> rfl) | (rw [if_neg (by omega), if_pos (by omega)] <;> rfl) | (rw [if_neg (by omega)] <;> rfl) | (rw [if_neg (by omega), if_neg (by omega), if_pos (by omega)] <;> rfl) | (rw [if_neg (by omega), if_neg (by omega)] <;> rfl) | (rw [if_neg (by omega), if_neg (by omega), if_neg (by omega), if_pos (by omega)] <;> rfl) | (rw [if_neg (by omega), if_neg (by omega), if_neg (by omega)] <;> rfl) | (rw [if_neg (by omega), if_neg (by omega), if_neg (by omega), if_neg (by omega), if_pos (by omega)] <;> rfl) | (rw [if_neg (by omega), if_neg (by omega), if_neg (by omega), if_neg (by omega)] <;> rfl) | (rw [if_neg (by omega), if_neg (by omega), if_neg (by omega), if_neg (by omega), if_neg (by omega), if_pos (by omega)] <;> rfl) | (rw [if_neg (by omega), if_neg (by omega), if_neg (by omega), if_neg (by omega), if_neg (by omega)] <;> rfl) | (rw [if_neg (by omega), if_neg (by omega), if_neg (by omega), if_neg (by omega), if_neg (by omega), if_neg (by omega), if_pos (by omega)] <;> rfl) | (rw [if_neg (by omega), if_neg (by omega), if_neg (by omega), if_neg (by omega), if_neg (by omega), if_neg (by omega)] <;> rfl)
  · refine E_V1 (q := 0) (c := 11) (y := 120) rfl rfl (hL.lt 0 rfl) (hL.k 0 rfl) rfl rfl rfl rfl (c_bN hL hR (by omega) n29.1 hb) (fun r h2 hq => ?_)
    obtain ⟨rfl, hh⟩ := hq
    subst hh
    refine E_store rfl rfl rfl ?_
    refine E_load rfl rfl rfl ?_
    refine E_null0 rfl (fun q3 => ?_) (fun q3 => ?_)
    · refine E_const rfl ?_
      refine E_iret rfl (fun h => absurd h (by decide)) ?_
      refine qryc ?_ EqP.nil
      unfold a_old
      try simp only [Int.toNat_natCast]
      first | (exfalso; omega) | (rw [if_pos (by omega)] <;> rfl) | (rw [if_neg (by omega), if_pos (by omega)] <;> rfl) | (rw [if_neg (by omega)] <;> rfl) | (rw [if_neg (by omega), if_neg (by omega), if_pos (by omega)] <;> rfl) | (rw [if_neg (by omega), if_neg (by omega)] <;> rfl) | (rw [if_neg (by omega), if_neg (by omega), if_neg (by omega), if_pos (by omega)] <;> rfl) | (rw [if_neg (by omega), if_neg (by omega), if_neg (by omega)] <;> rfl) | (rw [if_neg (by omega), if_neg (by omega), if_neg (by omega), if_neg (by omega), if_pos (by omega)] <;> rfl) | (rw [if_neg (by omega), if_neg (by omega), if_neg (by omega), if_neg (by omega)] <;> rfl) | (rw [if_neg (by omega), if_neg (by omega), if_neg (by omega), if_neg (by omega), if_neg (by omega), if_pos (by omega)] <;> rfl) | (rw [if_neg (by omega), if_neg (by omega), if_neg (by omega), if_neg (by omega), if_neg (by omega)] <;> rfl) | (rw [if_neg (by omega), if_neg (by omega), if_neg (by omega), if_neg (by omega), if_neg (by omega), if_neg (by omega), if_pos (by omega)] <;> rfl) | (rw [if_neg (by omega), if_neg (by omega), if_neg (by omega), if_neg (by omega), if_neg (by omega), if_neg (by omega)] <;> rfl)
    · exfalso; omega
set_option maxHeartbeats 4000000 in
set_option maxRecDepth 100000 in
theorem Cl_firm {d : Nat} {h : Hp} {B : Nat → Nat} {s im : Nat → Int} {hi : Int} {L : List Int} (hL : Lay h) (hG : InvG s) (hS : InvS s) {b : Nat} (hb : (b : Int) < s 29) {w : Int} (hw : inR w) : ∀ (n i : Nat), i + n = 10 → ∀ (a1 a2 y : Int), (y = 9 - (i : Int) ∧ (a1, a2) = fiL s b i) → ∀ c, RepC h c B s im hi L → Ex (d + 13) none t_X10_firm 0 32 [(1, ((0 : Nat) : Int)), (0, (b : Int)), (0, w), (1, ((B b : Nat) : Int)), (0, a1), (0, a2), (0, y)] [] (wC h c) (fun r h2 => r = some (0, if w = 0 then (fiL s b 10).1 else (fiL s b 10).2) ∧ ∃ c2, h2 = wC h c2 ∧ EqP (ScrP B (s 29)) c c2) := by
  have hGG := hG
  obtain ⟨hI, hH, ⟨⟨n29, n30, n31, n32, n33, n34, n36⟩, nM⟩⟩ := hGG
  intro n
  induction n with
  | zero =>
    intro i hin a1 a2 y ha c hR 
    refine E_load rfl rfl rfl ?_
    refine E_if2 rfl (by omega) (fun q1 => ?_) (fun q1 => ?_)
    · refine E_load rfl rfl rfl ?_
      refine E_if1 rfl (by omega) (fun q2 => ?_) (fun q2 => ?_)
      · refine E_load rfl rfl rfl ?_
        refine E_iret rfl (fun h => absurd h (by decide)) ?_
        exact ⟨by rw [if_neg (by omega), show (10 : Nat) = i by omega, ← ha.2], c, rfl, EqP.nil⟩
      · refine E_load rfl rfl rfl ?_
        refine E_goto rfl ?_
        refine E_iret rfl (fun h => absurd h (by decide)) ?_
        exact ⟨by rw [if_pos (by omega), show (10 : Nat) = i by omega, ← ha.2], c, rfl, EqP.nil⟩
    · exfalso; omega
  | succ n ih =>
    intro i hin a1 a2 y ha c hR 
    refine E_load rfl rfl rfl ?_
    refine E_if2 rfl (by omega) (fun q1 => ?_) (fun q1 => ?_)
    · exfalso; omega
    · refine E_load rfl rfl rfl ?_
      refine E_load rfl rfl rfl ?_
      refine E_load rfl rfl rfl ?_
      refine E_getrB (r := (B b + 1)) rfl (show (B b) < mN h by have := (hR.bot b (by omega)).1.1.1; omega) (hR.bot b (by omega)).1.isB rfl ((hR.bot b (by omega)).1.2.1.2.2.2.1) ?_
      refine E_getf (c := 6) (v := (0, (s (7 + b)))) rfl (show (B b + 1) < mN h by have := (hR.bot b (by omega)).1.1.1; omega) (hR.bot b (by omega)).1.2.2.1.2.1 rfl (fv ((hR.bot b (by omega)).2.1.1.2.2.1)) ?_
      refine E_load rfl rfl rfl ?_
      rw [ha.1]
      refine E_V3 (q := 0) (c := 11) (y := 135) rfl rfl (hL.lt 0 rfl) (hL.k 0 rfl) rfl rfl rfl rfl (c_seen (t := (upd1 s (43 + b) (9 - (i : Int)))) (y := s (7 + b)) (v := 9 - (i : Int)) hL hR hG hS (hG.v (b := b) (by omega) (by omega)) (by rw [upd1_id (s := s) (k := 7 + b) rfl]) (hS.ofE fun k hk hk2 => upd1_ne (by omega)) (by omega)) (fun r h2 hq => ?_)
      obtain ⟨rfl, c_1, hh, hE_1⟩ := hq
      subst hh
      have hR_1 := hR.scr hE_1
      refine E_if0 rfl (bB_R _) (fun q2 => ?_) (fun q2 => ?_)
      · replace q2 := bB_z q2
        refine E_iinc rfl rfl rfl ?_
        refine E_goto rfl ?_
        refine (ih (i + 1) (by omega) _ _ _ ⟨by omega, (by have := fiL_f ha.2 q2; rw [Int.add_zero] at this; exact this)⟩ c_1 hR_1).mono ?_
        rintro r hE ⟨e1, c9, e2, e3⟩
        exact ⟨e1, c9, e2, EqP.trans hE_1 e3⟩
      · replace q2 := bB_nz q2
        refine E_iinc rfl rfl rfl ?_
        refine E_load rfl rfl rfl ?_
        refine E_store rfl rfl rfl ?_
        refine E_iinc rfl rfl rfl ?_
        refine E_goto rfl ?_
        refine (ih (i + 1) (by omega) _ _ _ ⟨by omega, fiL_t ha.2 q2⟩ c_1 hR_1).mono ?_
        rintro r hE ⟨e1, c9, e2, e3⟩
        exact ⟨e1, c9, e2, EqP.trans hE_1 e3⟩
set_option maxHeartbeats 4000000 in
set_option maxRecDepth 100000 in
theorem C_firm {d : Nat} {h : Hp} {c : Nat → Nat → Int} {B : Nat → Nat} {s im : Nat → Int} {hi : Int} {L : List Int} (hL : Lay h) (hR : RepC h c B s im hi L) (hA : Inv s) {x : Int} (hx : inR x) {w : Int} (hw : inR w) : Ok (d + 16) 97 [(1, ((0 : Nat) : Int)), (0, x), (0, w)] (wC h c) (fun r h2 => r = some (0, a_firm s x w) ∧ ∃ c2, h2 = wC h c2 ∧ EqP (ScrP B (s 29)) c c2) := by
  show Ex _ none t_X10_firm 0 0 _ [] (wC h c) _
  have hAA := hA
  have hG := hA.G
  obtain ⟨hI, hH, ⟨⟨n29, n30, n31, n32, n33, n34, n36⟩, nM⟩, hX⟩ := hA
  refine E_load rfl rfl rfl ?_
  refine E_load rfl rfl rfl ?_
  rcases Classical.em (0 ≤ x ∧ x < s 29) with hb | hb
  · obtain ⟨b, rfl⟩ := Int.eq_ofNat_of_zero_le hb.1
    have iB := hI b (by omega)
    refine E_V1 (q := 0) (c := 11) (y := 120) rfl rfl (hL.lt 0 rfl) (hL.k 0 rfl) rfl rfl rfl rfl (c_bY hL hR (b := b) (by omega)) (fun r h2 hq => ?_)
    obtain ⟨rfl, hh⟩ := hq
    subst hh
    refine E_store rfl rfl rfl ?_
    refine E_load rfl rfl rfl ?_
    refine E_null0 rfl (fun q1 => ?_) (fun q1 => ?_)
    · exfalso; omega
    · refine E_load rfl rfl rfl ?_
      refine E_const rfl ?_
      refine E_const rfl ?_
      refine E_S3 (y := 111) rfl rfl rfl rfl rfl (c_within (by omega) (by omega) (by omega)) (fun r h2 hq => ?_)
      obtain ⟨rfl, hh⟩ := hq
      subst hh
      refine E_if1 rfl (bI_R _) (fun q2 => ?_) (fun q2 => ?_)
      · replace q2 := bI_nz q2
        refine E_const rfl ?_
        refine E_store rfl rfl rfl ?_
        refine E_const rfl ?_
        refine E_store rfl rfl rfl ?_
        refine E_const rfl ?_
        refine E_store rfl rfl rfl ?_
        have hS : InvS s := hX.2.2.2.1
        refine (Cl_firm hL hG hS (by omega) hw 10 0 rfl _ _ _ ⟨rfl, rfl⟩ c hR).mono ?_
        rintro r hE ⟨rfl, c9, rfl, e3⟩
        refine qryc ?_ (EqP.trans EqP.nil e3)
        unfold a_firm
        try simp only [Int.toNat_natCast]
        rw [if_neg (by omega)]
      · replace q2 := bI_z q2
        refine E_const rfl ?_
        refine E_iret rfl (fun h => absurd h (by decide)) ?_
        refine qryc ?_ EqP.nil
        unfold a_firm
        try simp only [Int.toNat_natCast]
        first | (exfalso; omega) | (rw [if_pos (by omega)] <;> rfl) | (rw [if_neg (by omega), if_pos (by omega)] <;> rfl) | (rw [if_neg (by omega)] <;> rfl) | (rw [if_neg (by omega), if_neg (by omega), if_pos (by omega)] <;> rfl) | (rw [if_neg (by omega), if_neg (by omega)] <;> rfl) | (rw [if_neg (by omega), if_neg (by omega), if_neg (by omega), if_pos (by omega)] <;> rfl) | (rw [if_neg (by omega), if_neg (by omega), if_neg (by omega)] <;> rfl) | (rw [if_neg (by omega), if_neg (by omega), if_neg (by omega), if_neg (by omega), if_pos (by omega)] <;> rfl) | (rw [if_neg (by omega), if_neg (by omega), if_neg (by omega), if_neg (by omega)] <;> rfl) | (rw [if_neg (by omega), if_neg (by omega), if_neg (by omega), if_neg (by omega), if_neg (by omega), if_pos (by omega)] <;> rfl) | (rw [if_neg (by omega), if_neg (by omega), if_neg (by omega), if_neg (by omega), if_neg (by omega)] <;> rfl) | (rw [if_neg (by omega), if_neg (by omega), if_neg (by omega), if_neg (by omega), if_neg (by omega), if_neg (by omega), if_pos (by omega)] <;> rfl) | (rw [if_neg (by omega), if_neg (by omega), if_neg (by omega), if_neg (by omega), if_neg (by omega), if_neg (by omega)] <;> rfl)
  · refine E_V1 (q := 0) (c := 11) (y := 120) rfl rfl (hL.lt 0 rfl) (hL.k 0 rfl) rfl rfl rfl rfl (c_bN hL hR (by omega) n29.1 hb) (fun r h2 hq => ?_)
    obtain ⟨rfl, hh⟩ := hq
    subst hh
    refine E_store rfl rfl rfl ?_
    refine E_load rfl rfl rfl ?_
    refine E_null0 rfl (fun q3 => ?_) (fun q3 => ?_)
    · refine E_const rfl ?_
      refine E_iret rfl (fun h => absurd h (by decide)) ?_
      refine qryc ?_ EqP.nil
      unfold a_firm
      try simp only [Int.toNat_natCast]
      first | (exfalso; omega) | (rw [if_pos (by omega)] <;> rfl) | (rw [if_neg (by omega), if_pos (by omega)] <;> rfl) | (rw [if_neg (by omega)] <;> rfl) | (rw [if_neg (by omega), if_neg (by omega), if_pos (by omega)] <;> rfl) | (rw [if_neg (by omega), if_neg (by omega)] <;> rfl) | (rw [if_neg (by omega), if_neg (by omega), if_neg (by omega), if_pos (by omega)] <;> rfl) | (rw [if_neg (by omega), if_neg (by omega), if_neg (by omega)] <;> rfl) | (rw [if_neg (by omega), if_neg (by omega), if_neg (by omega), if_neg (by omega), if_pos (by omega)] <;> rfl) | (rw [if_neg (by omega), if_neg (by omega), if_neg (by omega), if_neg (by omega)] <;> rfl) | (rw [if_neg (by omega), if_neg (by omega), if_neg (by omega), if_neg (by omega), if_neg (by omega), if_pos (by omega)] <;> rfl) | (rw [if_neg (by omega), if_neg (by omega), if_neg (by omega), if_neg (by omega), if_neg (by omega)] <;> rfl) | (rw [if_neg (by omega), if_neg (by omega), if_neg (by omega), if_neg (by omega), if_neg (by omega), if_neg (by omega), if_pos (by omega)] <;> rfl) | (rw [if_neg (by omega), if_neg (by omega), if_neg (by omega), if_neg (by omega), if_neg (by omega), if_neg (by omega)] <;> rfl)
    · exfalso; omega
