theorem Inv.mk3 {s t : Nat → Int} (hA : Inv s) (hG : InvG t) (e : ∀ k, (k = 0 ∨ 29 ≤ k) → t k = s k) : Inv t := by
  refine ⟨hG.1, hG.2.1, hG.2.2, ?_⟩
  obtain ⟨x1, x2, x3, x4, x5, x6⟩ := hA.2.2.2
  refine ⟨by rw [e 0 (by omega)]; exact x1, by rw [e 35 (by omega), e 30 (by omega)]; exact x2, fun k hk => by rw [e _ (by omega)]; exact x3 k hk, fun k hk => ?_, fun k hk => ?_, fun k hk => ?_⟩
  · rw [e 31 (by omega)] at hk
    rw [e (73 + k) (by omega), e (78 + k) (by omega), e (83 + k) (by omega), e 29 (by omega)]
    exact x4 k hk
  · rw [e 32 (by omega)] at hk
    rw [e (88 + k) (by omega), e (96 + k) (by omega), e (104 + k) (by omega), e 29 (by omega), e 36 (by omega)]
    exact x5 k hk
  · rw [e 33 (by omega)] at hk
    rw [e (112 + k) (by omega), e (120 + k) (by omega), e 29 (by omega)]
    exact x6 k hk
theorem InvG.empty {s : Nat → Int} (h : InvG s) {b : Nat} (hb : b < 6) : InvG (upd1 s (19 + b) 1) := h.up (by omega) (Or.inr (Or.inr (Or.inr (Or.inr (Or.inl ⟨b, hb, rfl, Or.inr rfl⟩)))))
theorem Inv.empty {s : Nat → Int} (hA : Inv s) {b : Nat} (hb : b < 6) : Inv (upd1 s (19 + b) 1) := hA.mk3 (hA.G.empty hb) fun k hk => upd1_ne (by omega)
/-- what one says doesn't hang on which are empty -/
theorem syS_empty {s : Nat → Int} {b b2 : Nat} {x : Int} (hH : InvH s) (hb : b < 6) (hb2 : b2 < 6) (h13 : 0 ≤ s (13 + b) ∧ s (13 + b) ≤ 3) : syS (upd1 s (19 + b2) x) b = syS s b := by
  have e : ∀ k, k ≠ 19 + b2 → upd1 s (19 + b2) x k = s k := fun k hk => upd1_ne hk
  have eL : stL (upd1 s (19 + b2) x) = stL s := lk_ofE (fun k hk => e k (by omega)) hH
  unfold syS sfS lkS envS
  rw [eL, e (37 + b) (by omega), e (43 + b) (by omega), e (1 + b) (by omega), e (7 + b) (by omega), e (13 + b) (by omega), e _ (by omega)]
theorem RepC.empty {h : Hp} {c : Nat → Nat → Int} {B : Nat → Nat} {s im : Nat → Int} {hi : Int} {L : List Int} (hR : RepC h c B s im hi L) (hA : Inv s) {b : Nat} (hb : (b : Int) < s 29) : RepC h (up2 c (B b + 1) 5 1) B (upd1 s (19 + b) 1) im hi L :=
  hR.mkB hA hb (EqP.up (by omega)) (fun k hk => upd1_ne (fun e => hk (by unfold idxB; omega))) (laid_e (by have := hA.2.2.1.1.1; omega) (hR.bot b hb).2.1)
/-- the mood of one changes -/
theorem RepC.mood1 {h : Hp} {c : Nat → Nat → Int} {B : Nat → Nat} {s im : Nat → Int} {hi : Int} {L : List Int} {x : Int} (hR : RepC h c B s im hi L) (hA : Inv s) {g : Nat} (hg : (g : Int) < s 36) : RepC h (up2 c 5 g x) B (upd1 s (25 + g) x) im hi L := by
  obtain ⟨n29, n30, n31, n32, n33, n34, n36⟩ := hA.2.2.1.1
  have hE : EqP (fun a _ => a = 5) c (up2 c 5 g x) := EqP.up rfl
  refine hR.mkS hA (fun a k hk => hE a k (by unfold shW at hk; omega)) (fun k hk => upd1_ne (by omega)) ?_ ⟨?_, fun k hk => ?_⟩ ?_ ?_ ?_
  · rw [hE 1 3 (by omega), hE.row 2 (fun k => by omega)]; exact hR.tape.tr (fun k hk => upd1_ne (by omega)) n34.2
  · rw [hE 4 3 (by omega), upd1_ne (by omega)]; exact hR.mood.1
  · rw [upd1_ne (by omega)] at hk
    by_cases e : k = g
    · subst e; exact up2_same.trans upd1_same.symm
    · rw [up2_fldN (by omega), upd1_ne (by omega)]; exact hR.mood.2 k hk
  · rw [hE 10 3 (by omega), hE.row 11 (fun k => by omega)]; exact hR.seen.tr (fun k hk => upd1_ne (by omega)) n31.2
  · rw [hE 13 3 (by omega), hE.row 14 (fun k => by omega)]; exact hR.eve.tr (fun k hk => upd1_ne (by omega)) n32.2
  · rw [hE 16 3 (by omega), hE.row 17 (fun k => by omega)]; exact hR.book.tr (fun k hk => upd1_ne (by omega)) n33.2
set_option maxHeartbeats 4000000 in
set_option maxRecDepth 100000 in
theorem C_pour {d : Nat} {h : Hp} {c : Nat → Nat → Int} {B : Nat → Nat} {s im : Nat → Int} {hi : Int} {L : List Int} (hL : Lay h) (hR : RepC h c B s im hi L) (hA : Inv s) {x : Int} (hx : inR x) {g0 : Int} (hg0 : inR g0) : Ok (d + 10) 83 [(1, ((0 : Nat) : Int)), (0, x), (0, g0)] (wC h c) (fun r h2 => r = some (0, (f_pour s x g0).1) ∧ ∃ c2, h2 = wC h c2 ∧ RepC h c2 B (f_pour s x g0).2 im hi L ∧ EqP FrC c c2) := by
  show Ex _ none t_X10_pour 0 0 _ [] (wC h c) _
  have hAA := hA
  have hG := hA.G
  obtain ⟨hI, hH, ⟨⟨n29, n30, n31, n32, n33, n34, n36⟩, nM⟩, hX⟩ := hA
  have hAA0 := hAA
  have hAA1 := hAA
  refine E_load rfl rfl rfl ?_
  refine E_load rfl rfl rfl ?_
  rcases Classical.em (0 ≤ x ∧ x < s 29) with hb | hb
  · obtain ⟨b, rfl⟩ := Int.eq_ofNat_of_zero_le hb.1
    have iB := hI b (by omega)
    refine E_V1 (q := 0) (c := 11) (y := 120) rfl rfl (hL.lt 0 rfl) (hL.k 0 rfl) rfl rfl rfl rfl (c_bY hL hR (b := b) (by omega)) (fun r h2 hq => ?_)
    obtain ⟨rfl, hh⟩ := hq
    subst hh
    refine E_store rfl rfl rfl ?_
    refine E_load rfl rfl rfl ?_
    refine E_null0 rfl (fun q1 => ?_) (fun q1 => ?_)
    · exfalso; omega
    · refine E_load rfl rfl rfl ?_
      refine E_load rfl rfl rfl ?_
      refine E_V1 (q := 0) (c := 11) (y := 119) rfl rfl (hL.lt 0 rfl) (hL.k 0 rfl) rfl rfl rfl rfl (c_isG hL hR hG (by omega)) (fun r h2 hq => ?_)
      obtain ⟨rfl, hh⟩ := hq
      subst hh
      refine E_if1 rfl (bI_R _) (fun q2 => ?_) (fun q2 => ?_)
      · replace q2 := bI_nz q2
        obtain ⟨g, rfl⟩ := Int.eq_ofNat_of_zero_le q2.1
        have hmg := nM g (by omega)
        have hbs := hG.bs (b := b) (by omega)
        refine E_load rfl rfl rfl ?_
        refine E_getrB (r := (B b + 1)) rfl (show (B b) < mN h by have := (hR.bot b (by first | omega | (rw [upd1_ne (by omega)]; omega) | (rw [upd1_ne (by omega), upd1_ne (by omega)]; omega))).1.1.1; omega) (hR.bot b (by first | omega | (rw [upd1_ne (by omega)]; omega) | (rw [upd1_ne (by omega), upd1_ne (by omega)]; omega))).1.isB rfl ((hR.bot b (by first | omega | (rw [upd1_ne (by omega)]; omega) | (rw [upd1_ne (by omega), upd1_ne (by omega)]; omega))).1.2.1.2.2.2.1) ?_
        refine E_getf (c := 6) (v := (0, (s (19 + b)))) rfl (show (B b + 1) < mN h by have := (hR.bot b (by first | omega | (rw [upd1_ne (by omega)]; omega) | (rw [upd1_ne (by omega), upd1_ne (by omega)]; omega))).1.1.1; omega) (hR.bot b (by first | omega | (rw [upd1_ne (by omega)]; omega) | (rw [upd1_ne (by omega), upd1_ne (by omega)]; omega))).1.2.2.1.2.1 rfl (fv ((hR.bot b (by first | omega | (rw [upd1_ne (by omega)]; omega) | (rw [upd1_ne (by omega), upd1_ne (by omega)]; omega))).2.1.1.2.2.2.2)) ?_
        refine E_if0 rfl (by have := iB.2.2.2.1; omega) (fun q3 => ?_) (fun q3 => ?_)
        · refine E_load rfl rfl rfl ?_
          refine E_getrB (r := (B b + 1)) rfl (show (B b) < mN h by have := (hR.bot b (by first | omega | (rw [upd1_ne (by omega)]; omega) | (rw [upd1_ne (by omega), upd1_ne (by omega)]; omega))).1.1.1; omega) (hR.bot b (by first | omega | (rw [upd1_ne (by omega)]; omega) | (rw [upd1_ne (by omega), upd1_ne (by omega)]; omega))).1.isB rfl ((hR.bot b (by first | omega | (rw [upd1_ne (by omega)]; omega) | (rw [upd1_ne (by omega), upd1_ne (by omega)]; omega))).1.2.1.2.2.2.1) ?_
          refine E_const rfl ?_
          refine E_putzg (cl := 6) rfl (show (B b + 1) < mN h by have := (hR.bot b (by first | omega | (rw [upd1_ne (by omega)]; omega) | (rw [upd1_ne (by omega), upd1_ne (by omega)]; omega))).1.1.1; omega) (hR.bot b (by first | omega | (rw [upd1_ne (by omega)]; omega) | (rw [upd1_ne (by omega), upd1_ne (by omega)]; omega))).1.2.2.1.2.1 rfl (by decide) (fun c_1 hc_1 => ?_)
          have hR_1 : RepC h c_1 B (upd1 s (19 + b) 1) im hi L := by rw [hc_1]; exact hR.empty hAA (b := b) (by first | omega | (rw [upd1_ne (by omega)]; omega))
          have hA1 := Inv.empty hAA (b := b) (by omega)
          have hFr_1 : EqP FrC c c_1 := by rw [hc_1]; exact EqP.up (by unfold FrC; have := (hR.bot b (by omega)).2.2; omega)
          refine E_load rfl rfl rfl ?_
          refine E_getr (c := 11) (r := 4) rfl (hL.lt 0 rfl) (hL.k 0 rfl) rfl (hR_1.C.g 0 1 4 (by decide)) ?_
          refine E_load rfl rfl rfl ?_
          refine E_load rfl rfl rfl ?_
          refine E_load rfl rfl rfl ?_
          refine E_load rfl rfl rfl ?_
          refine E_getrB (r := (B b + 1)) rfl (show (B b) < mN h by have := (hR_1.bot b (by first | omega | (rw [upd1_ne (by omega)]; omega) | (rw [upd1_ne (by omega), upd1_ne (by omega)]; omega))).1.1.1; omega) (hR_1.bot b (by first | omega | (rw [upd1_ne (by omega)]; omega) | (rw [upd1_ne (by omega), upd1_ne (by omega)]; omega))).1.isB rfl ((hR_1.bot b (by rw [upd1_ne (by omega)]; omega)).1.2.1.2.2.2.1) ?_
          refine E_V2 (q := 0) (c := 11) (y := 122) rfl rfl (hL.lt 0 rfl) (hL.k 0 rfl) rfl rfl rfl rfl (c_sayN hL hR_1 hA1.G (b := b) (by rw [upd1_ne (by omega)]; omega)) (fun r h2 hq => ?_)
          obtain ⟨rfl, hh⟩ := hq
          subst hh
          rw [syS_empty hH (by omega) (by omega) iB.2.2.1]
          refine E_S3 (y := 127) rfl rfl rfl rfl rfl (c_lift (t := upd1 s (19 + b) 1) (k := g) (x := syS s b) (sh4 hL hR_1.C) hR_1.mood (by rw [upd1_ne (by omega)]; omega) (by rw [upd1_ne (by omega)]; omega) (by omega) (by rw [upd1_ne (by omega)]; exact hmg)) (fun r h2 hq => ?_)
          obtain ⟨rfl, c_2, hh, hc_2⟩ := hq
          subst hh
          have hR_2 : RepC h c_2 B (upd1 (upd1 s (19 + b) 1) (25 + g) (clI ((upd1 s (19 + b) 1) (25 + g) + syS s b) (-99) 99)) im hi L := by rw [hc_2]; exact hR_1.mood1 hA1 (by rw [upd1_ne (by omega)]; omega)
          have hFr_2 : EqP FrC c_1 c_2 := by rw [hc_2]; exact EqP.up (by unfold FrC; omega)
          refine E_iret rfl (fun h => absurd h (by decide)) ?_
          refine mutC ?_ hR_2 (hFr_1.trans hFr_2)
          unfold f_pour poS brS
          try simp only [Int.toNat_natCast]
          rw [if_neg (by omega), if_neg (by omega), upd1_comm (show 25 + g ≠ 19 + b by omega), upd1_ne (show 25 + g ≠ 19 + b by omega), upd1_same]
        · refine E_const rfl ?_
          refine E_iret rfl (fun h => absurd h (by decide)) ?_
          refine mutC (s' := s) ?_ hR EqP.nil
          unfold f_pour
          try simp only [Int.toNat_natCast]
          first | (exfalso; omega) | (rw [if_pos (by omega)] <;> rfl) | (rw [if_neg (by omega), if_pos (by omega)] <;> rfl) | (rw [if_neg (by omega)] <;> rfl) | (rw [if_neg (by omega), if_neg (by omega), if_pos (by omega)] <;> rfl) | (rw [if_neg (by omega), if_neg (by omega)] <;> rfl) | (rw [if_neg (by omega), if_neg (by omega), if_neg (by omega), if_pos (by omega)] <;> rfl) | (rw [if_neg (by omega), if_neg (by omega), if_neg (by omega)] <;> rfl) | (rw [if_neg (by omega), if_neg (by omega), if_neg (by omega), if_neg (by omega), if_pos (by omega)] <;> rfl) | (rw [if_neg (by omega), if_neg (by omega), if_neg (by omega), if_neg (by omega)] <;> rfl) | (rw [if_neg (by omega), if_neg (by omega), if_neg (by omega), if_neg (by omega), if_neg (by omega), if_pos (by omega)] <;> rfl) | (rw [if_neg (by omega), if_neg (by omega), if_neg (by omega), if_neg (by omega), if_neg (by omega)] <;> rfl) | (rw [if_neg (by omega), if_neg (by omega), if_neg (by omega), if_neg (by omega), if_neg (by omega), if_neg (by omega), if_pos (by omega)] <;> rfl) | (rw [if_neg (by omega), if_neg (by omega), if_neg (by omega), if_neg (by omega), if_neg (by omega), if_neg (by omega)] <;> rfl)
      · replace q2 := bI_z q2
        refine E_const rfl ?_
        refine E_iret rfl (fun h => absurd h (by decide)) ?_
        refine mutC (s' := s) ?_ hR EqP.nil
        unfold f_pour
        try simp only [Int.toNat_natCast]
        first | (exfalso; omega) | (rw [if_pos (by omega)] <;> rfl) | (rw [if_neg (by omega), if_pos (by omega)] <;> rfl) | (rw [if_neg (by omega)] <;> rfl) | (rw [if_neg (by omega), if_neg (by omega), if_pos (by omega)] <;> rfl) | (rw [if_neg (by omega), if_neg (by omega)] <;> rfl) | (rw [if_neg (by omega), if_neg (by omega), if_neg (by omega), if_pos (by omega)] <;> rfl) | (rw [if_neg (by omega), if_neg (by omega), if_neg (by omega)] <;> rfl) | (rw [if_neg (by omega), if_neg (by omega), if_neg (by omega), if_neg (by omega), if_pos (by omega)] <;> rfl) | (rw [if_neg (by omega), if_neg (by omega), if_neg (by omega), if_neg (by omega)] <;> rfl) | (rw [if_neg (by omega), if_neg (by omega), if_neg (by omega), if_neg (by omega), if_neg (by omega), if_pos (by omega)] <;> rfl) | (rw [if_neg (by omega), if_neg (by omega), if_neg (by omega), if_neg (by omega), if_neg (by omega)] <;> rfl) | (rw [if_neg (by omega), if_neg (by omega), if_neg (by omega), if_neg (by omega), if_neg (by omega), if_neg (by omega), if_pos (by omega)] <;> rfl) | (rw [if_neg (by omega), if_neg (by omega), if_neg (by omega), if_neg (by omega), if_neg (by omega), if_neg (by omega)] <;> rfl)
  · refine E_V1 (q := 0) (c := 11) (y := 120) rfl rfl (hL.lt 0 rfl) (hL.k 0 rfl) rfl rfl rfl rfl (c_bN hL hR (by omega) n29.1 hb) (fun r h2 hq => ?_)
    obtain ⟨rfl, hh⟩ := hq
    subst hh
    refine E_store rfl rfl rfl ?_
    refine E_load rfl rfl rfl ?_
    refine E_null0 rfl (fun q4 => ?_) (fun q4 => ?_)
    · refine E_const rfl ?_
      refine E_iret rfl (fun h => absurd h (by decide)) ?_
      refine mutC (s' := s) ?_ hR EqP.nil
      unfold f_pour
      try simp only [Int.toNat_natCast]
      first | (exfalso; omega) | (rw [if_pos (by omega)] <;> rfl) | (rw [if_neg (by omega), if_pos (by omega)] <;> rfl) | (rw [if_neg (by omega)] <;> rfl) | (rw [if_neg (by omega), if_neg (by omega), if_pos (by omega)] <;> rfl) | (rw [if_neg (by omega), if_neg (by omega)] <;> rfl) | (rw [if_neg (by omega), if_neg (by omega), if_neg (by omega), if_pos (by omega)] <;> rfl) | (rw [if_neg (by omega), if_neg (by omega), if_neg (by omega)] <;> rfl) | (rw [if_neg (by omega), if_neg (by omega), if_neg (by omega), if_neg (by omega), if_pos (by omega)] <;> rfl) | (rw [if_neg (by omega), if_neg (by omega), if_neg (by omega), if_neg (by omega)] <;> rfl) | (rw [if_neg (by omega), if_neg (by omega), if_neg (by omega), if_neg (by omega), if_neg (by omega), if_pos (by omega)] <;> rfl) | (rw [if_neg (by omega), if_neg (by omega), if_neg (by omega), if_neg (by omega), if_neg (by omega)] <;> rfl) | (rw [if_neg (by omega), if_neg (by omega), if_neg (by omega), if_neg (by omega), if_neg (by omega), if_neg (by omega), if_pos (by omega)] <;> rfl) | (rw [if_neg (by omega), if_neg (by omega), if_neg (by omega), if_neg (by omega), if_neg (by omega), if_neg (by omega)] <;> rfl)
    · exfalso; omega
set_option maxHeartbeats 4000000 in
set_option maxRecDepth 100000 in
theorem C_both {d : Nat} {h : Hp} {c : Nat → Nat → Int} {B : Nat → Nat} {s im : Nat → Int} {hi : Int} {L : List Int} (hL : Lay h) (hR : RepC h c B s im hi L) (hA : Inv s) {x : Int} (hx : inR x) {y : Int} (hy : inR y) {g0 : Int} (hg0 : inR g0) : Ok (d + 10) 84 [(1, ((0 : Nat) : Int)), (0, x), (0, y), (0, g0)] (wC h c) (fun r h2 => r = some (0, (f_both s x y g0).1) ∧ ∃ c2, h2 = wC h c2 ∧ RepC h c2 B (f_both s x y g0).2 im hi L ∧ EqP FrC c c2) := by
  show Ex _ none t_X10_both 0 0 _ [] (wC h c) _
  have hAA := hA
  have hG := hA.G
  obtain ⟨hI, hH, ⟨⟨n29, n30, n31, n32, n33, n34, n36⟩, nM⟩, hX⟩ := hA
  have hAA1 := hAA
  refine E_load rfl rfl rfl ?_
  refine E_load rfl rfl rfl ?_
  rcases Classical.em (0 ≤ x ∧ x < s 29) with hb | hb
  · obtain ⟨b, rfl⟩ := Int.eq_ofNat_of_zero_le hb.1
    have iB := hI b (by omega)
    refine E_V1 (q := 0) (c := 11) (y := 120) rfl rfl (hL.lt 0 rfl) (hL.k 0 rfl) rfl rfl rfl rfl (c_bY hL hR (b := b) (by omega)) (fun r h2 hq => ?_)
    obtain ⟨rfl, hh⟩ := hq
    subst hh
    refine E_store rfl rfl rfl ?_
    refine E_load rfl rfl rfl ?_
    refine E_load rfl rfl rfl ?_
    rcases Classical.em (0 ≤ y ∧ y < s 29) with hb2 | hb2
    · obtain ⟨b2, rfl⟩ := Int.eq_ofNat_of_zero_le hb2.1
      have iBb2 := hI b2 (by omega)
      refine E_V1 (q := 0) (c := 11) (y := 120) rfl rfl (hL.lt 0 rfl) (hL.k 0 rfl) rfl rfl rfl rfl (c_bY hL hR (b := b2) (by omega)) (fun r h2 hq => ?_)
      obtain ⟨rfl, hh⟩ := hq
      subst hh
      refine E_store rfl rfl rfl ?_
      refine E_load rfl rfl rfl ?_
      refine E_null0 rfl (fun q1 => ?_) (fun q1 => ?_)
      · exfalso; omega
      · refine E_load rfl rfl rfl ?_
        refine E_null0 rfl (fun q2 => ?_) (fun q2 => ?_)
        · exfalso; omega
        · refine E_load rfl rfl rfl ?_
          refine E_load rfl rfl rfl ?_
          refine E_V1 (q := 0) (c := 11) (y := 119) rfl rfl (hL.lt 0 rfl) (hL.k 0 rfl) rfl rfl rfl rfl (c_isG hL hR hG (by omega)) (fun r h2 hq => ?_)
          obtain ⟨rfl, hh⟩ := hq
          subst hh
          refine E_if1 rfl (bI_R _) (fun q3 => ?_) (fun q3 => ?_)
          · replace q3 := bI_nz q3
            obtain ⟨g, rfl⟩ := Int.eq_ofNat_of_zero_le q3.1
            have hmg := nM g (by omega)
            have hbs := hG.bs (b := b) (by omega)
            have hbs2 := hG.bs (b := b2) (by omega)
            have htd := td2 (x := syS s b + syS s b2) (by omega)
            refine E_load rfl rfl rfl ?_
            refine E_load rfl rfl rfl ?_
            refine E_cmp1 rfl (by omega) (fun q4 => ?_) (fun q4 => ?_)
            · refine E_load rfl rfl rfl ?_
              refine E_getrB (r := (B b + 1)) rfl (show (B b) < mN h by have := (hR.bot b (by first | omega | (rw [upd1_ne (by omega)]; omega) | (rw [upd1_ne (by omega), upd1_ne (by omega)]; omega))).1.1.1; omega) (hR.bot b (by first | omega | (rw [upd1_ne (by omega)]; omega) | (rw [upd1_ne (by omega), upd1_ne (by omega)]; omega))).1.isB rfl ((hR.bot b (by first | omega | (rw [upd1_ne (by omega)]; omega) | (rw [upd1_ne (by omega), upd1_ne (by omega)]; omega))).1.2.1.2.2.2.1) ?_
              refine E_getf (c := 6) (v := (0, (s (19 + b)))) rfl (show (B b + 1) < mN h by have := (hR.bot b (by first | omega | (rw [upd1_ne (by omega)]; omega) | (rw [upd1_ne (by omega), upd1_ne (by omega)]; omega))).1.1.1; omega) (hR.bot b (by first | omega | (rw [upd1_ne (by omega)]; omega) | (rw [upd1_ne (by omega), upd1_ne (by omega)]; omega))).1.2.2.1.2.1 rfl (fv ((hR.bot b (by first | omega | (rw [upd1_ne (by omega)]; omega) | (rw [upd1_ne (by omega), upd1_ne (by omega)]; omega))).2.1.1.2.2.2.2)) ?_
              refine E_if1 rfl (by have := iB.2.2.2.1; omega) (fun q5 => ?_) (fun q5 => ?_)
              · refine E_const rfl ?_
                refine E_iret rfl (fun h => absurd h (by decide)) ?_
                refine mutC (s' := s) ?_ hR EqP.nil
                unfold f_both
                try simp only [Int.toNat_natCast]
                first | (exfalso; omega) | (rw [if_pos (by omega)] <;> rfl) | (rw [if_neg (by omega), if_pos (by omega)] <;> rfl) | (rw [if_neg (by omega)] <;> rfl) | (rw [if_neg (by omega), if_neg (by omega), if_pos (by omega)] <;> rfl) | (rw [if_neg (by omega), if_neg (by omega)] <;> rfl) | (rw [if_neg (by omega), if_neg (by omega), if_neg (by omega), if_pos (by omega)] <;> rfl) | (rw [if_neg (by omega), if_neg (by omega), if_neg (by omega)] <;> rfl) | (rw [if_neg (by omega), if_neg (by omega), if_neg (by omega), if_neg (by omega), if_pos (by omega)] <;> rfl) | (rw [if_neg (by omega), if_neg (by omega), if_neg (by omega), if_neg (by omega)] <;> rfl) | (rw [if_neg (by omega), if_neg (by omega), if_neg (by omega), if_neg (by omega), if_neg (by omega), if_pos (by omega)] <;> rfl) | (rw [if_neg (by omega), if_neg (by omega), if_neg (by omega), if_neg (by omega), if_neg (by omega)] <;> rfl) | (rw [if_neg (by omega), if_neg (by omega), if_neg (by omega), if_neg (by omega), if_neg (by omega), if_neg (by omega), if_pos (by omega)] <;> rfl) | (rw [if_neg (by omega), if_neg (by omega), if_neg (by omega), if_neg (by omega), if_neg (by omega), if_neg (by omega)] <;> rfl)
              · refine E_load rfl rfl rfl ?_
                refine E_getrB (r := (B b2 + 1)) rfl (show (B b2) < mN h by have := (hR.bot b2 (by first | omega | (rw [upd1_ne (by omega)]; omega) | (rw [upd1_ne (by omega), upd1_ne (by omega)]; omega))).1.1.1; omega) (hR.bot b2 (by first | omega | (rw [upd1_ne (by omega)]; omega) | (rw [upd1_ne (by omega), upd1_ne (by omega)]; omega))).1.isB rfl ((hR.bot b2 (by first | omega | (rw [upd1_ne (by omega)]; omega) | (rw [upd1_ne (by omega), upd1_ne (by omega)]; omega))).1.2.1.2.2.2.1) ?_
                refine E_getf (c := 6) (v := (0, (s (19 + b2)))) rfl (show (B b2 + 1) < mN h by have := (hR.bot b2 (by first | omega | (rw [upd1_ne (by omega)]; omega) | (rw [upd1_ne (by omega), upd1_ne (by omega)]; omega))).1.1.1; omega) (hR.bot b2 (by first | omega | (rw [upd1_ne (by omega)]; omega) | (rw [upd1_ne (by omega), upd1_ne (by omega)]; omega))).1.2.2.1.2.1 rfl (fv ((hR.bot b2 (by first | omega | (rw [upd1_ne (by omega)]; omega) | (rw [upd1_ne (by omega), upd1_ne (by omega)]; omega))).2.1.1.2.2.2.2)) ?_
                refine E_if0 rfl (by have := iBb2.2.2.2.1; omega) (fun q6 => ?_) (fun q6 => ?_)
                · refine E_load rfl rfl rfl ?_
                  refine E_getrB (r := (B b + 1)) rfl (show (B b) < mN h by have := (hR.bot b (by first | omega | (rw [upd1_ne (by omega)]; omega) | (rw [upd1_ne (by omega), upd1_ne (by omega)]; omega))).1.1.1; omega) (hR.bot b (by first | omega | (rw [upd1_ne (by omega)]; omega) | (rw [upd1_ne (by omega), upd1_ne (by omega)]; omega))).1.isB rfl ((hR.bot b (by first | omega | (rw [upd1_ne (by omega)]; omega) | (rw [upd1_ne (by omega), upd1_ne (by omega)]; omega))).1.2.1.2.2.2.1) ?_
                  refine E_const rfl ?_
                  refine E_putzg (cl := 6) rfl (show (B b + 1) < mN h by have := (hR.bot b (by first | omega | (rw [upd1_ne (by omega)]; omega) | (rw [upd1_ne (by omega), upd1_ne (by omega)]; omega))).1.1.1; omega) (hR.bot b (by first | omega | (rw [upd1_ne (by omega)]; omega) | (rw [upd1_ne (by omega), upd1_ne (by omega)]; omega))).1.2.2.1.2.1 rfl (by decide) (fun c_1 hc_1 => ?_)
                  have hR_1 : RepC h c_1 B (upd1 s (19 + b) 1) im hi L := by rw [hc_1]; exact hR.empty hAA (b := b) (by first | omega | (rw [upd1_ne (by omega)]; omega))
                  have hA1 := Inv.empty hAA (b := b) (by omega)
                  have hFr_1 : EqP FrC c c_1 := by rw [hc_1]; exact EqP.up (by unfold FrC; have := (hR.bot b (by omega)).2.2; omega)
                  refine E_load rfl rfl rfl ?_
                  refine E_getrB (r := (B b2 + 1)) rfl (show (B b2) < mN h by have := (hR_1.bot b2 (by first | omega | (rw [upd1_ne (by omega)]; omega) | (rw [upd1_ne (by omega), upd1_ne (by omega)]; omega))).1.1.1; omega) (hR_1.bot b2 (by first | omega | (rw [upd1_ne (by omega)]; omega) | (rw [upd1_ne (by omega), upd1_ne (by omega)]; omega))).1.isB rfl ((hR_1.bot b2 (by rw [upd1_ne (by omega)]; omega)).1.2.1.2.2.2.1) ?_
                  refine E_const rfl ?_
                  refine E_putzg (cl := 6) rfl (show (B b2 + 1) < mN h by have := (hR_1.bot b2 (by first | omega | (rw [upd1_ne (by omega)]; omega) | (rw [upd1_ne (by omega), upd1_ne (by omega)]; omega))).1.1.1; omega) (hR_1.bot b2 (by first | omega | (rw [upd1_ne (by omega)]; omega) | (rw [upd1_ne (by omega), upd1_ne (by omega)]; omega))).1.2.2.1.2.1 rfl (by decide) (fun c_2 hc_2 => ?_)
                  have hR_2 : RepC h c_2 B (upd1 (upd1 s (19 + b) 1) (19 + b2) 1) im hi L := by rw [hc_2]; exact hR_1.empty hA1 (b := b2) (by first | omega | (rw [upd1_ne (by omega)]; omega))
                  have hA2 := Inv.empty hA1 (b := b2) (by omega)
                  have hFr_2 : EqP FrC c_1 c_2 := by rw [hc_2]; exact EqP.up (by unfold FrC; have := (hR.bot b2 (by omega)).2.2; omega)
                  refine E_load rfl rfl rfl ?_
                  refine E_getr (c := 11) (r := 4) rfl (hL.lt 0 rfl) (hL.k 0 rfl) rfl (hR_2.C.g 0 1 4 (by decide)) ?_
                  refine E_load rfl rfl rfl ?_
                  refine E_load rfl rfl rfl ?_
                  refine E_load rfl rfl rfl ?_
                  refine E_load rfl rfl rfl ?_
                  refine E_getrB (r := (B b + 1)) rfl (show (B b) < mN h by have := (hR_2.bot b (by first | omega | (rw [upd1_ne (by omega)]; omega) | (rw [upd1_ne (by omega), upd1_ne (by omega)]; omega))).1.1.1; omega) (hR_2.bot b (by first | omega | (rw [upd1_ne (by omega)]; omega) | (rw [upd1_ne (by omega), upd1_ne (by omega)]; omega))).1.isB rfl ((hR_2.bot b (by rw [upd1_ne (by omega), upd1_ne (by omega)]; omega)).1.2.1.2.2.2.1) ?_
                  refine E_V2 (q := 0) (c := 11) (y := 122) rfl rfl (hL.lt 0 rfl) (hL.k 0 rfl) rfl rfl rfl rfl (c_sayN hL hR_2 hA2.G (b := b) (by rw [upd1_ne (by omega), upd1_ne (by omega)]; omega)) (fun r h2 hq => ?_)
                  obtain ⟨rfl, hh⟩ := hq
                  subst hh
                  rw [syS_empty (s := upd1 s (19 + b) 1) (hH.ofE fun k hk => upd1_ne (by omega)) (by omega) (by omega) (by rw [upd1_ne (by omega)]; exact iB.2.2.1), syS_empty hH (by omega) (by omega) iB.2.2.1]
                  refine E_load rfl rfl rfl ?_
                  refine E_load rfl rfl rfl ?_
                  refine E_load rfl rfl rfl ?_
                  refine E_getrB (r := (B b2 + 1)) rfl (show (B b2) < mN h by have := (hR_2.bot b2 (by first | omega | (rw [upd1_ne (by omega)]; omega) | (rw [upd1_ne (by omega), upd1_ne (by omega)]; omega))).1.1.1; omega) (hR_2.bot b2 (by first | omega | (rw [upd1_ne (by omega)]; omega) | (rw [upd1_ne (by omega), upd1_ne (by omega)]; omega))).1.isB rfl ((hR_2.bot b2 (by rw [upd1_ne (by omega), upd1_ne (by omega)]; omega)).1.2.1.2.2.2.1) ?_
                  refine E_V2 (q := 0) (c := 11) (y := 122) rfl rfl (hL.lt 0 rfl) (hL.k 0 rfl) rfl rfl rfl rfl (c_sayN hL hR_2 hA2.G (b := b2) (by rw [upd1_ne (by omega), upd1_ne (by omega)]; omega)) (fun r h2 hq => ?_)
                  obtain ⟨rfl, hh⟩ := hq
                  subst hh
                  rw [syS_empty (s := upd1 s (19 + b) 1) (hH.ofE fun k hk => upd1_ne (by omega)) (by omega) (by omega) (by rw [upd1_ne (by omega)]; exact iBb2.2.2.1), syS_empty hH (by omega) (by omega) iBb2.2.2.1]
                  refine E_add rfl ?_
                  refine E_const rfl ?_
                  refine E_div rfl (by omega) (by omega) (by omega) ?_
                  refine E_S3 (y := 127) rfl rfl rfl rfl rfl (c_lift (t := upd1 (upd1 s (19 + b) 1) (19 + b2) 1) (k := g) (x := (syS s b + syS s b2).tdiv 2) (sh4 hL hR_2.C) hR_2.mood (by rw [upd1_ne (by omega), upd1_ne (by omega)]; omega) (by rw [upd1_ne (by omega), upd1_ne (by omega)]; omega) htd (by rw [upd1_ne (by omega), upd1_ne (by omega)]; exact hmg)) (fun r h2 hq => ?_)
                  obtain ⟨rfl, c_3, hh, hc_3⟩ := hq
                  subst hh
                  have hR_3 : RepC h c_3 B (upd1 (upd1 (upd1 s (19 + b) 1) (19 + b2) 1) (25 + g) (clI ((upd1 (upd1 s (19 + b) 1) (19 + b2) 1) (25 + g) + (syS s b + syS s b2).tdiv 2) (-99) 99)) im hi L := by rw [hc_3]; exact hR_2.mood1 hA2 (by rw [upd1_ne (by omega), upd1_ne (by omega)]; omega)
                  have hFr_3 : EqP FrC c_2 c_3 := by rw [hc_3]; exact EqP.up (by unfold FrC; omega)
                  refine E_iret rfl (fun h => absurd h (by decide)) ?_
                  refine mutC ?_ hR_3 (hFr_1.trans (hFr_2.trans hFr_3))
                  unfold f_both brS
                  try simp only [Int.toNat_natCast]
                  rw [if_neg (by omega), if_neg (by omega), if_neg (by omega), upd1_comm (show 25 + g ≠ 19 + b by omega), upd1_comm (show 25 + g ≠ 19 + b2 by omega), upd1_ne (show 25 + g ≠ 19 + b2 by omega), upd1_ne (show 25 + g ≠ 19 + b by omega), upd1_same]
                · refine E_const rfl ?_
                  refine E_iret rfl (fun h => absurd h (by decide)) ?_
                  refine mutC (s' := s) ?_ hR EqP.nil
                  unfold f_both
                  try simp only [Int.toNat_natCast]
                  first | (exfalso; omega) | (rw [if_pos (by omega)] <;> rfl) | (rw [if_neg (by omega), if_pos (by omega)] <;> rfl) | (rw [if_neg (by omega)] <;> rfl) | (rw [if_neg (by omega), if_neg (by omega), if_pos (by omega)] <;> rfl) | (rw [if_neg (by omega), if_neg (by omega)] <;> rfl) | (rw [if_neg (by omega), if_neg (by omega), if_neg (by omega), if_pos (by omega)] <;> rfl) | (rw [if_neg (by omega), if_neg (by omega), if_neg (by omega)] <;> rfl) | (rw [if_neg (by omega), if_neg (by omega), if_neg (by omega), if_neg (by omega), if_pos (by omega)] <;> rfl) | (rw [if_neg (by omega), if_neg (by omega), if_neg (by omega), if_neg (by omega)] <;> rfl) | (rw [if_neg (by omega), if_neg (by omega), if_neg (by omega), if_neg (by omega), if_neg (by omega), if_pos (by omega)] <;> rfl) | (rw [if_neg (by omega), if_neg (by omega), if_neg (by omega), if_neg (by omega), if_neg (by omega)] <;> rfl) | (rw [if_neg (by omega), if_neg (by omega), if_neg (by omega), if_neg (by omega), if_neg (by omega), if_neg (by omega), if_pos (by omega)] <;> rfl) | (rw [if_neg (by omega), if_neg (by omega), if_neg (by omega), if_neg (by omega), if_neg (by omega), if_neg (by omega)] <;> rfl)
            · refine E_const rfl ?_
              refine E_iret rfl (fun h => absurd h (by decide)) ?_
              refine mutC (s' := s) ?_ hR EqP.nil
              unfold f_both
              try simp only [Int.toNat_natCast]
              first | (exfalso; omega) | (rw [if_pos (by omega)] <;> rfl) | (rw [if_neg (by omega), if_pos (by omega)] <;> rfl) | (rw [if_neg (by omega)] <;> rfl) | (rw [if_neg (by omega), if_neg (by omega), if_pos (by omega)] <;> rfl) | (rw [if_neg (by omega), if_neg (by omega)] <;> rfl) | (rw [if_neg (by omega), if_neg (by omega), if_neg (by omega), if_pos (by omega)] <;> rfl) | (rw [if_neg (by omega), if_neg (by omega), if_neg (by omega)] <;> rfl) | (rw [if_neg (by omega), if_neg (by omega), if_neg (by omega), if_neg (by omega), if_pos (by omega)] <;> rfl) | (rw [if_neg (by omega), if_neg (by omega), if_neg (by omega), if_neg (by omega)] <;> rfl) | (rw [if_neg (by omega), if_neg (by omega), if_neg (by omega), if_neg (by omega), if_neg (by omega), if_pos (by omega)] <;> rfl) | (rw [if_neg (by omega), if_neg (by omega), if_neg (by omega), if_neg (by omega), if_neg (by omega)] <;> rfl) | (rw [if_neg (by omega), if_neg (by omega), if_neg (by omega), if_neg (by omega), if_neg (by omega), if_neg (by omega), if_pos (by omega)] <;> rfl) | (rw [if_neg (by omega), if_neg (by omega), if_neg (by omega), if_neg (by omega), if_neg (by omega), if_neg (by omega)] <;> rfl)
          · replace q3 := bI_z q3
            refine E_const rfl ?_
            refine E_iret rfl (fun h => absurd h (by decide)) ?_
            refine mutC (s' := s) ?_ hR EqP.nil
            unfold f_both
            try simp only [Int.toNat_natCast]
            first | (exfalso; omega) | (rw [if_pos (by omega)] <;> rfl) | (rw [if_neg (by omega), if_pos (by omega)] <;> rfl) | (rw [if_neg (by omega)] <;> rfl) | (rw [if_neg (by omega), if_neg (by omega), if_pos (by omega)] <;> rfl) | (rw [if_neg (by omega), if_neg (by omega)] <;> rfl) | (rw [if_neg (by omega), if_neg (by omega), if_neg (by omega), if_pos (by omega)] <;> rfl) | (rw [if_neg (by omega), if_neg (by omega), if_neg (by omega)] <;> rfl) | (rw [if_neg (by omega), if_neg (by omega), if_neg (by omega), if_neg (by omega), if_pos (by omega)] <;> rfl) | (rw [if_neg (by omega), if_neg (by omega), if_neg (by omega), if_neg (by omega)] <;> rfl) | (rw [if_neg (by omega), if_neg (by omega), if_neg (by omega), if_neg (by omega), if_neg (by omega), if_pos (by omega)] <;> rfl) | (rw [if_neg (by omega), if_neg (by omega), if_neg (by omega), if_neg (by omega), if_neg (by omega)] <;> rfl) | (rw [if_neg (by omega), if_neg (by omega), if_neg (by omega), if_neg (by omega), if_neg (by omega), if_neg (by omega), if_pos (by omega)] <;> rfl) | (rw [if_neg (by omega), if_neg (by omega), if_neg (by omega), if_neg (by omega), if_neg (by omega), if_neg (by omega)] <;> rfl)
    · refine E_V1 (q := 0) (c := 11) (y := 120) rfl rfl (hL.lt 0 rfl) (hL.k 0 rfl) rfl rfl rfl rfl (c_bN hL hR (by omega) n29.1 hb2) (fun r h2 hq => ?_)
      obtain ⟨rfl, hh⟩ := hq
      subst hh
      refine E_store rfl rfl rfl ?_
      refine E_load rfl rfl rfl ?_
      refine E_null0 rfl (fun q7 => ?_) (fun q7 => ?_)
      · exfalso; omega
      · refine E_load rfl rfl rfl ?_
        refine E_null0 rfl (fun q8 => ?_) (fun q8 => ?_)
        · refine E_const rfl ?_
          refine E_iret rfl (fun h => absurd h (by decide)) ?_
          refine mutC (s' := s) ?_ hR EqP.nil
          unfold f_both
          try simp only [Int.toNat_natCast]
          first | (exfalso; omega) | (rw [if_pos (by omega)] <;> rfl) | (rw [if_neg (by omega), if_pos (by omega)] <;> rfl) | (rw [if_neg (by omega)] <;> rfl) | (rw [if_neg (by omega), if_neg (by omega), if_pos (by omega)] <;> rfl) | (rw [if_neg (by omega), if_neg (by omega)] <;> rfl) | (rw [if_neg (by omega), if_neg (by omega), if_neg (by omega), if_pos (by omega)] <;> rfl) | (rw [if_neg (by omega), if_neg (by omega), if_neg (by omega)] <;> rfl) | (rw [if_neg (by omega), if_neg (by omega), if_neg (by omega), if_neg (by omega), if_pos (by omega)] <;> rfl) | (rw [if_neg (by omega), if_neg (by omega), if_neg (by omega), if_neg (by omega)] <;> rfl) | (rw [if_neg (by omega), if_neg (by omega), if_neg (by omega), if_neg (by omega), if_neg (by omega), if_pos (by omega)] <;> rfl) | (rw [if_neg (by omega), if_neg (by omega), if_neg (by omega), if_neg (by omega), if_neg (by omega)] <;> rfl) | (rw [if_neg (by omega), if_neg (by omega), if_neg (by omega), if_neg (by omega), if_neg (by omega), if_neg (by omega), if_pos (by omega)] <;> rfl) | (rw [if_neg (by omega), if_neg (by omega), if_neg (by omega), if_neg (by omega), if_neg (by omega), if_neg (by omega)] <;> rfl)
        · exfalso; omega
  · refine E_V1 (q := 0) (c := 11) (y := 120) rfl rfl (hL.lt 0 rfl) (hL.k 0 rfl) rfl rfl rfl rfl (c_bN hL hR (by omega) n29.1 hb) (fun r h2 hq => ?_)
    obtain ⟨rfl, hh⟩ := hq
    subst hh
    refine E_store rfl rfl rfl ?_
    refine E_load rfl rfl rfl ?_
    refine E_load rfl rfl rfl ?_
    rcases Classical.em (0 ≤ y ∧ y < s 29) with hb2 | hb2
    · obtain ⟨b2, rfl⟩ := Int.eq_ofNat_of_zero_le hb2.1
      have iBb2 := hI b2 (by omega)
      refine E_V1 (q := 0) (c := 11) (y := 120) rfl rfl (hL.lt 0 rfl) (hL.k 0 rfl) rfl rfl rfl rfl (c_bY hL hR (b := b2) (by omega)) (fun r h2 hq => ?_)
      obtain ⟨rfl, hh⟩ := hq
      subst hh
      refine E_store rfl rfl rfl ?_
      refine E_load rfl rfl rfl ?_
      refine E_null0 rfl (fun q9 => ?_) (fun q9 => ?_)
      · refine E_const rfl ?_
        refine E_iret rfl (fun h => absurd h (by decide)) ?_
        refine mutC (s' := s) ?_ hR EqP.nil
        unfold f_both
        try simp only [Int.toNat_natCast]
        first | (exfalso; omega) | (rw [if_pos (by omega)] <;> rfl) | (rw [if_neg (by omega), if_pos (by omega)] <;> rfl) | (rw [if_neg (by omega)] <;> rfl) | (rw [if_neg (by omega), if_neg (by omega), if_pos (by omega)] <;> rfl) | (rw [if_neg (by omega), if_neg (by omega)] <;> rfl) | (rw [if_neg (by omega), if_neg (by omega), if_neg (by omega), if_pos (by omega)] <;> rfl) | (rw [if_neg (by omega), if_neg (by omega), if_neg (by omega)] <;> rfl) | (rw [if_neg (by omega), if_neg (by omega), if_neg (by omega), if_neg (by omega), if_pos (by omega)] <;> rfl) | (rw [if_neg (by omega), if_neg (by omega), if_neg (by omega), if_neg (by omega)] <;> rfl) | (rw [if_neg (by omega), if_neg (by omega), if_neg (by omega), if_neg (by omega), if_neg (by omega), if_pos (by omega)] <;> rfl) | (rw [if_neg (by omega), if_neg (by omega), if_neg (by omega), if_neg (by omega), if_neg (by omega)] <;> rfl) | (rw [if_neg (by omega), if_neg (by omega), if_neg (by omega), if_neg (by omega), if_neg (by omega), if_neg (by omega), if_pos (by omega)] <;> rfl) | (rw [if_neg (by omega), if_neg (by omega), if_neg (by omega), if_neg (by omega), if_neg (by omega), if_neg (by omega)] <;> rfl)
      · exfalso; omega
    · refine E_V1 (q := 0) (c := 11) (y := 120) rfl rfl (hL.lt 0 rfl) (hL.k 0 rfl) rfl rfl rfl rfl (c_bN hL hR (by omega) n29.1 hb2) (fun r h2 hq => ?_)
      obtain ⟨rfl, hh⟩ := hq
      subst hh
      refine E_store rfl rfl rfl ?_
      refine E_load rfl rfl rfl ?_
      refine E_null0 rfl (fun q10 => ?_) (fun q10 => ?_)
      · refine E_const rfl ?_
        refine E_iret rfl (fun h => absurd h (by decide)) ?_
        refine mutC (s' := s) ?_ hR EqP.nil
        unfold f_both
        try simp only [Int.toNat_natCast]
        first | (exfalso; omega) | (rw [if_pos (by omega)] <;> rfl) | (rw [if_neg (by omega), if_pos (by omega)] <;> rfl) | (rw [if_neg (by omega)] <;> rfl) | (rw [if_neg (by omega), if_neg (by omega), if_pos (by omega)] <;> rfl) | (rw [if_neg (by omega), if_neg (by omega)] <;> rfl) | (rw [if_neg (by omega), if_neg (by omega), if_neg (by omega), if_pos (by omega)] <;> rfl) | (rw [if_neg (by omega), if_neg (by omega), if_neg (by omega)] <;> rfl) | (rw [if_neg (by omega), if_neg (by omega), if_neg (by omega), if_neg (by omega), if_pos (by omega)] <;> rfl) | (rw [if_neg (by omega), if_neg (by omega), if_neg (by omega), if_neg (by omega)] <;> rfl) | (rw [if_neg (by omega), if_neg (by omega), if_neg (by omega), if_neg (by omega), if_neg (by omega), if_pos (by omega)] <;> rfl) | (rw [if_neg (by omega), if_neg (by omega), if_neg (by omega), if_neg (by omega), if_neg (by omega)] <;> rfl) | (rw [if_neg (by omega), if_neg (by omega), if_neg (by omega), if_neg (by omega), if_neg (by omega), if_neg (by omega), if_pos (by omega)] <;> rfl) | (rw [if_neg (by omega), if_neg (by omega), if_neg (by omega), if_neg (by omega), if_neg (by omega), if_neg (by omega)] <;> rfl)
      · exfalso; omega
