theorem Cl_pairB {d : Nat} {h : Hp} {c : Nat → Nat → Int} {B : Nat → Nat} {s im : Nat → Int} {hi : Int} {L : List Int} (hL : Lay h) (hR : RepC h c B s im hi L) (hG : InvG s) (hSd : SaidR c s) {a : Nat} (ha6 : (a : Int) < s 29) {st : Int × Int} {Q : Option AV → Hp → Prop}
    (K : ∀ (a1 a2 : Int) (v5 v6 : AV), (a1, a2) = prB s a st ((s 29).toNat - (a + 1)) → Ex (d + 4) none t_X10_pair 0 17 [(1, ((0 : Nat) : Int)), (0, (fuN s : Int)), (0, a1), (0, a2), (0, ((a + 1 : Nat) : Int)), v5, v6] [] (wC h c) Q) :
    ∀ (n i : Nat), i + n = (s 29).toNat - (a + 1) → ∀ (a1 a2 : Int) (v6 : AV), (a1, a2) = prB s a st i ∧ (inR a1 ∧ inR a2) → Ex (d + 4) none t_X10_pair 0 37 [(1, ((0 : Nat) : Int)), (0, (fuN s : Int)), (0, a1), (0, a2), (0, (a : Int)), (0, ((a + 1 + i : Nat) : Int)), v6] [] (wC h c) Q := by
  have hGG := hG
  obtain ⟨hI, hH, ⟨n29, n30, n31, n32, n33, n34, n36⟩, nM⟩ := hG
  have hfl := fuN_lt n29.2
  intro n
  induction n with
  | zero =>
    intro i hin a1 a2 v6 hp
    refine E_load rfl rfl rfl ?_
    refine E_load rfl rfl rfl ?_
    refine E_getr (c := 11) (r := 42) rfl (hL.lt 0 rfl) (hL.k 0 rfl) rfl (hR.C.g 0 11 42 (by decide)) ?_
    refine E_V0 (q := 42) (c := 0) (y := 3) rfl rfl (hL.lt 42 rfl) (hL.k 42 rfl) rfl rfl rfl rfl (j_size hL hR.list) (fun r h2 hq => ?_)
    obtain ⟨rfl, hh⟩ := hq
    subst hh
    refine E_cmp3 rfl (by omega) (fun q1 => ?_) (fun q1 => ?_)
    · refine E_iinc rfl rfl rfl ?_
      refine E_goto rfl ?_
      exact K _ _ _ _ (by rw [← show i = (s 29).toNat - (a + 1) by omega]; exact hp.1)
    · exfalso; omega
  | succ n ih =>
    intro i hin a1 a2 v6 hp
    have y1 := hGG.bs (b := a) (by omega)
    have y2 := hGG.bs (b := a + 1 + i) (by omega)
    have z1 := (hI a (by omega)).2.2.2.1
    have z2 := (hI (a + 1 + i) (by omega)).2.2.2.1
    have hsz : -1000 ≤ szI (syS s a + syS s (a + 1 + i)) ∧ szI (syS s a + syS s (a + 1 + i)) ≤ 1000 := by unfold szI; split <;> omega
    have hst : prB s a st i = (a1, a2) := hp.1.symm
    have f1 : bt (fuN s) a = 1 ↔ s (19 + a) = 0 := by rw [fuN_bt (by omega)]; split <;> simp [*]
    have f2 : bt (fuN s) (a + 1 + i) = 1 ↔ s (19 + (a + 1 + i)) = 0 := by rw [fuN_bt (by omega)]; split <;> simp [*]
    refine E_load rfl rfl rfl ?_
    refine E_load rfl rfl rfl ?_
    refine E_getr (c := 11) (r := 42) rfl (hL.lt 0 rfl) (hL.k 0 rfl) rfl (hR.C.g 0 11 42 (by decide)) ?_
    refine E_V0 (q := 42) (c := 0) (y := 3) rfl rfl (hL.lt 42 rfl) (hL.k 42 rfl) rfl rfl rfl rfl (j_size hL hR.list) (fun r h2 hq => ?_)
    obtain ⟨rfl, hh⟩ := hq
    subst hh
    refine E_cmp3 rfl (by omega) (fun q1 => ?_) (fun q1 => ?_)
    · exfalso; omega
    · refine E_load rfl rfl rfl ?_
      refine E_getr (c := 11) (r := 22) rfl (hL.lt 0 rfl) (hL.k 0 rfl) rfl (hR.C.g 0 7 22 (by decide)) ?_
      refine E_load rfl rfl rfl ?_
      refine E_const rfl ?_
      refine E_V2 (q := 22) (c := 8) (y := 60) rfl rfl (hL.lt 22 rfl) (hL.k 22 rfl) rfl rfl rfl rfl (s_atv (v := syS s a) (sh22 hL hR.C) (by decide) (by decide) (by omega) (by omega) (by rw [hSd.1]; omega) (by rw [hSd.1]; omega) (atM (by rw [hSd.1]; omega) (hSd.2 a (by omega)))) (fun r h2 hq => ?_)
      obtain ⟨rfl, hh⟩ := hq
      subst hh
      refine E_load rfl rfl rfl ?_
      refine E_getr (c := 11) (r := 22) rfl (hL.lt 0 rfl) (hL.k 0 rfl) rfl (hR.C.g 0 7 22 (by decide)) ?_
      refine E_load rfl rfl rfl ?_
      refine E_const rfl ?_
      refine E_V2 (q := 22) (c := 8) (y := 60) rfl rfl (hL.lt 22 rfl) (hL.k 22 rfl) rfl rfl rfl rfl (s_atv (v := syS s (a + 1 + i)) (sh22 hL hR.C) (by decide) (by decide) (by omega) (by omega) (by rw [hSd.1]; omega) (by rw [hSd.1]; omega) (atM (by rw [hSd.1]; omega) (hSd.2 (a + 1 + i) (by omega)))) (fun r h2 hq => ?_)
      obtain ⟨rfl, hh⟩ := hq
      subst hh
      refine E_add rfl ?_
      refine E_abs rfl (by omega) rfl ?_
      refine E_store rfl rfl rfl ?_
      refine E_load rfl rfl rfl ?_
      refine E_load rfl rfl rfl ?_
      refine E_S2 (y := 112) rfl rfl rfl rfl rfl (c_isIn (x := fuN s) (b := a) hfl (by omega)) (fun r h2 hq => ?_)
      obtain ⟨rfl, hh⟩ := hq
      subst hh
      refine E_if0 rfl (bI_R _) (fun q2 => ?_) (fun q2 => ?_)
      · replace q2 := bI_z q2
        refine E_iinc rfl rfl rfl ?_
        refine E_goto rfl ?_
        exact ih (i + 1) (by omega) _ _ _ ⟨by rw [prB, hst, prC, if_neg (fun w1 => by have w2 : a1 = -5 ∨ szI (syS s a + syS s (a + 1 + i)) < a2 := w1.2; have w3 := w1.1; omega)], hp.2⟩
      · replace q2 := bI_nz q2
        refine E_load rfl rfl rfl ?_
        refine E_load rfl rfl rfl ?_
        refine E_S2 (y := 112) rfl rfl rfl rfl rfl (c_isIn (x := fuN s) (b := (a + 1 + i)) hfl (by omega)) (fun r h2 hq => ?_)
        obtain ⟨rfl, hh⟩ := hq
        subst hh
        refine E_if0 rfl (bI_R _) (fun q3 => ?_) (fun q3 => ?_)
        · replace q3 := bI_z q3
          refine E_iinc rfl rfl rfl ?_
          refine E_goto rfl ?_
          exact ih (i + 1) (by omega) _ _ _ ⟨by rw [prB, hst, prC, if_neg (fun w1 => by have w2 : a1 = -5 ∨ szI (syS s a + syS s (a + 1 + i)) < a2 := w1.2; have w3 := w1.1; omega)], hp.2⟩
        · replace q3 := bI_nz q3
          refine E_load rfl rfl rfl ?_
          refine E_const rfl ?_
          refine E_cmp0 rfl (by omega) (fun q4 => ?_) (fun q4 => ?_)
          · refine E_load rfl rfl rfl ?_
            refine E_store rfl rfl rfl ?_
            refine E_const rfl ?_
            refine E_load rfl rfl rfl ?_
            refine E_mul rfl ?_
            refine E_load rfl rfl rfl ?_
            refine E_add rfl ?_
            refine E_store rfl rfl rfl ?_
            refine E_iinc rfl rfl rfl ?_
            refine E_goto rfl ?_
            exact ih (i + 1) (by omega) _ _ _ ⟨by rw [prB, hst, prC, if_pos ⟨by omega, Or.inl (by assumption)⟩], by omega, by omega⟩
          · refine E_load rfl rfl rfl ?_
            refine E_load rfl rfl rfl ?_
            refine E_cmp3 rfl (by omega) (fun q5 => ?_) (fun q5 => ?_)
            · refine E_iinc rfl rfl rfl ?_
              refine E_goto rfl ?_
              exact ih (i + 1) (by omega) _ _ _ ⟨by rw [prB, hst, prC, if_neg (fun w1 => by have w2 : a1 = -5 ∨ szI (syS s a + syS s (a + 1 + i)) < a2 := w1.2; have w3 := w1.1; omega)], hp.2⟩
            · refine E_load rfl rfl rfl ?_
              refine E_store rfl rfl rfl ?_
              refine E_const rfl ?_
              refine E_load rfl rfl rfl ?_
              refine E_mul rfl ?_
              refine E_load rfl rfl rfl ?_
              refine E_add rfl ?_
              refine E_store rfl rfl rfl ?_
              refine E_iinc rfl rfl rfl ?_
              refine E_goto rfl ?_
              exact ih (i + 1) (by omega) _ _ _ ⟨by rw [prB, hst, prC, if_pos ⟨by omega, Or.inr (by assumption)⟩], by omega, by omega⟩
set_option maxHeartbeats 4000000 in
set_option maxRecDepth 100000 in
theorem Cl_pairA {d : Nat} {h : Hp} {B : Nat → Nat} {s im : Nat → Int} {hi : Int} {L : List Int} (hL : Lay h) (hG : InvG s)  : ∀ (n i : Nat), i + n = (s 29).toNat → ∀ (a1 a2 : Int) (v5 v6 : AV), (a1, a2) = prA s i → ∀ c, RepC h c B s im hi L → SaidR c s → Ex (d + 4) none t_X10_pair 0 17 [(1, ((0 : Nat) : Int)), (0, (fuN s : Int)), (0, a1), (0, a2), (0, (i : Int)), v5, v6] [] (wC h c) (fun r h2 => r = some (0, (prA s (s 29).toNat).1) ∧ h2 = wC h c) := by
  have hGG := hG
  obtain ⟨hI, hH, ⟨⟨n29, n30, n31, n32, n33, n34, n36⟩, nM⟩⟩ := hGG
  intro n
  induction n with
  | zero =>
    intro i hin a1 a2 v5 v6 ha c hR hSd
    refine E_load rfl rfl rfl ?_
    refine E_load rfl rfl rfl ?_
    refine E_getr (c := 11) (r := 42) rfl (hL.lt 0 rfl) (hL.k 0 rfl) rfl (hR.C.g 0 11 42 (by decide)) ?_
    refine E_V0 (q := 42) (c := 0) (y := 3) rfl rfl (hL.lt 42 rfl) (hL.k 42 rfl) rfl rfl rfl rfl (j_size hL hR.list) (fun r h2 hq => ?_)
    obtain ⟨rfl, hh⟩ := hq
    subst hh
    refine E_cmp3 rfl (by omega) (fun q1 => ?_) (fun q1 => ?_)
    · refine E_load rfl rfl rfl ?_
      refine E_iret rfl (fun h => absurd h (by decide)) ?_
      exact ⟨by rw [show (s 29).toNat = i by omega, ← ha], rfl⟩
    · exfalso; omega
  | succ n ih =>
    intro i hin a1 a2 v5 v6 ha c hR hSd
    refine E_load rfl rfl rfl ?_
    refine E_load rfl rfl rfl ?_
    refine E_getr (c := 11) (r := 42) rfl (hL.lt 0 rfl) (hL.k 0 rfl) rfl (hR.C.g 0 11 42 (by decide)) ?_
    refine E_V0 (q := 42) (c := 0) (y := 3) rfl rfl (hL.lt 42 rfl) (hL.k 42 rfl) rfl rfl rfl rfl (j_size hL hR.list) (fun r h2 hq => ?_)
    obtain ⟨rfl, hh⟩ := hq
    subst hh
    refine E_cmp3 rfl (by omega) (fun q1 => ?_) (fun q1 => ?_)
    · exfalso; omega
    · refine E_load rfl rfl rfl ?_
      refine E_const rfl ?_
      refine E_add rfl ?_
      refine E_store rfl rfl rfl ?_
      exact Cl_pairB hL hR hG hSd (a := i) (by omega) (st := prA s i) (fun a1 a2 v5 v6 e => ih (i + 1) (by omega) a1 a2 v5 v6 e c hR hSd) _ 0 (Nat.zero_add _) a1 a2 v6 ⟨ha, by have := prA_in hG i (by omega); rw [← ha] at this; simp only at this; exact ⟨by omega, by omega⟩⟩
set_option maxHeartbeats 4000000 in
set_option maxRecDepth 100000 in
theorem C_pair {d : Nat} {h : Hp} {c : Nat → Nat → Int} {B : Nat → Nat} {s im : Nat → Int} {hi : Int} {L : List Int} (hL : Lay h) (hR : RepC h c B s im hi L) (hA : Inv s)  : Ok (d + 14) 92 [(1, ((0 : Nat) : Int))] (wC h c) (fun r h2 => r = some (0, a_pair s) ∧ ∃ c2, h2 = wC h c2 ∧ EqP (ScrP B (s 29)) c c2) := by
  show Ex _ none t_X10_pair 0 0 _ [] (wC h c) _
  have hAA := hA
  have hG := hA.G
  obtain ⟨hI, hH, ⟨⟨n29, n30, n31, n32, n33, n34, n36⟩, nM⟩, hX⟩ := hA
  refine E_load rfl rfl rfl ?_
  refine E_V0 (q := 0) (c := 11) (y := 125) rfl rfl (hL.lt 0 rfl) (hL.k 0 rfl) rfl rfl rfl rfl (c_hear hL hR hG) (fun r h2 hq => ?_)
  obtain ⟨rfl, c_1, hh, hS_1, hE0_1⟩ := hq
  subst hh
  have hE_1 : EqP (ScrP B (s 29)) c c_1 := hE0_1.mono (fun a k e => Or.inl (by unfold fixS; omega))
  have hR_1 := hR.scr hE_1
  refine E_load rfl rfl rfl ?_
  refine E_V0 (q := 0) (c := 11) (y := 124) rfl rfl (hL.lt 0 rfl) (hL.k 0 rfl) rfl rfl rfl rfl (c_full hL hR_1 hG) (fun r h2 hq => ?_)
  obtain ⟨rfl, hh⟩ := hq
  subst hh
  refine E_store rfl rfl rfl ?_
  refine E_const rfl ?_
  refine E_store rfl rfl rfl ?_
  refine E_const rfl ?_
  refine E_store rfl rfl rfl ?_
  refine E_const rfl ?_
  refine E_store rfl rfl rfl ?_
  refine (Cl_pairA hL hG _ 0 (Nat.zero_add _) (-5) 0 _ _ rfl c_1 hR_1 hS_1).mono ?_
  rintro r hE ⟨rfl, rfl⟩
  exact qryc rfl hE_1
theorem gcd_top {a b g : Nat} (hb : 0 < b) (h1 : g ∣ a) (h2 : g ∣ b) (hno : ∀ k, g < k → k ≤ b → k ∣ a → ¬ k ∣ b) : Nat.gcd a b = g := by
  have d1 : g ∣ Nat.gcd a b := Nat.dvd_gcd h1 h2
  have hp : 0 < Nat.gcd a b := Nat.gcd_pos_of_pos_right _ hb
  have hle : g ≤ Nat.gcd a b := Nat.le_of_dvd hp d1
  have hle2 : Nat.gcd a b ≤ b := Nat.le_of_dvd hb (Nat.gcd_dvd_right a b)
  rcases Nat.lt_or_ge g (Nat.gcd a b) with h | h
  · exact absurd (Nat.gcd_dvd_right a b) (hno _ h hle2 (Nat.gcd_dvd_left a b))
  · omega
theorem tmod_dvd {x : Int} {k : Nat} : x.tmod (k : Int) = 0 ↔ k ∣ x.natAbs := by
  rw [← Int.dvd_iff_tmod_eq_zero, Int.ofNat_dvd_left]
theorem tmod_in2 {x : Int} {k : Nat} (hx : -100000 ≤ x ∧ x ≤ 100000) (hk : 0 < k ∧ k ≤ 1000) : -1000 ≤ x.tmod (k : Int) ∧ x.tmod (k : Int) ≤ 1000 := by
  have h3 := Int.tmod_lt_of_pos x (show (0 : Int) < (k : Int) by omega)
  have h4 : -(k : Int) < x.tmod (k : Int) := by
    have := Int.tmod_lt_of_pos (-x) (show (0 : Int) < (k : Int) by omega)
    rw [Int.neg_tmod] at this
    omega
  omega
set_option maxRecDepth 100000 in
theorem cl_frac {d : Nat} {h : Hp} {above : Int} {below : Nat} {part : Int} (h1 : -100000 ≤ above ∧ above ≤ 100000) (h2 : 0 < below ∧ below ≤ 1000) (h3 : inR part) : ∀ (n by_ : Nat), by_ ≤ n + 1 → 1 ≤ by_ ∧ by_ ≤ below → (∀ k, by_ < k → k ≤ below → k ∣ above.natAbs → ¬ k ∣ below) → ∀ whole : Int, whole = (if part = 0 then above else (below : Int)) → Ex d none t_X10_fraction 0 31 [(0, above), (0, (below : Int)), (0, part), (0, whole), (0, (by_ : Int))] [] h (fun r h2 => r = some (2, lowS above (below : Int) part) ∧ h2 = h) := by
  intro n
  induction n with
  | zero =>
    intro k hk hk2 hno whole hw
    have e : k = 1 := by omega
    subst e
    have hwr : -100000 ≤ whole ∧ whole ≤ 100000 := by rw [hw]; split <;> omega
    refine E_load rfl rfl rfl ?_
    refine E_const rfl ?_
    refine E_cmp5 rfl (by omega) (fun q1 => ?_) (fun q1 => ?_)
    · refine E_load rfl rfl rfl ?_
      refine E_i2l rfl (by omega) ?_
      refine E_lret rfl ?_
      refine ⟨congrArg (fun z : Int => some (((2 : Nat), z) : AV)) ?_, rfl⟩
      have eg : Nat.gcd above.natAbs (below : Int).natAbs = 1 := gcd_top (by omega) (Nat.one_dvd _) (Nat.one_dvd _) (fun k h5 h6 h7 => by rw [Int.natAbs_natCast] at h6 ⊢; exact hno k h5 h6 h7)
      unfold lowS
      rw [eg, ← hw]
      exact (Int.tdiv_one whole).symm
    · exfalso; omega
  | succ n ih =>
    intro k hk hk2 hno whole hw
    by_cases hkn : k ≤ n + 1
    · exact ih k hkn hk2 hno whole hw
    have hwr : -100000 ≤ whole ∧ whole ≤ 100000 := by rw [hw]; split <;> omega
    have t1 := tmod_in2 (x := above) (k := k) (by omega) (by omega)
    have t2 := tmod_in2 (x := (below : Int)) (k := k) (by omega) (by omega)
    have t3 := tdiv_in (x := whole) (y := (k : Int)) (by omega) (by omega)
    refine E_load rfl rfl rfl ?_
    refine E_const rfl ?_
    refine E_cmp5 rfl (by omega) (fun q1 => ?_) (fun q1 => ?_)
    · exfalso; omega
    · refine E_load rfl rfl rfl ?_
      refine E_load rfl rfl rfl ?_
      refine E_rem rfl (by omega) (by omega) (by omega) ?_
      refine E_if1 rfl (by omega) (fun q2 => ?_) (fun q2 => ?_)
      · refine E_iinc rfl rfl rfl ?_
        refine E_goto rfl ?_
        rw [show (k : Int) + -1 = ((k - 1 : Nat) : Int) by omega]
        exact ih (k - 1) (by omega) (by omega) (fun j h5 h6 h7 h8 => by
          rcases Nat.lt_or_ge k j with h9 | h9
          · exact hno j h9 h6 h7 h8
          · have e9 : j = k := by omega
            subst e9
            exact q2 (tmod_dvd.mpr h7)) whole hw
      · refine E_load rfl rfl rfl ?_
        refine E_load rfl rfl rfl ?_
        refine E_rem rfl (by omega) (by omega) (by omega) ?_
        refine E_if1 rfl (by omega) (fun q3 => ?_) (fun q3 => ?_)
        · refine E_iinc rfl rfl rfl ?_
          refine E_goto rfl ?_
          rw [show (k : Int) + -1 = ((k - 1 : Nat) : Int) by omega]
          exact ih (k - 1) (by omega) (by omega) (fun j h5 h6 h7 h8 => by
            rcases Nat.lt_or_ge k j with h9 | h9
            · exact hno j h9 h6 h7 h8
            · have e9 : j = k := by omega
              subst e9
              exact q3 (tmod_dvd.mpr (by rw [Int.natAbs_natCast]; exact h8))) whole hw
        · refine E_load rfl rfl rfl ?_
          refine E_load rfl rfl rfl ?_
          refine E_div rfl (by omega) (by omega) (by omega) ?_
          refine E_i2l rfl (by omega) ?_
          refine E_lret rfl ?_
          refine ⟨congrArg (fun z : Int => some (((2 : Nat), z) : AV)) ?_, rfl⟩
          have eg : Nat.gcd above.natAbs (below : Int).natAbs = k := gcd_top (by omega) (tmod_dvd.mp q2) (tmod_dvd.mp q3) (fun k h5 h6 h7 => by rw [Int.natAbs_natCast] at h6 ⊢; exact hno k h5 h6 h7)
          unfold lowS
          rw [eg, ← hw]
set_option maxHeartbeats 4000000 in
set_option maxRecDepth 100000 in
theorem c_frac {d : Nat} {h : Hp} {c : Nat → Nat → Int} {above : Int} {below : Nat} {part : Int} (h1 : -100000 ≤ above ∧ above ≤ 100000) (h2 : below ≤ 1000) (h3 : inR part) : Ok (d + 2) 118 [(0, above), (0, (below : Int)), (0, part)] (wC h c) (fun r h2 => r = some (2, if below = 0 ∨ ¬ btw 0 part 1 then NOI else lowS above (below : Int) part) ∧ h2 = wC h c) := by
  show Ex _ none t_X10_fraction 0 0 _ [] (wC h c) _
  refine E_load rfl rfl rfl ?_
  refine E_const rfl ?_
  refine E_cmp2 rfl (by omega) (fun q1 => ?_) (fun q1 => ?_)
  · refine E_lcon rfl ?_
    refine E_lret rfl ?_
    exact ⟨by rw [if_pos (by omega)], rfl⟩
  · refine E_load rfl rfl rfl ?_
    refine E_const rfl ?_
    refine E_const rfl ?_
    refine E_S3 (y := 111) rfl rfl rfl rfl rfl (c_within (by omega) (by omega) (by omega)) (fun r h2 hq => ?_)
    obtain ⟨rfl, hh⟩ := hq
    subst hh
    refine E_if1 rfl (bI_R _) (fun q2 => ?_) (fun q2 => ?_)
    · replace q2 := bI_nz q2
      refine E_load rfl rfl rfl ?_
      refine E_if1 rfl (by omega) (fun q3 => ?_) (fun q3 => ?_)
      · refine E_load rfl rfl rfl ?_
        refine E_store rfl rfl rfl ?_
        refine E_load rfl rfl rfl ?_
        refine E_store rfl rfl rfl ?_
        rw [if_neg (by omega)]
        exact cl_frac h1 (by omega) h3 below below (by omega) (by omega) (fun k h5 h6 => absurd h6 (by omega)) _ (by first | exact (if_pos (by assumption)).symm | exact (if_neg (by assumption)).symm)
      · refine E_load rfl rfl rfl ?_
        refine E_goto rfl ?_
        refine E_store rfl rfl rfl ?_
        refine E_load rfl rfl rfl ?_
        refine E_store rfl rfl rfl ?_
        rw [if_neg (by omega)]
        exact cl_frac h1 (by omega) h3 below below (by omega) (by omega) (fun k h5 h6 => absurd h6 (by omega)) _ (by first | exact (if_pos (by assumption)).symm | exact (if_neg (by assumption)).symm)
    · replace q2 := bI_z q2
      refine E_lcon rfl ?_
      refine E_lret rfl ?_
      exact ⟨by rw [if_pos (by omega)], rfl⟩
