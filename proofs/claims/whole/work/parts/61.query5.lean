theorem low_eq {s : Nat → Int} (hG : InvG s) {up p : Int} {bad : Prop} [Decidable bad] (hbad : ¬ bad) : (if bad ∨ ¬ btw 0 p 1 ∨ fuN s = 0 then NOI else lowS up (cnN (fuN s) 6 : Int) p) = (if cnN (fuN s) 6 = 0 ∨ ¬ btw 0 p 1 then NOI else lowS up (cnN (fuN s) 6 : Int) p) := by
  have e : cnN (fuN s) 6 = 0 ↔ fuN s = 0 := by
    constructor
    · intro h
      exact cn0 ⟨fuN s, fuN_lt hG.2.2.1.1.2⟩ h
    · intro h
      rw [h]; decide
  by_cases h1 : ¬ btw 0 p 1
  · rw [if_pos (Or.inr (Or.inl h1)), if_pos (Or.inr h1)]
  · by_cases h2 : fuN s = 0
    · rw [if_pos (Or.inr (Or.inr h2)), if_pos (Or.inl (e.mpr h2))]
    · rw [if_neg (fun z => by rcases z with z | z | z; exact hbad z; exact h1 z; exact h2 z), if_neg (fun z => by rcases z with z | z; exact h2 (e.mp z); exact h1 z)]
set_option maxHeartbeats 4000000 in
set_option maxRecDepth 100000 in
theorem Cl_odds {d : Nat} {h : Hp} {B : Nat → Nat} {s im : Nat → Int} {hi : Int} {L : List Int} (hL : Lay h) (hG : InvG s) {k : Nat} (hk : (k : Int) < s 36) {m p : Int} (hm : inR m) (hp : inR p) : ∀ (n i : Nat), i + n = (s 29).toNat → ∀ (a : Int) (v6 : AV), a = odS s k m i → ∀ c, RepC h c B s im hi L → Ex (d + 12) none t_X10_odds 0 29 [(1, ((0 : Nat) : Int)), (0, (k : Int)), (0, m), (0, p), (0, a), (0, (i : Int)), v6] [] (wC h c) (fun r h2 => r = some (2, if cnN (fuN s) 6 = 0 ∨ ¬ btw 0 p 1 then NOI else lowS (odS s k m (s 29).toNat) (cnN (fuN s) 6 : Int) p) ∧ h2 = wC h c) := by
  have hGG := hG
  obtain ⟨hI, hH, ⟨⟨n29, n30, n31, n32, n33, n34, n36⟩, nM⟩⟩ := hGG
  intro n
  induction n with
  | zero =>
    intro i hin a v6 ha c hR 
    have hod := odS_in (s := s) (k := k) (m := m) i
    have hfl := fuN_lt n29.2
    have hcl := cnN_le (fuN s) 6
    have hmk := nM k (by omega)
    refine E_load rfl rfl rfl ?_
    refine E_load rfl rfl rfl ?_
    refine E_getr (c := 11) (r := 42) rfl (hL.lt 0 rfl) (hL.k 0 rfl) rfl (hR.C.g 0 11 42 (by decide)) ?_
    refine E_V0 (q := 42) (c := 0) (y := 3) rfl rfl (hL.lt 42 rfl) (hL.k 42 rfl) rfl rfl rfl rfl (j_size hL hR.list) (fun r h2 hq => ?_)
    obtain ⟨rfl, hh⟩ := hq
    subst hh
    refine E_cmp3 rfl (by omega) (fun q1 => ?_) (fun q1 => ?_)
    · refine E_load rfl rfl rfl ?_
      refine E_load rfl rfl rfl ?_
      refine E_V0 (q := 0) (c := 11) (y := 124) rfl rfl (hL.lt 0 rfl) (hL.k 0 rfl) rfl rfl rfl rfl (c_full hL hR hG) (fun r h2 hq => ?_)
      obtain ⟨rfl, hh⟩ := hq
      subst hh
      refine E_S1 (y := 228) rfl rfl rfl rfl rfl (j_bitCount (by omega)) (fun r h2 hq => ?_)
      obtain ⟨rfl, hh⟩ := hq
      subst hh
      refine E_load rfl rfl rfl ?_
      refine E_S3 (y := 118) rfl rfl rfl rfl rfl (c_frac (by omega) (by omega) (by omega)) (fun r h2 hq => ?_)
      obtain ⟨rfl, hh⟩ := hq
      subst hh
      refine E_lret rfl ?_
      exact ⟨by rw [ha, show i = (s 29).toNat by omega], rfl⟩
    · exfalso; omega
  | succ n ih =>
    intro i hin a v6 ha c hR 
    have hod := odS_in (s := s) (k := k) (m := m) i
    have hfl := fuN_lt n29.2
    have hcl := cnN_le (fuN s) 6
    have hmk := nM k (by omega)
    refine E_load rfl rfl rfl ?_
    refine E_load rfl rfl rfl ?_
    refine E_getr (c := 11) (r := 42) rfl (hL.lt 0 rfl) (hL.k 0 rfl) rfl (hR.C.g 0 11 42 (by decide)) ?_
    refine E_V0 (q := 42) (c := 0) (y := 3) rfl rfl (hL.lt 42 rfl) (hL.k 42 rfl) rfl rfl rfl rfl (j_size hL hR.list) (fun r h2 hq => ?_)
    obtain ⟨rfl, hh⟩ := hq
    subst hh
    refine E_cmp3 rfl (by omega) (fun q1 => ?_) (fun q1 => ?_)
    · exfalso; omega
    · refine E_load rfl rfl rfl ?_
      refine E_getr (c := 11) (r := 42) rfl (hL.lt 0 rfl) (hL.k 0 rfl) rfl (hR.C.g 0 11 42 (by decide)) ?_
      refine E_load rfl rfl rfl ?_
      refine E_V1 (q := 42) (c := 0) (y := 5) rfl rfl (hL.lt 42 rfl) (hL.k 42 rfl) rfl rfl rfl rfl (j_get hL hR.list (by omega)) (fun r h2 hq => ?_)
      obtain ⟨rfl, hh⟩ := hq
      subst hh
      refine E_castB rfl (show (B i) < mN h by have := (hR.bot i (by omega)).1.1.1; omega) (hR.bot i (by omega)).1.isB ?_
      refine E_store rfl rfl rfl ?_
      refine E_load rfl rfl rfl ?_
      refine E_getrB (r := (B i + 1)) rfl (show (B i) < mN h by have := (hR.bot i (by omega)).1.1.1; omega) (hR.bot i (by omega)).1.isB rfl ((hR.bot i (by omega)).1.2.1.2.2.2.1) ?_
      refine E_getf (c := 6) (v := (0, (s (19 + i)))) rfl (show (B i + 1) < mN h by have := (hR.bot i (by omega)).1.1.1; omega) (hR.bot i (by omega)).1.2.2.1.2.1 rfl (fv ((hR.bot i (by omega)).2.1.1.2.2.2.2)) ?_
      refine E_if1 rfl (by have := (hI i (by omega)).2.2.2.1; omega) (fun q2 => ?_) (fun q2 => ?_)
      · refine E_iinc rfl rfl rfl ?_
        refine E_goto rfl ?_
        exact ih (i + 1) (by omega) _ _ (by rw [ha, odS, if_neg (fun z => by have z1 := z.1; omega)]) c hR
      · have hbs := hG.bs (b := i) (by omega)
        have hci := clI_in (x := s (25 + k) + syS s i)
        refine E_load rfl rfl rfl ?_
        refine E_getr (c := 11) (r := 4) rfl (hL.lt 0 rfl) (hL.k 0 rfl) rfl (hR.C.g 0 1 4 (by decide)) ?_
        refine E_load rfl rfl rfl ?_
        refine E_const rfl ?_
        refine E_V2 (q := 4) (c := 8) (y := 60) rfl rfl (hL.lt 4 rfl) (hL.k 4 rfl) rfl rfl rfl rfl (s_atv (sh4 hL hR.C) (by decide) (by decide) (by omega) (by omega) (by rw [hR.mood.1]; omega) (by rw [hR.mood.1]; omega) (atM (by rw [hR.mood.1]; omega) (hR.mood.2 k (by omega)))) (fun r h2 hq => ?_)
        obtain ⟨rfl, hh⟩ := hq
        subst hh
        refine E_load rfl rfl rfl ?_
        refine E_load rfl rfl rfl ?_
        refine E_load rfl rfl rfl ?_
        refine E_getrB (r := (B i + 1)) rfl (show (B i) < mN h by have := (hR.bot i (by omega)).1.1.1; omega) (hR.bot i (by omega)).1.isB rfl ((hR.bot i (by omega)).1.2.1.2.2.2.1) ?_
        refine E_V2 (q := 0) (c := 11) (y := 122) rfl rfl (hL.lt 0 rfl) (hL.k 0 rfl) rfl rfl rfl rfl (c_sayN hL hR hG (b := i) (by omega)) (fun r h2 hq => ?_)
        obtain ⟨rfl, hh⟩ := hq
        subst hh
        refine E_add rfl ?_
        refine E_S1 (y := 114) rfl rfl rfl rfl rfl (c_held (by omega)) (fun r h2 hq => ?_)
        obtain ⟨rfl, hh⟩ := hq
        subst hh
        refine E_load rfl rfl rfl ?_
        refine E_cmp2 rfl (by omega) (fun q3 => ?_) (fun q3 => ?_)
        · refine E_iinc rfl rfl rfl ?_
          refine E_goto rfl ?_
          exact ih (i + 1) (by omega) _ _ (by rw [ha, odS, if_neg (fun z => by have z1 := z.2; omega)]) c hR
        · refine E_iinc rfl rfl rfl ?_
          refine E_iinc rfl rfl rfl ?_
          refine E_goto rfl ?_
          exact ih (i + 1) (by omega) _ _ (by rw [ha, odS, if_pos ⟨by omega, by omega⟩]) c hR
set_option maxHeartbeats 4000000 in
set_option maxRecDepth 100000 in
theorem C_odds {d : Nat} {h : Hp} {c : Nat → Nat → Int} {B : Nat → Nat} {s im : Nat → Int} {hi : Int} {L : List Int} (hL : Lay h) (hR : RepC h c B s im hi L) (hA : Inv s) {x : Int} (hx : inR x) {m : Int} (hm : inR m) {p : Int} (hp : inR p) : Ok (d + 14) 99 [(1, ((0 : Nat) : Int)), (0, x), (0, m), (0, p)] (wC h c) (fun r h2 => r = some (2, a_odds s x m p) ∧ ∃ c2, h2 = wC h c2 ∧ EqP (ScrP B (s 29)) c c2) := by
  show Ex _ none t_X10_odds 0 0 _ [] (wC h c) _
  have hAA := hA
  have hG := hA.G
  obtain ⟨hI, hH, ⟨⟨n29, n30, n31, n32, n33, n34, n36⟩, nM⟩, hX⟩ := hA
  refine E_load rfl rfl rfl ?_
  refine E_load rfl rfl rfl ?_
  refine E_V1 (q := 0) (c := 11) (y := 119) rfl rfl (hL.lt 0 rfl) (hL.k 0 rfl) rfl rfl rfl rfl (c_isG hL hR hG (by omega)) (fun r h2 hq => ?_)
  obtain ⟨rfl, hh⟩ := hq
  subst hh
  refine E_if0 rfl (bI_R _) (fun q1 => ?_) (fun q1 => ?_)
  · replace q1 := bI_z q1
    refine E_lcon rfl ?_
    refine E_lret rfl ?_
    refine qrycL ?_ EqP.nil
    unfold a_odds
    rw [if_pos (by omega)]
  · replace q1 := bI_nz q1
    obtain ⟨k, rfl⟩ := Int.eq_ofNat_of_zero_le q1.1
    refine E_load rfl rfl rfl ?_
    refine E_const rfl ?_
    refine E_const rfl ?_
    refine E_S3 (y := 111) rfl rfl rfl rfl rfl (c_within (by omega) (by omega) (by omega)) (fun r h2 hq => ?_)
    obtain ⟨rfl, hh⟩ := hq
    subst hh
    refine E_if1 rfl (bI_R _) (fun q2 => ?_) (fun q2 => ?_)
    · replace q2 := bI_nz q2
      refine E_const rfl ?_
      refine E_store rfl rfl rfl ?_
      refine E_const rfl ?_
      refine E_store rfl rfl rfl ?_
      refine (Cl_odds hL hG (by omega) hm hp _ 0 (Nat.zero_add _) 0 _ rfl c hR).mono ?_
      rintro r hE ⟨rfl, rfl⟩
      refine qrycL ?_ EqP.nil
      unfold a_odds
      rw [Int.toNat_natCast, ← low_eq (bad := ¬ isG s (k : Int) ∨ ¬ btw (-99) m 99) hG (by omega)]
      simp only [or_assoc]
    · replace q2 := bI_z q2
      refine E_lcon rfl ?_
      refine E_lret rfl ?_
      refine qrycL ?_ EqP.nil
      unfold a_odds
      rw [if_pos (by omega)]
set_option maxHeartbeats 4000000 in
set_option maxRecDepth 100000 in
theorem C_mean {d : Nat} {h : Hp} {c : Nat → Nat → Int} {B : Nat → Nat} {s im : Nat → Int} {hi : Int} {L : List Int} (hL : Lay h) (hR : RepC h c B s im hi L) (hA : Inv s) {n : Int} (hn : inR n) {p : Int} (hp : inR p) : Ok (d + 14) 100 [(1, ((0 : Nat) : Int)), (0, n), (0, p)] (wC h c) (fun r h2 => r = some (2, a_mean s n p) ∧ ∃ c2, h2 = wC h c2 ∧ EqP (ScrP B (s 29)) c c2) := by
  show Ex _ none t_X10_mean 0 0 _ [] (wC h c) _
  have hAA := hA
  have hG := hA.G
  obtain ⟨hI, hH, ⟨⟨n29, n30, n31, n32, n33, n34, n36⟩, nM⟩, hX⟩ := hA
  refine E_load rfl rfl rfl ?_
  refine E_const rfl ?_
  refine E_const rfl ?_
  refine E_S3 (y := 111) rfl rfl rfl rfl rfl (c_within (by omega) (by omega) (by omega)) (fun r h2 hq => ?_)
  obtain ⟨rfl, hh⟩ := hq
  subst hh
  refine E_if1 rfl (bI_R _) (fun q1 => ?_) (fun q1 => ?_)
  · replace q1 := bI_nz q1
    obtain ⟨m, rfl⟩ := Int.eq_ofNat_of_zero_le q1.1
    have hG2 := hG.goN m
    have hal := alS_in hG2
    have hfl := fuN_lt n29.2
    have hcl := cnN_le (fuN s) 6
    refine E_load rfl rfl rfl ?_
    refine E_load rfl rfl rfl ?_
    refine E_V1 (q := 0) (c := 11) (y := 123) rfl rfl (hL.lt 0 rfl) (hL.k 0 rfl) rfl rfl rfl rfl (c_allSay hL hR hG (m := m) (by omega)) (fun r h2 hq => ?_)
    obtain ⟨rfl, c_1, hh, hE_1⟩ := hq
    subst hh
    have hR_1 := hR.scr hE_1
    refine E_load rfl rfl rfl ?_
    refine E_V0 (q := 0) (c := 11) (y := 124) rfl rfl (hL.lt 0 rfl) (hL.k 0 rfl) rfl rfl rfl rfl (c_full hL hR_1 hG) (fun r h2 hq => ?_)
    obtain ⟨rfl, hh⟩ := hq
    subst hh
    refine E_S1 (y := 228) rfl rfl rfl rfl rfl (j_bitCount (by omega)) (fun r h2 hq => ?_)
    obtain ⟨rfl, hh⟩ := hq
    subst hh
    refine E_load rfl rfl rfl ?_
    refine E_S3 (y := 118) rfl rfl rfl rfl rfl (c_frac (by omega) (by omega) (by omega)) (fun r h2 hq => ?_)
    obtain ⟨rfl, hh⟩ := hq
    subst hh
    refine E_lret rfl ?_
    refine qrycL ?_ hE_1
    unfold a_mean
    rw [Int.toNat_natCast]
    exact low_eq (bad := ¬ btw 0 (m : Int) 60) hG (by omega)
  · replace q1 := bI_z q1
    refine E_lcon rfl ?_
    refine E_lret rfl ?_
    refine qrycL ?_ EqP.nil
    unfold a_mean
    rw [if_pos (by omega)]
theorem nrI_mood {s : Nat → Int} (hG : InvG s) {g n : Nat} (hg : (g : Int) < s 36) : goN s n (25 + g) = nrI (s (25 + g)) (tlI s 228 0 * (n : Int)) := goN_mood hG hg n
theorem Sh.of {h : Hp} {c c2 : Nat → Nat → Int} {a w m : Nat} (hS : Sh h c a w m) (e : ∀ k, k ≤ 2 → c2 a k = c a k) : Sh h c2 a w m := by
  obtain ⟨s1, s2, s3, s4, s5, s6, s7, s8, s9⟩ := hS
  exact ⟨s1, s2, s3, s4, s5, s6, (e 0 (by omega)).trans s7, (e 1 (by omega)).trans s8, (e 2 (by omega)).trans s9⟩
set_option maxHeartbeats 4000000 in
set_option maxRecDepth 100000 in
theorem cl_calm {d : Nat} {h : Hp} {s : Nat → Int} (hG : InvG s) {a m : Nat} {by_ : Int} (hby : by_ = tlI s 228 0 * (m : Int)) (hm : m ≤ 100) {v0 v2 : AV} : ∀ (n i : Nat), i + n = (s 36).toNat → ∀ c, Sh h c a 1 4 → c a 3 = s 36 → (∀ k : Nat, k < i → c (a + 1) k = goN s m (25 + k)) → (∀ k : Nat, i ≤ k → (k : Int) < s 36 → c (a + 1) k = s (25 + k)) → Ex (d + 3) none t_X10_calmDown 0 13 [v0, (1, ((a : Nat) : Int)), v2, (0, by_), (0, (i : Int))] [] (wC h c) (fun r h2 => r = none ∧ ∃ c2, h2 = wC h c2 ∧ MoodR (c2 a 3) (c2 (a + 1)) (goN s m) ∧ EqP (fun b _ => b = a + 1) c c2) := by
  have hGG := hG
  obtain ⟨hI, hH, ⟨n29, n30, n31, n32, n33, n34, n36⟩, nM⟩ := hG
  have hca := tl_calm hH
  have hb0 : 0 ≤ by_ ∧ by_ ≤ 99 * 100 := by
    rw [hby]
    exact ⟨Int.mul_nonneg hca.1 (by omega), Int.le_trans (Int.mul_le_mul_of_nonneg_right hca.2 (by omega)) (Int.mul_le_mul_of_nonneg_left (by omega) (by omega))⟩
  intro n
  induction n with
  | zero =>
    intro i hin c hS h3 hd hs
    refine E_load rfl rfl rfl ?_
    refine E_load rfl rfl rfl ?_
    refine E_getf (c := 8) (v := (0, (s 36))) rfl (show a < mN h by have := hS.1; omega) hS.2.1 rfl (fv (h3)) ?_
    refine E_cmp3 rfl (by omega) (fun q1 => ?_) (fun q1 => ?_)
    · refine E_vret rfl ?_
      exact ⟨rfl, c, rfl, ⟨by rw [h3, goN_hi hGG (by omega)], fun k hk => hd k (by rw [goN_hi hGG (by omega)] at hk; omega)⟩, EqP.nil⟩
    · exfalso; omega
  | succ n ih =>
    intro i hin c hS h3 hd hs
    have hmi := nM i (by omega)
    refine E_load rfl rfl rfl ?_
    refine E_load rfl rfl rfl ?_
    refine E_getf (c := 8) (v := (0, (s 36))) rfl (show a < mN h by have := hS.1; omega) hS.2.1 rfl (fv (h3)) ?_
    refine E_cmp3 rfl (by omega) (fun q1 => ?_) (fun q1 => ?_)
    · exfalso; omega
    · refine E_load rfl rfl rfl ?_
      refine E_load rfl rfl rfl ?_
      refine E_load rfl rfl rfl ?_
      refine E_load rfl rfl rfl ?_
      refine E_const rfl ?_
      refine E_V2 (q := a) (c := 8) (y := 60) rfl rfl (show a < mN h by have := hS.1; omega) hS.2.1 rfl rfl rfl rfl (s_atv (v := s (25 + i)) hS (by decide) (by decide) (by omega) (by omega) (by rw [h3]; omega) (by rw [h3]; omega) (atM (by rw [h3]; omega) (hs i (by omega) (by omega)))) (fun r h2 hq => ?_)
      obtain ⟨rfl, hh⟩ := hq
      subst hh
      refine E_load rfl rfl rfl ?_
      refine E_S2 (y := 113) rfl rfl rfl rfl rfl (c_nearer (by omega) (by omega)) (fun r h2 hq => ?_)
      obtain ⟨rfl, hh⟩ := hq
      subst hh
      refine E_V2 (q := a) (c := 8) (y := 61) rfl rfl (show a < mN h by have := hS.1; omega) hS.2.1 rfl rfl rfl rfl (s_put hS (by decide) (by decide) (by omega) (by rw [h3]; omega) (by rw [h3]; omega) (by rw [h3]; omega)) (fun r h2 hq => ?_)
      obtain ⟨rfl, c_1, hh, hc_1⟩ := hq
      subst hh
      rw [show ((i : Int) * ((1 : Nat) : Int)).toNat = i by omega] at hc_1
      have hE_1 : EqP (fun b _ => b = a + 1) c c_1 := by rw [hc_1]; exact EqP.up rfl
      refine E_iinc rfl rfl rfl ?_
      refine E_goto rfl ?_
      refine (ih (i + 1) (by omega) c_1 (hS.of fun k hk => hE_1 a k (by omega)) ((hE_1 a 3 (by omega)).trans h3) (fun k hk => ?_) (fun k hk hk2 => ?_)).mono ?_
      · rw [hc_1]
        by_cases e : k = i
        · rw [e, nrI_mood hGG (by omega), ← hby]; exact up2_same
        · rw [up2_fldN (by omega)]; exact hd k (by omega)
      · rw [hc_1, up2_fldN (by omega)]; exact hs k (by omega) hk2
      rintro r hE ⟨e1, c9, e2, e4, e3⟩
      exact ⟨e1, c9, e2, e4, EqP.trans hE_1 e3⟩
set_option maxHeartbeats 4000000 in
set_option maxRecDepth 100000 in
theorem c_calmD {d : Nat} {h : Hp} {c : Nat → Nat → Int} {B : Nat → Nat} {s im : Nat → Int} {hi : Int} {L : List Int} (hL : Lay h) (hR : RepC h c B s im hi L) (hG : InvG s) {a m : Nat} (hS : Sh h c a 1 4) (hM : MoodR (c a 3) (c (a + 1)) s) (hm : m ≤ 100) : Ok (d + 5) 128 [(1, ((0 : Nat) : Int)), (1, ((a : Nat) : Int)), (0, (m : Int))] (wC h c) (fun r h2 => r = none ∧ ∃ c2, h2 = wC h c2 ∧ MoodR (c2 a 3) (c2 (a + 1)) (goN s m) ∧ EqP (fun b _ => b = a + 1) c c2) := by
  show Ex _ none t_X10_calmDown 0 0 _ [] (wC h c) _
  refine E_load rfl rfl rfl ?_
  refine E_getr (c := 11) (r := 28) rfl (hL.lt 0 rfl) (hL.k 0 rfl) rfl (hR.C.g 0 9 28 (by decide)) ?_
  refine E_V0 (q := 28) (c := 2) (y := 23) rfl rfl (hL.lt 28 rfl) (hL.k 28 rfl) rfl rfl rfl rfl (c_calmR hL hR) (fun r h2 hq => ?_)
  obtain ⟨rfl, hh⟩ := hq
  subst hh
  refine E_load rfl rfl rfl ?_
  refine E_mul rfl ?_
  refine E_store rfl rfl rfl ?_
  refine E_const rfl ?_
  refine E_store rfl rfl rfl ?_
  exact cl_calm hG rfl hm _ 0 (Nat.zero_add _) c hS hM.1 (fun k hk => absurd hk (Nat.not_lt_zero k)) (fun k _ hk => hM.2 k hk)
