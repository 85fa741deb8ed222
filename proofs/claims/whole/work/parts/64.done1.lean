/-- an evening is tried: moods and bottles lie as row t says -/
def TryR (c : Nat → Nat → Int) (B : Nat → Nat) (n : Int) (t : Nat → Int) : Prop := MoodR (c 7 3) (c 8) t ∧ ∀ b : Nat, (b : Int) < n → LaidS c (B b + 5) t b
abbrev PT1 (B : Nat → Nat) (b : Nat) (a k : Nat) : Prop := a = B b + (5 + 1) ∨ (a = B b + 5 ∧ 1 ≤ k ∧ k ≤ 5)
theorem laid_oth {h : Hp} {c c2 : Nat → Nat → Int} {B : Nat → Nat} {s im t : Nat → Int} {hi : Int} {L : List Int} (hR : RepC h c B s im hi L) {b b2 : Nat} (hb : (b : Int) < s 29) (hb2 : (b2 : Int) < s 29) (hne : b2 ≠ b) (hE : EqP (PT1 B b) c c2) (hV : LaidS c (B b2 + 5) t b2) : LaidS c2 (B b2 + 5) t b2 := by
  have hd := hR.dis b2 b hb2 hb hne
  exact hV.ofE (fun k => hE _ k (by omega)) (fun k => hE _ k (by omega))
theorem mood_oth {h : Hp} {c c2 : Nat → Nat → Int} {B : Nat → Nat} {s im t : Nat → Int} {hi : Int} {L : List Int} (hR : RepC h c B s im hi L) {b : Nat} (hb : (b : Int) < s 29) (hE : EqP (PT1 B b) c c2) (hM : MoodR (c 7 3) (c 8) t) : MoodR (c2 7 3) (c2 8) t := by
  have h55 := (hR.bot b hb).2.2
  rw [hE 7 3 (by omega), hE.row 8 (fun k => by omega)]
  exact hM
theorem c_nowP {d : Nat} {h : Hp} {c : Nat → Nat → Int} {B : Nat → Nat} {s im : Nat → Int} {hi : Int} {L : List Int} (hR : RepC h c B s im hi L) (hG : InvG s) {b : Nat} (hb : (b : Int) < s 29) : Ok (d + 2) 13 [(1, ((B b : Nat) : Int))] (wC h c) (fun r h2 => r = some (1, ((B b + 5 : Nat) : Int)) ∧ ∃ c2, h2 = wC h c2 ∧ LaidS c2 (B b + 5) s b ∧ EqP (PT1 B b) c c2) := by
  obtain ⟨b1, b2, b3⟩ := hR.bot b hb
  obtain ⟨i1, i2, i3, i4, i5, i6, i7⟩ := hG.1 b (by have := hG.2.2.1; omega)
  exact b_tryNow b1 b2 i4
theorem c_ageP {d : Nat} {h : Hp} {c : Nat → Nat → Int} {B : Nat → Nat} {s im t : Nat → Int} {hi : Int} {L : List Int} (hR : RepC h c B s im hi L) (hGt : InvG t) {b n : Nat} (hb : (b : Int) < s 29) (hbt : (b : Int) < t 29) (hn : n ≤ 100) (hV : LaidS c (B b + 5) t b) : Ok (d + 1) 52 [(1, ((B b + 5 : Nat) : Int)), (0, (n : Int))] (wC h c) (fun r h2 => r = none ∧ ∃ c2, h2 = wC h c2 ∧ LaidS c2 (B b + 5) (goN t n) b ∧ EqP (PT1 B b) c c2) := by
  obtain ⟨b1, b2, b3⟩ := hR.bot b hb
  obtain ⟨i1, i2, i3, i4, i5, i6, i7⟩ := hGt.1 b (by have := hGt.2.2.1; omega)
  refine (l_age b1.2.2.2.2 (by rw [hV.1.2.2.1]; exact i2) (by rw [hV.1.2.2.2.2]; exact i4) (by omega)).mono ?_
  rintro r hE ⟨h1, c2, h2, h3⟩
  rw [hV.1.2.2.2.2, hV.1.2.2.1] at h3
  refine ⟨h1, c2, h2, laid_go hGt hbt ?_, ?_⟩
  · rw [h3]
    by_cases h0 : t (19 + b) = 0
    · rw [if_pos h0, if_pos h0]
      exact ⟨⟨(up2_fldN (by omega)).trans hV.1.1, (up2_fldN (by omega)).trans hV.1.2.1, up2_same, (up2_fldN (by omega)).trans hV.1.2.2.2.1, (up2_fldN (by omega)).trans hV.1.2.2.2.2⟩, fun k hk => (up2_fldN (by omega)).trans (hV.2 k hk)⟩
    · rw [if_neg h0, if_neg h0]
      exact hV
  · rw [h3]
    split
    · exact EqP.up (by omega)
    · exact EqP.nil
theorem scr_PT {B : Nat → Nat} {n : Int} {b : Nat} (hb : (b : Int) < n) : ∀ a k, PT1 B b a k → ScrP B n a k := fun a k e => Or.inr ⟨b, hb, e⟩
theorem laid_e {c : Nat → Nat → Int} {q b : Nat} {t : Nat → Int} {x : Int} (hb : b < 6) (h : LaidS c q t b) : LaidS (up2 c q 5 x) q (upd1 t (19 + b) x) b := by
  unfold LaidS
  rw [upd1_ne (show 43 + b ≠ 19 + b by omega), upd1_ne (show 1 + b ≠ 19 + b by omega), upd1_ne (show 7 + b ≠ 19 + b by omega), upd1_ne (show 13 + b ≠ 19 + b by omega), upd1_same]
  exact ⟨⟨(up2_fldN (by omega)).trans h.1.1, (up2_fldN (by omega)).trans h.1.2.1, (up2_fldN (by omega)).trans h.1.2.2.1, (up2_fldN (by omega)).trans h.1.2.2.2.1, up2_same⟩, fun k hk => (up2_fldN (by omega)).trans ((h.2 k hk).trans (upd1_ne (by omega)).symm)⟩
theorem c_calmT {d : Nat} {h : Hp} {c : Nat → Nat → Int} {B : Nat → Nat} {s im t : Nat → Int} {hi : Int} {L : List Int} (hL : Lay h) (hR : RepC h c B s im hi L) (hGt : InvG t) (e : tlI t 228 0 = tlI s 228 0) {a m : Nat} (hS : Sh h c a 1 4) (hM : MoodR (c a 3) (c (a + 1)) t) (hm : m ≤ 100) : Ok (d + 5) 128 [(1, ((0 : Nat) : Int)), (1, ((a : Nat) : Int)), (0, (m : Int))] (wC h c) (fun r h2 => r = none ∧ ∃ c2, h2 = wC h c2 ∧ MoodR (c2 a 3) (c2 (a + 1)) (goN t m) ∧ EqP (fun b _ => b = a + 1) c c2) := by
  show Ex _ none t_X10_calmDown 0 0 _ [] (wC h c) _
  refine E_load rfl rfl rfl ?_
  refine E_getr (c := 11) (r := 28) rfl (hL.lt 0 rfl) (hL.k 0 rfl) rfl (hR.C.g 0 9 28 (by decide)) ?_
  refine E_V0 (q := 28) (c := 2) (y := 23) rfl rfl (hL.lt 28 rfl) (hL.k 28 rfl) rfl rfl rfl rfl (c_calmR hL hR) (fun r h2 hq => ?_)
  obtain ⟨rfl, hh⟩ := hq
  subst hh
  refine E_load rfl rfl rfl ?_
  refine E_mul rfl ?_
  refine E_store rfl rfl rfl ?_
  refine E_const rfl ?_
  refine E_store rfl rfl rfl ?_
  exact cl_calm hGt (by rw [e]) hm _ 0 (Nat.zero_add _) c hS hM.1 (fun k hk => absurd hk (Nat.not_lt_zero k)) (fun k _ hk => hM.2 k hk)
set_option maxHeartbeats 4000000 in
set_option maxRecDepth 100000 in
theorem c_lift {d : Nat} {h : Hp} {c : Nat → Nat → Int} {t : Nat → Int} {a k : Nat} {x : Int} (hS : Sh h c a 1 4) (hM : MoodR (c a 3) (c (a + 1)) t) (n36 : 0 ≤ t 36 ∧ t 36 ≤ 4) (hk : (k : Int) < t 36) (hx : -1000 ≤ x ∧ x ≤ 1000) (hmk : -99 ≤ t (25 + k) ∧ t (25 + k) ≤ 99) : Ok (d + 2) 127 [(1, ((a : Nat) : Int)), (0, (k : Int)), (0, x)] (wC h c) (fun r h2 => r = some (0, clI (t (25 + k) + x) (-99) 99) ∧ ∃ c2, h2 = wC h c2 ∧ c2 = up2 c (a + 1) k (clI (t (25 + k) + x) (-99) 99)) := by
  show Ex _ none t_X10_lift 0 0 _ [] (wC h c) _
  refine E_load rfl rfl rfl ?_
  refine E_load rfl rfl rfl ?_
  refine E_const rfl ?_
  refine E_V2 (q := a) (c := 8) (y := 60) rfl rfl (by have := hS.1; omega : a < mN h) hS.2.1 rfl rfl rfl rfl (s_atv hS (by decide) (by decide) (by omega) (by omega) (by rw [hM.1]; omega) (by rw [hM.1]; omega) (atM (by rw [hM.1]; omega) (hM.2 k hk))) (fun r h2 hq => ?_)
  obtain ⟨rfl, hh⟩ := hq
  subst hh
  refine E_load rfl rfl rfl ?_
  refine E_add rfl ?_
  refine E_S1 (y := 114) rfl rfl rfl rfl rfl (c_held (by omega)) (fun r h2 hq => ?_)
  obtain ⟨rfl, hh⟩ := hq
  subst hh
  refine E_store rfl rfl rfl ?_
  refine E_load rfl rfl rfl ?_
  refine E_load rfl rfl rfl ?_
  refine E_load rfl rfl rfl ?_
  refine E_V2 (q := a) (c := 8) (y := 61) rfl rfl (by have := hS.1; omega : a < mN h) hS.2.1 rfl rfl rfl rfl (s_put hS (by decide) (by decide) (by omega) (by rw [hM.1]; omega) (by rw [hM.1]; omega) (by rw [hM.1]; omega)) (fun r h2 hq => ?_)
  obtain ⟨rfl, c_1, hh, hc_1⟩ := hq
  subst hh
  rw [show ((k : Int) * ((1 : Nat) : Int)).toNat = k by omega] at hc_1
  refine E_load rfl rfl rfl ?_
  refine E_iret rfl (fun h => absurd h (by decide)) ?_
  exact ⟨rfl, c_1, rfl, hc_1⟩
