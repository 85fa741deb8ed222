theorem RepC.bodS {h : Hp} {c c2 : Nat → Nat → Int} {B : Nat → Nat} {s im : Nat → Int} {hi : Int} {L L2 : List Int} (hR : RepC h c B s im hi L) (hE : EqP PT9 c c2) (hT : BodR L2 (c2 19 3) (c2 20)) : RepC h c2 B s im hi L2 := by
  have row : ∀ a, a ≠ 19 → a ≠ 20 → c2 a = c a := fun a h1 h2 => funext fun k => hE a k (by unfold PT9; omega)
  have hCT : ∀ e ∈ CT, ¬ PT9 e.1 e.2.1 := by
    have : ∀ e ∈ CT, e.1 ≠ 20 ∧ (e.1 ≠ 19 ∨ e.2.1 ≠ 3) := by decide
    intro e he
    have := this e he
    unfold PT9
    omega
  refine ⟨hR.C.of fun e he => hE _ _ (hCT e he), ?_, ?_, ?_, ?_, ?_, ?_, hT, ?_, ?_, ?_, hR.dis, ?_, ?_⟩
  · rw [row 0 (by omega) (by omega)]; exact hR.2.1
  · rw [row 1 (by omega) (by omega), row 2 (by omega) (by omega)]; exact hR.tape
  · rw [row 4 (by omega) (by omega), row 5 (by omega) (by omega)]; exact hR.mood
  · rw [row 10 (by omega) (by omega), row 11 (by omega) (by omega)]; exact hR.seen
  · rw [row 13 (by omega) (by omega), row 14 (by omega) (by omega)]; exact hR.eve
  · rw [row 16 (by omega) (by omega), row 17 (by omega) (by omega)]; exact hR.book
  · rw [row 29 (by omega) (by omega), row 30 (by omega) (by omega), row 32 (by omega) (by omega), row 33 (by omega) (by omega)]; exact hR.held
  · exact hR.list.ofE (hE 42 1 (by unfold PT9; omega)) (hE 42 2 (by unfold PT9; omega)) fun E e1 e2 e3 k => hE E k (by unfold PT9; omega)
  · intro b hb
    obtain ⟨b1, b2, b3⟩ := hR.bot b hb
    have r : ∀ a, 55 ≤ a → ∀ k, c2 a k = c a k := fun a ha k => hE a k (by unfold PT9; omega)
    exact ⟨b1.ofE (r _ b3) (r _ (by omega) 0) (r _ (by omega) 0) (r _ (by omega) 0), b2.ofE (r _ (by omega)) (r _ (by omega)), b3⟩
  · rw [row 0 (by omega) (by omega)]; exact hR.none
  · intro h1
    obtain ⟨k1, k2, k3, k4, k5, k6, k7, k8, k9⟩ := hR.kept h1
    refine ⟨?_, ?_, ?_, ?_, ?_, ?_, ?_, k8, fun b hb => ?_⟩
    · rw [row 0 (by omega) (by omega)]; exact k1
    · rw [row 1 (by omega) (by omega), row 3 (by omega) (by omega)]; exact k2
    · rw [row 4 (by omega) (by omega), row 6 (by omega) (by omega)]; exact k3
    · rw [row 10 (by omega) (by omega), row 12 (by omega) (by omega)]; exact k4
    · rw [row 13 (by omega) (by omega), row 15 (by omega) (by omega)]; exact k5
    · rw [row 16 (by omega) (by omega), row 18 (by omega) (by omega)]; exact k6
    · rw [row 29 (by omega) (by omega), row 31 (by omega) (by omega), row 32 (by omega) (by omega), row 34 (by omega) (by omega)]; exact k7
    · have b3 := (hR.bot b (by omega)).2.2
      have r : ∀ a, 55 ≤ a → ∀ k, c2 a k = c a k := fun a ha k => hE a k (by unfold PT9; omega)
      exact ⟨(k9 b hb).1.ofE (r _ (by omega)) (r _ (by omega)), (k9 b hb).2⟩
theorem RepC.actR {h : Hp} {c : Nat → Nat → Int} {B : Nat → Nat} {s im : Nat → Int} {hi : Int} {L : List Int} (hR : RepC h c B s im hi L) {b : Nat} (hb : (b : Int) < s 29) : ActR h c (B b) b (s (37 + b)) (s (43 + b)) := ⟨hR.C, (hR.bot b hb).1, (hR.bot b hb).2.1.1.1, (hR.bot b hb).2.2⟩
theorem actC {h : Hp} {c c2 : Nat → Nat → Int} {B : Nat → Nat} {s im : Nat → Int} {hi : Int} {L : List Int} {F : Int × List Int} {v : Int} (e : F = (v, L)) (hR : RepC h c2 B s im hi L) (fr : EqP PT9 c c2) : some ((0, v) : AV) = some (0, F.1) ∧ ∃ c3, wC h c2 = wC h c3 ∧ RepC h c3 B s im hi F.2 ∧ EqP FrC c c3 := by
  subst e
  exact ⟨rfl, c2, rfl, hR, fr.mono (fun a k e => by unfold PT9 at e; unfold FrC; omega)⟩
set_option maxHeartbeats 4000000 in
set_option maxRecDepth 100000 in
theorem C_act {d : Nat} {h : Hp} {c : Nat → Nat → Int} {B : Nat → Nat} {s im : Nat → Int} {hi : Int} {L : List Int} (hL : Lay h) (hR : RepC h c B s im hi L) (hA : Inv s) {x : Int} (hx : inR x) {a : Int} (ha : inR a) {y : Int} : Ok (d + 8) 105 [(1, ((0 : Nat) : Int)), (0, x), (0, a), (0, y)] (wC h c) (fun r h2 => r = some (0, (f_act s x a y).1) ∧ ∃ c2, h2 = wC h c2 ∧ RepC h c2 B s im hi (f_act s x a y).2 ∧ EqP FrC c c2) := by
  show Ex _ none t_X10_act 0 0 _ [] (wC h c) _
  have hAA := hA
  have hG := hA.G
  obtain ⟨hI, hH, ⟨⟨n29, n30, n31, n32, n33, n34, n36⟩, nM⟩, hX⟩ := hA
  refine E_load rfl rfl rfl ?_
  refine E_getr (c := 11) (r := 19) rfl (hL.lt 0 rfl) (hL.k 0 rfl) rfl (hR.C.g 0 6 19 (by decide)) ?_
  refine E_V0 (q := 19) (c := 8) (y := 62) rfl rfl (hL.lt 19 rfl) (hL.k 19 rfl) rfl rfl rfl rfl (s_clear (sh19 hL hR.C) (by decide) (by decide)) (fun r h2 hq => ?_)
  obtain ⟨rfl, c_1, hh, hc_1⟩ := hq
  subst hh
  have hE_1 : EqP PT9 c c_1 := by rw [hc_1]; exact EqP.up (Or.inr ⟨rfl, rfl⟩)
  have hT_1 : BodR [] (c_1 19 3) (c_1 20) := by rw [hc_1]; exact ⟨up2_same, fun j hj => absurd hj (Nat.not_lt_zero j)⟩
  have hR_1 := hR.bodS hE_1 hT_1
  refine E_load rfl rfl rfl ?_
  refine E_load rfl rfl rfl ?_
  rcases Classical.em (0 ≤ x ∧ x < s 29) with hb | hb
  · obtain ⟨b, rfl⟩ := Int.eq_ofNat_of_zero_le hb.1
    have iB := hI b (by omega)
    refine E_V1 (q := 0) (c := 11) (y := 120) rfl rfl (hL.lt 0 rfl) (hL.k 0 rfl) rfl rfl rfl rfl (c_bY hL hR_1 (b := b) (by omega)) (fun r h2 hq => ?_)
    obtain ⟨rfl, hh⟩ := hq
    subst hh
    refine E_store rfl rfl rfl ?_
    refine E_load rfl rfl rfl ?_
    refine E_null1 rfl (fun q1 => ?_) (fun q1 => ?_)
    · refine E_load rfl rfl rfl ?_
      rcases (show a = 0 ∨ a = 1 ∨ a = 2 ∨ (a ≠ 0 ∧ a ≠ 1 ∧ a ≠ 2) by omega) with rfl | rfl | rfl | hno
      · refine E_sw (t := 48) rfl (by omega) (rfl) ?_
        refine E_load rfl rfl rfl ?_
        refine E_load rfl rfl rfl ?_
        have hb2 := (hR_1.bot b (by omega)).1
        obtain ⟨n, hn0, hn1, hm1, hm2, hm3⟩ := v_utters (d := d + 5) (x := y) hL (hR_1.actR (b := b) (by omega)) hR_1.bod (Nat.zero_le _) (by obtain ⟨i1, i2, i3, i4, i5, i6, i7⟩ := hI b (by omega); omega)
        refine E_V1 (q := B b) (c := mK h (B b)) (y := n) rfl rfl (show B b < mN h by have := hb2.1.1; omega) rfl hn1 hm1 rfl hm2 hm3 (fun r h2 hq => ?_)
        obtain ⟨rfl, c_2, hh, hT_2, hE_2⟩ := hq
        subst hh
        have hR_2 := hR_1.bodS hE_2 hT_2
        refine E_iret rfl (fun h => absurd h (by decide)) ?_
        refine actC ?_ hR_2 (hE_1.trans hE_2)
        unfold f_act
        try simp only [Int.toNat_natCast]
        first | (exfalso; omega) | (rw [if_pos (by omega)] <;> rfl) | (rw [if_neg (by omega), if_pos (by omega)] <;> rfl) | (rw [if_neg (by omega)] <;> rfl) | (rw [if_neg (by omega), if_neg (by omega), if_pos (by omega)] <;> rfl) | (rw [if_neg (by omega), if_neg (by omega)] <;> rfl) | (rw [if_neg (by omega), if_neg (by omega), if_neg (by omega), if_pos (by omega)] <;> rfl) | (rw [if_neg (by omega), if_neg (by omega), if_neg (by omega)] <;> rfl) | (rw [if_neg (by omega), if_neg (by omega), if_neg (by omega), if_neg (by omega), if_pos (by omega)] <;> rfl) | (rw [if_neg (by omega), if_neg (by omega), if_neg (by omega), if_neg (by omega)] <;> rfl) | (rw [if_neg (by omega), if_neg (by omega), if_neg (by omega), if_neg (by omega), if_neg (by omega), if_pos (by omega)] <;> rfl) | (rw [if_neg (by omega), if_neg (by omega), if_neg (by omega), if_neg (by omega), if_neg (by omega)] <;> rfl) | (rw [if_neg (by omega), if_neg (by omega), if_neg (by omega), if_neg (by omega), if_neg (by omega), if_neg (by omega), if_pos (by omega)] <;> rfl) | (rw [if_neg (by omega), if_neg (by omega), if_neg (by omega), if_neg (by omega), if_neg (by omega), if_neg (by omega)] <;> rfl)
      · refine E_sw (t := 55) rfl (by omega) (rfl) ?_
        refine E_load rfl rfl rfl ?_
        refine E_load rfl rfl rfl ?_
        have hb2 := (hR_1.bot b (by omega)).1
        obtain ⟨n, hn0, hn1, hm1, hm2, hm3⟩ := v_keeps (d := d + 3) (x := y) hL (hR_1.actR (b := b) (by omega)) hR_1.bod (Nat.zero_le _) (by obtain ⟨i1, i2, i3, i4, i5, i6, i7⟩ := hI b (by omega); omega)
        refine E_V1 (q := B b) (c := mK h (B b)) (y := n) rfl rfl (show B b < mN h by have := hb2.1.1; omega) rfl hn1 hm1 rfl hm2 hm3 (fun r h2 hq => ?_)
        obtain ⟨rfl, c_3, hh, hT_3, hE_3⟩ := hq
        subst hh
        have hR_3 := hR_1.bodS hE_3 hT_3
        refine E_iret rfl (fun h => absurd h (by decide)) ?_
        refine actC ?_ hR_3 (hE_1.trans hE_3)
        unfold f_act
        try simp only [Int.toNat_natCast]
        first | (exfalso; omega) | (rw [if_pos (by omega)] <;> rfl) | (rw [if_neg (by omega), if_pos (by omega)] <;> rfl) | (rw [if_neg (by omega)] <;> rfl) | (rw [if_neg (by omega), if_neg (by omega), if_pos (by omega)] <;> rfl) | (rw [if_neg (by omega), if_neg (by omega)] <;> rfl) | (rw [if_neg (by omega), if_neg (by omega), if_neg (by omega), if_pos (by omega)] <;> rfl) | (rw [if_neg (by omega), if_neg (by omega), if_neg (by omega)] <;> rfl) | (rw [if_neg (by omega), if_neg (by omega), if_neg (by omega), if_neg (by omega), if_pos (by omega)] <;> rfl) | (rw [if_neg (by omega), if_neg (by omega), if_neg (by omega), if_neg (by omega)] <;> rfl) | (rw [if_neg (by omega), if_neg (by omega), if_neg (by omega), if_neg (by omega), if_neg (by omega), if_pos (by omega)] <;> rfl) | (rw [if_neg (by omega), if_neg (by omega), if_neg (by omega), if_neg (by omega), if_neg (by omega)] <;> rfl) | (rw [if_neg (by omega), if_neg (by omega), if_neg (by omega), if_neg (by omega), if_neg (by omega), if_neg (by omega), if_pos (by omega)] <;> rfl) | (rw [if_neg (by omega), if_neg (by omega), if_neg (by omega), if_neg (by omega), if_neg (by omega), if_neg (by omega)] <;> rfl)
      · refine E_sw (t := 62) rfl (by omega) (rfl) ?_
        refine E_load rfl rfl rfl ?_
        refine E_load rfl rfl rfl ?_
        have hb2 := (hR_1.bot b (by omega)).1
        obtain ⟨n, hn0, hm1, hm2, hm3⟩ := v_tells (d := d + 1) (x := y) hL (hR_1.actR (b := b) (by omega)) hR_1.bod (Nat.zero_le _) (by obtain ⟨i1, i2, i3, i4, i5, i6, i7⟩ := hI b (by omega); omega)
        refine E_V1 (q := B b) (c := mK h (B b)) (y := n) rfl rfl (show B b < mN h by have := hb2.1.1; omega) rfl hn0 hm1 rfl hm2 hm3 (fun r h2 hq => ?_)
        obtain ⟨rfl, c_4, hh, hT_4, hE_4⟩ := hq
        subst hh
        have hR_4 := hR_1.bodS hE_4 hT_4
        refine E_iret rfl (fun h => absurd h (by decide)) ?_
        refine actC ?_ hR_4 (hE_1.trans hE_4)
        unfold f_act
        try simp only [Int.toNat_natCast]
        first | (exfalso; omega) | (rw [if_pos (by omega)] <;> rfl) | (rw [if_neg (by omega), if_pos (by omega)] <;> rfl) | (rw [if_neg (by omega)] <;> rfl) | (rw [if_neg (by omega), if_neg (by omega), if_pos (by omega)] <;> rfl) | (rw [if_neg (by omega), if_neg (by omega)] <;> rfl) | (rw [if_neg (by omega), if_neg (by omega), if_neg (by omega), if_pos (by omega)] <;> rfl) | (rw [if_neg (by omega), if_neg (by omega), if_neg (by omega)] <;> rfl) | (rw [if_neg (by omega), if_neg (by omega), if_neg (by omega), if_neg (by omega), if_pos (by omega)] <;> rfl) | (rw [if_neg (by omega), if_neg (by omega), if_neg (by omega), if_neg (by omega)] <;> rfl) | (rw [if_neg (by omega), if_neg (by omega), if_neg (by omega), if_neg (by omega), if_neg (by omega), if_pos (by omega)] <;> rfl) | (rw [if_neg (by omega), if_neg (by omega), if_neg (by omega), if_neg (by omega), if_neg (by omega)] <;> rfl) | (rw [if_neg (by omega), if_neg (by omega), if_neg (by omega), if_neg (by omega), if_neg (by omega), if_neg (by omega), if_pos (by omega)] <;> rfl) | (rw [if_neg (by omega), if_neg (by omega), if_neg (by omega), if_neg (by omega), if_neg (by omega), if_neg (by omega)] <;> rfl)
      · refine E_sw (t := 69) rfl (by omega) (by simp only [List.lookup]; (repeat' split) <;> first | rfl | (exfalso; simp at *; omega)) ?_
        refine E_const rfl ?_
        refine E_iret rfl (fun h => absurd h (by decide)) ?_
        refine actC ?_ hR_1 hE_1
        unfold f_act
        try simp only [Int.toNat_natCast]
        first | (exfalso; omega) | (rw [if_pos (by omega)] <;> rfl) | (rw [if_neg (by omega), if_pos (by omega)] <;> rfl) | (rw [if_neg (by omega)] <;> rfl) | (rw [if_neg (by omega), if_neg (by omega), if_pos (by omega)] <;> rfl) | (rw [if_neg (by omega), if_neg (by omega)] <;> rfl) | (rw [if_neg (by omega), if_neg (by omega), if_neg (by omega), if_pos (by omega)] <;> rfl) | (rw [if_neg (by omega), if_neg (by omega), if_neg (by omega)] <;> rfl) | (rw [if_neg (by omega), if_neg (by omega), if_neg (by omega), if_neg (by omega), if_pos (by omega)] <;> rfl) | (rw [if_neg (by omega), if_neg (by omega), if_neg (by omega), if_neg (by omega)] <;> rfl) | (rw [if_neg (by omega), if_neg (by omega), if_neg (by omega), if_neg (by omega), if_neg (by omega), if_pos (by omega)] <;> rfl) | (rw [if_neg (by omega), if_neg (by omega), if_neg (by omega), if_neg (by omega), if_neg (by omega)] <;> rfl) | (rw [if_neg (by omega), if_neg (by omega), if_neg (by omega), if_neg (by omega), if_neg (by omega), if_neg (by omega), if_pos (by omega)] <;> rfl) | (rw [if_neg (by omega), if_neg (by omega), if_neg (by omega), if_neg (by omega), if_neg (by omega), if_neg (by omega)] <;> rfl)
    · exfalso; omega
  · refine E_V1 (q := 0) (c := 11) (y := 120) rfl rfl (hL.lt 0 rfl) (hL.k 0 rfl) rfl rfl rfl rfl (c_bN hL hR_1 (by omega) n29.1 hb) (fun r h2 hq => ?_)
    obtain ⟨rfl, hh⟩ := hq
    subst hh
    refine E_store rfl rfl rfl ?_
    refine E_load rfl rfl rfl ?_
    refine E_null1 rfl (fun q2 => ?_) (fun q2 => ?_)
    · exfalso; omega
    · refine E_const rfl ?_
      refine E_iret rfl (fun h => absurd h (by decide)) ?_
      refine actC ?_ hR_1 hE_1
      unfold f_act
      try simp only [Int.toNat_natCast]
      first | (exfalso; omega) | (rw [if_pos (by omega)] <;> rfl) | (rw [if_neg (by omega), if_pos (by omega)] <;> rfl) | (rw [if_neg (by omega)] <;> rfl) | (rw [if_neg (by omega), if_neg (by omega), if_pos (by omega)] <;> rfl) | (rw [if_neg (by omega), if_neg (by omega)] <;> rfl) | (rw [if_neg (by omega), if_neg (by omega), if_neg (by omega), if_pos (by omega)] <;> rfl) | (rw [if_neg (by omega), if_neg (by omega), if_neg (by omega)] <;> rfl) | (rw [if_neg (by omega), if_neg (by omega), if_neg (by omega), if_neg (by omega), if_pos (by omega)] <;> rfl) | (rw [if_neg (by omega), if_neg (by omega), if_neg (by omega), if_neg (by omega)] <;> rfl) | (rw [if_neg (by omega), if_neg (by omega), if_neg (by omega), if_neg (by omega), if_neg (by omega), if_pos (by omega)] <;> rfl) | (rw [if_neg (by omega), if_neg (by omega), if_neg (by omega), if_neg (by omega), if_neg (by omega)] <;> rfl) | (rw [if_neg (by omega), if_neg (by omega), if_neg (by omega), if_neg (by omega), if_neg (by omega), if_neg (by omega), if_pos (by omega)] <;> rfl) | (rw [if_neg (by omega), if_neg (by omega), if_neg (by omega), if_neg (by omega), if_neg (by omega), if_neg (by omega)] <;> rfl)
