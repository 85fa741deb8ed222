/-! UNDO: what stands while it goes -/
def UnR (h : Hp) (c : Nat → Nat → Int) (B : Nat → Nat) (s im : Nat → Int) (L : List Int) (n m : Nat) : Prop := Cc c ∧ KeptR c B s im ∧ (TapeR (c 1 3) (c 2) im ∧ MoodR (c 4 3) (c 5) im ∧ SeenR (c 10 3) (c 11) im ∧ EveR (c 13 3) (c 14) im ∧ BookR (c 16 3) (c 17) im ∧ HeldR (c 29 3) (c 30) (c 32 3) (c 33) im) ∧ BodR L (c 19 3) (c 20) ∧ LBp h c n B ∧ (∀ b : Nat, (b : Int) < im 29 → Bot h c (B b) b (s (37 + b)) ∧ 55 ≤ B b) ∧ DisR B (s 29) ∧ ∀ b : Nat, b < m → LaidS c (B b + 1) im b
theorem UnR.tr {h : Hp} {c c2 : Nat → Nat → Int} {B : Nat → Nat} {s im : Nat → Int} {L : List Int} {n m n2 m2 : Nat} (hU : UnR h c B s im L n m) (hLB : LBp h c2 n2 B) (hf : ∀ a k, a < 55 → a ≠ 42 → ¬ (a = 0 ∧ (k = 12 ∨ k = 13)) → c2 a k = c a k) (hb : ∀ b : Nat, (b : Int) < im 29 → (∀ k, c2 (B b) k = c (B b) k) ∧ c2 (B b + 1) 0 = c (B b + 1) 0 ∧ (∀ k, c2 (B b + 3) k = c (B b + 3) k) ∧ (∀ k, c2 (B b + 4) k = c (B b + 4) k) ∧ c2 (B b + 5) 0 = c (B b + 5) 0) (hV : ∀ b : Nat, b < m2 → LaidS c2 (B b + 1) im b) : UnR h c2 B s im L n2 m2 := by
  obtain ⟨u1, ⟨k1, k2, k3, k4, k5, k6, k7, k8, k9⟩, ⟨t1, t2, t3, t4, t5, t6⟩, u4, u5, u6, u7, u8⟩ := hU
  have row : ∀ a, a < 55 → a ≠ 42 → a ≠ 0 → c2 a = c a := fun a h1 h2 h3 => funext fun k => hf a k h1 h2 (by omega)
  have hCT : ∀ e ∈ CT, e.1 < 55 ∧ e.1 ≠ 42 ∧ (e.1 ≠ 0 ∨ e.2.1 < 12) := by decide
  refine ⟨u1.of fun e he => hf _ _ (hCT e he).1 (hCT e he).2.1 (by have := hCT e he; omega), ⟨?_, ?_, ?_, ?_, ?_, ?_, ?_, k8, fun b hb2 => ⟨?_, (k9 b hb2).2⟩⟩, ⟨?_, ?_, ?_, ?_, ?_, ?_⟩, ?_, hLB, fun b hb2 => ⟨?_, (u6 b hb2).2⟩, u7, hV⟩
  · rw [hf 0 14 (by omega) (by omega) (by omega), hf 0 15 (by omega) (by omega) (by omega), hf 0 16 (by omega) (by omega) (by omega)]; exact k1
  · rw [row 1 (by omega) (by omega) (by omega), row 3 (by omega) (by omega) (by omega)]; exact k2
  · rw [row 4 (by omega) (by omega) (by omega), row 6 (by omega) (by omega) (by omega)]; exact k3
  · rw [row 10 (by omega) (by omega) (by omega), row 12 (by omega) (by omega) (by omega)]; exact k4
  · rw [row 13 (by omega) (by omega) (by omega), row 15 (by omega) (by omega) (by omega)]; exact k5
  · rw [row 16 (by omega) (by omega) (by omega), row 18 (by omega) (by omega) (by omega)]; exact k6
  · rw [row 29 (by omega) (by omega) (by omega), row 31 (by omega) (by omega) (by omega), row 32 (by omega) (by omega) (by omega), row 34 (by omega) (by omega) (by omega)]; exact k7
  · exact (k9 b hb2).1.ofE (fun k => (hb b (by omega)).2.2.1 k) (fun k => (hb b (by omega)).2.2.2.1 k)
  · rw [row 1 (by omega) (by omega) (by omega), row 2 (by omega) (by omega) (by omega)]; exact t1
  · rw [row 4 (by omega) (by omega) (by omega), row 5 (by omega) (by omega) (by omega)]; exact t2
  · rw [row 10 (by omega) (by omega) (by omega), row 11 (by omega) (by omega) (by omega)]; exact t3
  · rw [row 13 (by omega) (by omega) (by omega), row 14 (by omega) (by omega) (by omega)]; exact t4
  · rw [row 16 (by omega) (by omega) (by omega), row 17 (by omega) (by omega) (by omega)]; exact t5
  · rw [row 29 (by omega) (by omega) (by omega), row 30 (by omega) (by omega) (by omega), row 32 (by omega) (by omega) (by omega), row 33 (by omega) (by omega) (by omega)]; exact t6
  · rw [row 19 (by omega) (by omega) (by omega), row 20 (by omega) (by omega) (by omega)]; exact u4
  · exact (u6 b hb2).1.ofE (hb b hb2).1 (hb b hb2).2.1 ((hb b hb2).2.2.1 0) (hb b hb2).2.2.2.2
theorem UnR.rep {h : Hp} {c : Nat → Nat → Int} {B : Nat → Nat} {s im : Nat → Int} {L : List Int} (hU : UnR h c B s im L (im 29).toNat (im 29).toNat) (hA : Inv im) (h12 : c 0 12 = im 30) (h13 : c 0 13 = im 0) : RepC h c B (unS s im) im 1 L := by
  obtain ⟨u1, ⟨k1, k2, k3, k4, k5, k6, k7, k8, k9⟩, ⟨t1, t2, t3, t4, t5, t6⟩, u4, u5, u6, u7, u8⟩ := hU
  have n29 := hA.2.2.1.1.1
  refine RepC.lk (s := im) ?_ hA unS_lk
  refine ⟨u1, ⟨h12, h13⟩, t1, t2, t3, t4, t5, u4, t6, u5, fun b hb => ?_, fun i j hi hj hn => u7 i j (by omega) (by omega) hn, fun e => absurd e (by decide), fun _ => ⟨k1, k2, k3, k4, k5, k6, k7, Int.le_refl _, fun b hb => ⟨(k9 b hb).1, rfl⟩⟩⟩
  have h6 := u6 b (by omega)
  rw [(k9 b hb).2]
  exact ⟨h6.1, u8 b (by omega), h6.2⟩
set_option maxHeartbeats 4000000 in
set_option maxRecDepth 100000 in
theorem Cl_unend {d : Nat} {h : Hp} {c : Nat → Nat → Int} {B : Nat → Nat} {s im : Nat → Int} {L : List Int} (hL : Lay h) (hA : Inv im) (hU : UnR h c B s im L (im 29).toNat (im 29).toNat) {i : Int} : Ex (d + 4) none t_X10_undo 0 126 [(1, ((0 : Nat) : Int)), (0, i)] [] (wC h c) (fun r h2 => r = some (0, im 29) ∧ ∃ c2, h2 = wC h c2 ∧ RepC h c2 B (unS s im) im 1 L ∧ EqP FrC c c2) := by
  have n29 := hA.2.2.1.1.1
  have k1 := hU.2.1.1
  have hLB := hU.2.2.2.2.1
  refine E_load rfl rfl rfl ?_
  refine E_load rfl rfl rfl ?_
  refine E_getf (c := 11) (v := (0, im 30)) rfl (hL.lt 0 rfl) (hL.k 0 rfl) rfl (fv k1.2.1) ?_
  refine E_putg (cl := 11) rfl (hL.lt 0 rfl) (hL.k 0 rfl) rfl (fun c_1 hc_1 => ?_)
  refine E_load rfl rfl rfl ?_
  refine E_load rfl rfl rfl ?_
  refine E_getf (c := 11) (v := (0, im 0)) rfl (hL.lt 0 rfl) (hL.k 0 rfl) rfl (fv (by show c_1 0 16 = _; rw [hc_1]; exact (up2_fldN (by omega)).trans k1.2.2)) ?_
  refine E_putg (cl := 11) rfl (hL.lt 0 rfl) (hL.k 0 rfl) rfl (fun c_2 hc_2 => ?_)
  have fe : EqP (fun a k => a = 0 ∧ (k = 12 ∨ k = 13)) c c_2 := by
    rw [hc_2, hc_1]
    exact (EqP.up (by omega)).trans (EqP.up (by omega))
  have hLB2 : LBp h c_2 (im 29).toNat B := hLB.ofE (fe 42 1 (by omega)) (fe 42 2 (by omega)) fun E e1 e2 e3 k => fe E k (by omega)
  have hU2 : UnR h c_2 B s im L (im 29).toNat (im 29).toNat := hU.tr hLB2 (fun a k h1 h2 h3 => fe a k h3) (fun b hb => by
    have h5 := (hU.2.2.2.2.2.1 b hb).2
    exact ⟨fun k => fe _ k (by omega), fe _ 0 (by omega), fun k => fe _ k (by omega), fun k => fe _ k (by omega), fe _ 0 (by omega)⟩) (fun b hb => by
    have h8 := hU.2.1.2.2.2.2.2.2.2.1
    have h5 := (hU.2.2.2.2.2.1 b (by omega)).2
    exact (hU.2.2.2.2.2.2.2 b hb).ofE (fun k => fe _ k (by omega)) (fun k => fe _ k (by omega)))
  refine E_load rfl rfl rfl ?_
  refine E_getr (c := 11) (r := 42) rfl (hL.lt 0 rfl) (hL.k 0 rfl) rfl (hU2.1.g 0 11 42 (by decide)) ?_
  refine E_V0 (q := 42) (c := 0) (y := 3) rfl rfl (hL.lt 42 rfl) (hL.k 42 rfl) rfl rfl rfl rfl (j_size hL hLB2) (fun r h2 hq => ?_)
  obtain ⟨rfl, hh⟩ := hq
  subst hh
  refine E_iret rfl (fun h => absurd h (by decide)) ?_
  refine ⟨by rw [Int.toNat_of_nonneg n29.1], c_2, rfl, hU2.rep hA (by rw [hc_2]; exact (up2_fldN (by omega)).trans (by rw [hc_1]; exact up2_same)) (by rw [hc_2]; exact up2_same), fe.mono (fun a k e => by unfold FrC; omega)⟩

set_option maxHeartbeats 4000000 in
set_option maxRecDepth 100000 in
theorem Cl_unrest {d : Nat} {h : Hp} {B : Nat → Nat} {s im : Nat → Int} {L : List Int} (hL : Lay h) (hA : Inv im) : ∀ (n i : Nat), i + n = (im 29).toNat → ∀ c, UnR h c B s im L (im 29).toNat i → Ex (d + 4) none t_X10_undo 0 91 [(1, ((0 : Nat) : Int)), (0, (i : Int))] [] (wC h c) (fun r h2 => r = some (0, im 29) ∧ ∃ c2, h2 = wC h c2 ∧ RepC h c2 B (unS s im) im 1 L ∧ EqP FrC c c2) := by
  have n29 := hA.2.2.1.1.1
  intro n
  induction n with
  | zero =>
    intro i hin c hU
    have hLB := hU.2.2.2.2.1
    refine E_load rfl rfl rfl ?_
    refine E_load rfl rfl rfl ?_
    refine E_getr (c := 11) (r := 42) rfl (hL.lt 0 rfl) (hL.k 0 rfl) rfl (hU.1.g 0 11 42 (by decide)) ?_
    refine E_V0 (q := 42) (c := 0) (y := 3) rfl rfl (hL.lt 42 rfl) (hL.k 42 rfl) rfl rfl rfl rfl (j_size hL hLB) (fun r h2 hq => ?_)
    obtain ⟨rfl, hh⟩ := hq
    subst hh
    refine E_cmp3 rfl (by omega) (fun q1 => ?_) (fun q1 => ?_)
    · obtain rfl : i = (im 29).toNat := by omega
      exact Cl_unend hL hA hU
    · exfalso; omega
  | succ n ih =>
    intro i hin c hU
    have hLB := hU.2.2.2.2.1
    have k8 := hU.2.1.2.2.2.2.2.2.2.1
    have k9 := hU.2.1.2.2.2.2.2.2.2.2
    refine E_load rfl rfl rfl ?_
    refine E_load rfl rfl rfl ?_
    refine E_getr (c := 11) (r := 42) rfl (hL.lt 0 rfl) (hL.k 0 rfl) rfl (hU.1.g 0 11 42 (by decide)) ?_
    refine E_V0 (q := 42) (c := 0) (y := 3) rfl rfl (hL.lt 42 rfl) (hL.k 42 rfl) rfl rfl rfl rfl (j_size hL hLB) (fun r h2 hq => ?_)
    obtain ⟨rfl, hh⟩ := hq
    subst hh
    refine E_cmp3 rfl (by omega) (fun q1 => ?_) (fun q1 => ?_)
    · exfalso; omega
    · have iB := hA.1 i (by omega)
      obtain ⟨b1, b3⟩ := hU.2.2.2.2.2.1 i (by omega)
      refine E_load rfl rfl rfl ?_
      refine E_getr (c := 11) (r := 42) rfl (hL.lt 0 rfl) (hL.k 0 rfl) rfl (hU.1.g 0 11 42 (by decide)) ?_
      refine E_load rfl rfl rfl ?_
      refine E_V1 (q := 42) (c := 0) (y := 5) rfl rfl (hL.lt 42 rfl) (hL.k 42 rfl) rfl rfl rfl rfl (j_get hL hLB (by omega)) (fun r h2 hq => ?_)
      obtain ⟨rfl, hh⟩ := hq
      subst hh
      refine E_castB rfl (show (B i) < mN h by have := b1.1.1; omega) b1.isB ?_
      refine E_V0 (q := (B i)) (c := (mK h (B i))) (y := 12) rfl rfl (show (B i) < mN h by have := b1.1.1; omega) rfl (by have e := b1.isB; rcases e with e | e | e | e | e | e | e <;> rw [e] <;> rfl) rfl rfl rfl (b_restore b1 (k9 i (by omega)).1 (by have := iB.2.2.2.1; omega)) (fun r h2 hq => ?_)
      obtain ⟨rfl, c_1, hh, hv_1, he_1⟩ := hq
      subst hh
      refine E_iinc rfl rfl rfl ?_
      refine E_goto rfl ?_
      have hLB1 : LBp h c_1 (im 29).toNat B := hLB.ofE (he_1 42 1 (by omega)) (he_1 42 2 (by omega)) fun E e1 e2 e3 k => he_1 E k (by have := e3 i (by omega); omega)
      refine (ih (i + 1) (by omega) c_1 (hU.tr hLB1 (fun a k h1 h2 h3 => he_1 a k (by omega)) (fun b hb => ?_) (fun b hb => ?_))).mono ?_
      · by_cases e : b = i
        · subst e
          exact ⟨fun k => he_1 _ k (by omega), he_1 _ 0 (by omega), fun k => he_1 _ k (by omega), fun k => he_1 _ k (by omega), he_1 _ 0 (by omega)⟩
        · have hd := hU.2.2.2.2.2.2.1 b i (by omega) (by omega) e
          exact ⟨fun k => he_1 _ k (by omega), he_1 _ 0 (by omega), fun k => he_1 _ k (by omega), fun k => he_1 _ k (by omega), he_1 _ 0 (by omega)⟩
      · by_cases e : b = i
        · subst e; exact hv_1
        · have hd := hU.2.2.2.2.2.2.1 b i (by omega) (by omega) e
          exact (hU.2.2.2.2.2.2.2 b (by omega)).ofE (fun k => he_1 _ k (by omega)) (fun k => he_1 _ k (by omega))
      · rintro r hE ⟨e1, c9, e2, e4, e3⟩
        exact ⟨e1, c9, e2, e4, EqP.trans (he_1.mono (fun a k e => by unfold FrC; omega)) e3⟩
set_option maxHeartbeats 4000000 in
set_option maxRecDepth 100000 in
theorem Cl_unrem {d : Nat} {h : Hp} {B : Nat → Nat} {s im : Nat → Int} {L : List Int} (hL : Lay h) (hA : Inv im) (n29 : 0 ≤ s 29 ∧ s 29 ≤ 6) : ∀ (k n : Nat), (im 29).toNat + k = n → (n : Int) ≤ s 29 → ∀ (c : Nat → Nat → Int) (v : Int), v = (n : Int) - 1 → UnR h c B s im L n 0 → Ex (d + 4) none t_X10_undo 0 64 [(1, ((0 : Nat) : Int)), (0, v)] [] (wC h c) (fun r h2 => r = some (0, im 29) ∧ ∃ c2, h2 = wC h c2 ∧ RepC h c2 B (unS s im) im 1 L ∧ EqP FrC c c2) := by
  have m29 := hA.2.2.1.1.1
  intro k
  induction k with
  | zero =>
    intro n hn hns c v hv hU
    refine E_load rfl rfl rfl ?_
    refine E_load rfl rfl rfl ?_
    refine E_getf (c := 11) (v := (0, im 29)) rfl (hL.lt 0 rfl) (hL.k 0 rfl) rfl (fv hU.2.1.1.1) ?_
    refine E_cmp2 rfl (by omega) (fun q1 => ?_) (fun q1 => ?_)
    · refine E_const rfl ?_
      refine E_store rfl rfl rfl ?_
      obtain rfl : n = (im 29).toNat := by omega
      exact Cl_unrest hL hA _ 0 (Nat.zero_add _) c hU
    · exfalso; omega
  | succ k ih =>
    intro n hn hns c v hv hU
    obtain ⟨n, rfl⟩ : ∃ m, n = m + 1 := ⟨n - 1, by omega⟩
    obtain rfl : v = (n : Int) := by omega
    refine E_load rfl rfl rfl ?_
    refine E_load rfl rfl rfl ?_
    refine E_getf (c := 11) (v := (0, im 29)) rfl (hL.lt 0 rfl) (hL.k 0 rfl) rfl (fv hU.2.1.1.1) ?_
    refine E_cmp2 rfl (by omega) (fun q1 => ?_) (fun q1 => ?_)
    · exfalso; omega
    · refine E_load rfl rfl rfl ?_
      refine E_getr (c := 11) (r := 42) rfl (hL.lt 0 rfl) (hL.k 0 rfl) rfl (hU.1.g 0 11 42 (by decide)) ?_
      refine E_load rfl rfl rfl ?_
      refine E_V1 (q := 42) (c := 0) (y := 8) rfl rfl (hL.lt 42 rfl) (hL.k 42 rfl) rfl rfl rfl rfl (j_remove hL hU.2.2.2.2.1) (fun r h2 hq => ?_)
      obtain ⟨rfl, c_1, E, hh, hLB1, hE, he_1⟩ := hq
      subst hh
      refine E_pop rfl rfl ?_
      refine E_iinc rfl rfl rfl ?_
      refine E_goto rfl ?_
      have k8 := hU.2.1.2.2.2.2.2.2.2.1
      have hn2 : (im 29).toNat ≤ n := by omega
      refine (ih n (by omega) (by omega) c_1 _ rfl (hU.tr hLB1 (fun a k h1 h2 h3 => he_1 a k (by omega)) (fun b hb => ?_) (fun b hb => absurd hb (Nat.not_lt_zero b)))).mono ?_
      · have h5 := (hU.2.2.2.2.2.1 b hb).2
        have hd := hE.2 b (by omega)
        exact ⟨fun k => he_1 _ k (by omega), he_1 _ 0 (by omega), fun k => he_1 _ k (by omega), fun k => he_1 _ k (by omega), he_1 _ 0 (by omega)⟩
      · rintro r hE2 ⟨e1, c9, e2, e4, e3⟩
        exact ⟨e1, c9, e2, e4, EqP.trans (he_1.mono (fun a k e => by unfold FrC; omega)) e3⟩
