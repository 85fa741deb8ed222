/-! KEEPING: the places that an image takes -/
def kp0 (a k : Nat) : Prop := (a = 3 ∨ a = 6 ∨ a = 12 ∨ a = 15 ∨ a = 18 ∨ a = 31 ∨ a = 34) ∨ (k = 4 ∧ (a = 1 ∨ a = 4 ∨ a = 10 ∨ a = 13 ∨ a = 16 ∨ a = 29 ∨ a = 32)) ∨ (a = 0 ∧ (k = 14 ∨ k = 15 ∨ k = 16))
def kpS (B : Nat → Nat) (n : Int) (a k : Nat) : Prop := kp0 a k ∨ ∃ b : Nat, (b : Int) < n ∧ (a = B b + 4 ∨ (a = B b + 3 ∧ 1 ≤ k ∧ k ≤ 5))
theorem RepC.kp {h : Hp} {c c2 : Nat → Nat → Int} {B : Nat → Nat} {s im : Nat → Int} {hi : Int} {L : List Int} (hR : RepC h c B s im hi L) (hE : EqP (kpS B (s 29)) c c2) : RepC h c2 B s im 2 L := by
  have lo : ∀ a k, a < 55 → ¬ kp0 a k → c2 a k = c a k := fun a k h1 h2 => hE a k (by
    rintro (h3 | ⟨b, hb, h3⟩)
    · exact h2 h3
    · have := (hR.bot b hb).2.2
      omega)
  have row : ∀ a, a < 55 → (∀ k, ¬ kp0 a k) → c2 a = c a := fun a h1 h2 => funext fun k => lo a k h1 (h2 k)
  have nb : ∀ b : Nat, (b : Int) < s 29 → ∀ j, j ≤ 6 → j ≠ 4 → ∀ k, (j ≠ 3 ∨ k = 0) → c2 (B b + j) k = c (B b + j) k := fun b hb j h1 h2 k h3 => hE _ k (by
    have hb5 := (hR.bot b hb).2.2
    rintro (h4 | ⟨b2, hb2, h4⟩)
    · unfold kp0 at h4; omega
    · by_cases e : b2 = b
      · subst e; omega
      · have := hR.dis b2 b hb2 hb e
        omega)
  have hCT : ∀ e ∈ CT, e.1 < 55 ∧ ¬ kp0 e.1 e.2.1 := by
    have : ∀ e ∈ CT, e.1 < 55 ∧ (e.1 ≠ 3 ∧ e.1 ≠ 6 ∧ e.1 ≠ 12 ∧ e.1 ≠ 15 ∧ e.1 ≠ 18 ∧ e.1 ≠ 31 ∧ e.1 ≠ 34) ∧ (e.2.1 ≠ 4 ∨ (e.1 ≠ 1 ∧ e.1 ≠ 4 ∧ e.1 ≠ 10 ∧ e.1 ≠ 13 ∧ e.1 ≠ 16 ∧ e.1 ≠ 29 ∧ e.1 ≠ 32)) ∧ (e.1 ≠ 0 ∨ e.2.1 < 14) := by decide
    intro e he
    have := this e he
    unfold kp0
    omega
  refine ⟨hR.C.of fun e he => lo _ _ (hCT e he).1 (hCT e he).2, ?_, ?_, ?_, ?_, ?_, ?_, ?_, ?_, ?_, ?_, hR.dis, fun e => absurd e (by decide), fun e => absurd e (by decide)⟩
  · rw [lo 0 12 (by omega) (by unfold kp0; omega), lo 0 13 (by omega) (by unfold kp0; omega)]; exact hR.2.1
  · rw [lo 1 3 (by omega) (by unfold kp0; omega), row 2 (by omega) (fun k => by unfold kp0; omega)]; exact hR.tape
  · rw [lo 4 3 (by omega) (by unfold kp0; omega), row 5 (by omega) (fun k => by unfold kp0; omega)]; exact hR.mood
  · rw [lo 10 3 (by omega) (by unfold kp0; omega), row 11 (by omega) (fun k => by unfold kp0; omega)]; exact hR.seen
  · rw [lo 13 3 (by omega) (by unfold kp0; omega), row 14 (by omega) (fun k => by unfold kp0; omega)]; exact hR.eve
  · rw [lo 16 3 (by omega) (by unfold kp0; omega), row 17 (by omega) (fun k => by unfold kp0; omega)]; exact hR.book
  · rw [lo 19 3 (by omega) (by unfold kp0; omega), row 20 (by omega) (fun k => by unfold kp0; omega)]; exact hR.bod
  · rw [lo 29 3 (by omega) (by unfold kp0; omega), lo 32 3 (by omega) (by unfold kp0; omega), row 30 (by omega) (fun k => by unfold kp0; omega), row 33 (by omega) (fun k => by unfold kp0; omega)]; exact hR.held
  · refine hR.list.ofE (lo 42 1 (by omega) (by unfold kp0; omega)) (lo 42 2 (by omega) (by unfold kp0; omega)) fun E e1 e2 e3 k => hE E k ?_
    rintro (h4 | ⟨b2, hb2, h4⟩)
    · unfold kp0 at h4; omega
    · have := e3 b2 (by omega)
      omega
  · intro b hb
    obtain ⟨b1, b2, b3⟩ := hR.bot b hb
    exact ⟨b1.ofE (fun k => nb b hb 0 (by omega) (by omega) k (by omega)) (nb b hb 1 (by omega) (by omega) 0 (by omega)) (nb b hb 3 (by omega) (by omega) 0 (by omega)) (nb b hb 5 (by omega) (by omega) 0 (by omega)), b2.ofE (fun k => nb b hb 1 (by omega) (by omega) k (by omega)) (fun k => nb b hb 2 (by omega) (by omega) k (by omega)), b3⟩
theorem kp0_B {B : Nat → Nat} {n : Int} {P : Nat → Nat → Prop} {c c2 : Nat → Nat → Int} (h : EqP P c c2) (hP : ∀ a k, P a k → kp0 a k) : EqP (kpS B n) c c2 := h.mono fun a k e => Or.inl (hP a k e)
