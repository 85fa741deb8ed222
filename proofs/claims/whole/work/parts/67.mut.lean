/-! MUTATORS: the coupling kept where shelves and their counterparts in s change -/
theorem TapeR.tr {n : Int} {f s t : Nat → Int} (h : TapeR n f s) (e : ∀ k, (k = 34 ∨ (128 ≤ k ∧ k < 228)) → t k = s k) (hl : s 34 ≤ 100) : TapeR n f t := by
  refine ⟨h.1.trans (e 34 (by omega)).symm, fun k hk => ?_⟩
  rw [e 34 (by omega)] at hk
  rw [e _ (by omega)]
  exact h.2 k hk
theorem MoodR.tr {n : Int} {f s t : Nat → Int} (h : MoodR n f s) (e : ∀ k, (k = 36 ∨ (25 ≤ k ∧ k < 29)) → t k = s k) (hl : s 36 ≤ 4) : MoodR n f t := by
  refine ⟨h.1.trans (e 36 (by omega)).symm, fun k hk => ?_⟩
  rw [e 36 (by omega)] at hk
  rw [e _ (by omega)]
  exact h.2 k hk
theorem SeenR.tr {n : Int} {f s t : Nat → Int} (h : SeenR n f s) (e : ∀ k, (k = 31 ∨ (73 ≤ k ∧ k < 88)) → t k = s k) (hl : s 31 ≤ 5) : SeenR n f t := by
  refine ⟨h.1.trans (e 31 (by omega)).symm, fun k hk => ?_⟩
  rw [e 31 (by omega)] at hk
  rw [e (73 + k) (by omega), e (78 + k) (by omega), e (83 + k) (by omega)]
  exact h.2 k hk
theorem EveR.tr {n : Int} {f s t : Nat → Int} (h : EveR n f s) (e : ∀ k, (k = 32 ∨ (88 ≤ k ∧ k < 112)) → t k = s k) (hl : s 32 ≤ 8) : EveR n f t := by
  refine ⟨h.1.trans (e 32 (by omega)).symm, fun k hk => ?_⟩
  rw [e 32 (by omega)] at hk
  rw [e (88 + k) (by omega), e (96 + k) (by omega), e (104 + k) (by omega)]
  exact h.2 k hk
theorem BookR.tr {n : Int} {f s t : Nat → Int} (h : BookR n f s) (e : ∀ k, (k = 33 ∨ (112 ≤ k ∧ k < 128)) → t k = s k) (hl : s 33 ≤ 8) : BookR n f t := by
  refine ⟨h.1.trans (e 33 (by omega)).symm, fun k hk => ?_⟩
  rw [e 33 (by omega)] at hk
  rw [e (112 + k) (by omega), e (120 + k) (by omega)]
  exact h.2 k hk
theorem LaidS.tr {c : Nat → Nat → Int} {q b : Nat} {s t : Nat → Int} (h : LaidS c q s b) (hb : b < 6) (e : ∀ k, ((1 ≤ k ∧ k < 25) ∨ (37 ≤ k ∧ k < 73)) → t k = s k) : LaidS c q t b := h.ofT fun k hk => e k (by omega)
/-- shelves 1, 4, 10, 13, 16 and their rows alone changed -/
def shW (a k : Nat) : Prop := (a = 2 ∨ a = 5 ∨ a = 11 ∨ a = 14 ∨ a = 17) ∨ (k = 3 ∧ (a = 1 ∨ a = 4 ∨ a = 10 ∨ a = 13 ∨ a = 16))
theorem RepC.mkS {h : Hp} {c c2 : Nat → Nat → Int} {B : Nat → Nat} {s t im : Nat → Int} {hi : Int} {L : List Int} (hR : RepC h c B s im hi L) (hA : Inv s) (hf : ∀ a k, ¬ shW a k → c2 a k = c a k) (hs : ∀ k, (k = 0 ∨ (1 ≤ k ∧ k < 25) ∨ k = 29 ∨ k = 30 ∨ k = 35 ∨ (37 ≤ k ∧ k < 73) ∨ 228 ≤ k) → t k = s k)
    (h1 : TapeR (c2 1 3) (c2 2) t) (h2 : MoodR (c2 4 3) (c2 5) t) (h3 : SeenR (c2 10 3) (c2 11) t) (h4 : EveR (c2 13 3) (c2 14) t) (h5 : BookR (c2 16 3) (c2 17) t) : RepC h c2 B t im hi L := by
  have n29 := hA.2.2.1.1.1
  have row : ∀ a, (∀ k, ¬ shW a k) → c2 a = c a := fun a ha => funext fun k => hf a k (ha k)
  have big : ∀ a k, 55 ≤ a → c2 a k = c a k := fun a k ha => hf a k (by unfold shW; omega)
  have t29 := hs 29 (by omega)
  have hCT : ∀ e ∈ CT, ¬ shW e.1 e.2.1 := by
    have : ∀ e ∈ CT, (e.1 = 0 ∨ e.2.1 ≠ 3) ∧ e.1 ≠ 2 ∧ e.1 ≠ 5 ∧ e.1 ≠ 11 ∧ e.1 ≠ 14 ∧ e.1 ≠ 17 := by decide
    intro e he
    have := this e he
    unfold shW
    omega
  refine ⟨hR.C.of fun e he => hf _ _ (hCT e he), ?_, h1, h2, h3, h4, h5, ?_, ?_, ?_, ?_, ?_, ?_, ?_⟩
  · rw [hs 30 (by omega), hs 0 (by omega), hf 0 12 (by unfold shW; omega), hf 0 13 (by unfold shW; omega)]; exact hR.2.1
  · rw [row 20 (fun k => by unfold shW; omega), hf 19 3 (by unfold shW; omega)]; exact hR.bod
  · rw [hf 29 3 (by unfold shW; omega), hf 32 3 (by unfold shW; omega), row 30 (fun k => by unfold shW; omega), row 33 (fun k => by unfold shW; omega)]
    obtain ⟨l, k1, k2⟩ := hR.held
    refine ⟨l, k1, ?_⟩
    have e35 := hs 35 (by omega)
    have h35 := hA.2.1.h35
    have hx := hA.2.2.2.2.1
    refine ⟨?_, ?_, ?_⟩
    · rw [← k2.1]
      unfold stL
      rw [e35]
      by_cases hc : s 35 = -1
      · rw [if_pos hc, if_pos hc]
      · rw [if_neg hc, if_neg hc, hs (238 + s 35).toNat (by omega)]
        congr 1
        funext i
        exact hs _ (by omega)
    · rw [← k2.2.1]
      unfold tlI
      rw [e35]
      by_cases hc : s 35 = -1
      · rw [if_pos hc, if_pos hc]
      · rw [if_neg hc, if_neg hc, hs _ (by omega)]
    · rw [← k2.2.2]
      unfold tlI
      rw [e35]
      by_cases hc : s 35 = -1
      · rw [if_pos hc, if_pos hc]
      · rw [if_neg hc, if_neg hc, hs _ (by omega)]
  · rw [t29]
    exact hR.list.ofE (hf 42 1 (by unfold shW; omega)) (hf 42 2 (by unfold shW; omega)) fun E e1 e2 e3 k => big E k e1.1
  · intro b hb
    rw [t29] at hb
    obtain ⟨b1, b2, b3⟩ := hR.bot b hb
    rw [hs (37 + b) (by omega)]
    exact ⟨b1.ofE (fun k => big _ k (by omega)) (big _ 0 (by omega)) (big _ 0 (by omega)) (big _ 0 (by omega)), LaidS.tr (b2.ofE (fun k => big _ k (by omega)) (fun k => big _ k (by omega))) (by omega) (fun k hk => hs k (by omega)), b3⟩
  · rw [t29]; exact hR.dis
  · rw [hf 0 14 (by unfold shW; omega)]; exact hR.none
  · intro hi1
    obtain ⟨k1, k2, k3, k4, k5, k6, k7, k8, k9⟩ := hR.kept hi1
    refine ⟨?_, ?_, ?_, ?_, ?_, ?_, ?_, by rw [t29]; exact k8, fun b hb => ?_⟩
    · rw [hf 0 14 (by unfold shW; omega), hf 0 15 (by unfold shW; omega), hf 0 16 (by unfold shW; omega)]; exact k1
    · rw [hf 1 4 (by unfold shW; omega), row 3 (fun k => by unfold shW; omega)]; exact k2
    · rw [hf 4 4 (by unfold shW; omega), row 6 (fun k => by unfold shW; omega)]; exact k3
    · rw [hf 10 4 (by unfold shW; omega), row 12 (fun k => by unfold shW; omega)]; exact k4
    · rw [hf 13 4 (by unfold shW; omega), row 15 (fun k => by unfold shW; omega)]; exact k5
    · rw [hf 16 4 (by unfold shW; omega), row 18 (fun k => by unfold shW; omega)]; exact k6
    · rw [hf 29 4 (by unfold shW; omega), hf 32 4 (by unfold shW; omega), row 31 (fun k => by unfold shW; omega), row 34 (fun k => by unfold shW; omega)]; exact k7
    · have hb2 := (hR.bot b (by omega)).2.2
      exact ⟨(k9 b hb).1.ofE (fun k => big _ k (by omega)) (fun k => big _ k (by omega)), by rw [hs (37 + b) (by omega)]; exact (k9 b hb).2⟩
/-- the class leaves the reference's places -/
def FrC (a _k : Nat) : Prop := a < 43 ∨ 55 ≤ a
