/-! THE COUPLING: what the class holds of the reference's row s, its image im and the bodies L -/
def TapeR (n : Int) (f s : Nat → Int) : Prop := n = s 34 ∧ ∀ k : Nat, (k : Int) < s 34 → f k = s (128 + k)
def MoodR (n : Int) (f s : Nat → Int) : Prop := n = s 36 ∧ ∀ k : Nat, (k : Int) < s 36 → f k = s (25 + k)
def SeenR (n : Int) (f s : Nat → Int) : Prop := n = s 31 ∧ ∀ k : Nat, (k : Int) < s 31 → f (3 * k) = s (73 + k) ∧ f (3 * k + 1) = s (78 + k) ∧ f (3 * k + 2) = s (83 + k)
def EveR (n : Int) (f s : Nat → Int) : Prop := n = s 32 ∧ ∀ k : Nat, (k : Int) < s 32 → f (3 * k) = s (88 + k) ∧ f (3 * k + 1) = s (96 + k) ∧ f (3 * k + 2) = s (104 + k)
def BookR (n : Int) (f s : Nat → Int) : Prop := n = s 33 ∧ ∀ k : Nat, (k : Int) < s 33 → f (2 * k) = s (112 + k) ∧ f (2 * k + 1) = s (120 + k)
def HeldR (nc : Int) (cl : Nat → Int) (np : Int) (pa s : Nat → Int) : Prop := ∃ l, HoldC nc cl np pa l ∧ HoldS s l
def BodR (L : List Int) (n : Int) (f : Nat → Int) : Prop := n = (L.length : Int) ∧ ∀ j, j < L.length → f j = L.getD j 0
def BotR (h : Hp) (c : Nat → Nat → Int) (B : Nat → Nat) (s : Nat → Int) : Prop := ∀ b : Nat, (b : Int) < s 29 → Bot h c (B b) b (s (37 + b)) ∧ LaidS c (B b + 1) s b ∧ 55 ≤ B b
def DisR (B : Nat → Nat) (n : Int) : Prop := ∀ i j : Nat, (i : Int) < n → (j : Int) < n → i ≠ j → B i + 7 ≤ B j ∨ B j + 7 ≤ B i
def KeptR (c : Nat → Nat → Int) (B : Nat → Nat) (s im : Nat → Int) : Prop := (c 0 14 = im 29 ∧ c 0 15 = im 30 ∧ c 0 16 = im 0) ∧ TapeR (c 1 4) (c 3) im ∧ MoodR (c 4 4) (c 6) im ∧ SeenR (c 10 4) (c 12) im ∧ EveR (c 13 4) (c 15) im ∧ BookR (c 16 4) (c 18) im ∧ HeldR (c 29 4) (c 31) (c 32 4) (c 34) im ∧ im 29 ≤ s 29 ∧ ∀ b : Nat, (b : Int) < im 29 → LaidS c (B b + 3) im b ∧ im (37 + b) = s (37 + b)
def RepC (h : Hp) (c : Nat → Nat → Int) (B : Nat → Nat) (s im : Nat → Int) (hi : Int) (L : List Int) : Prop := Cc c ∧ (c 0 12 = s 30 ∧ c 0 13 = s 0) ∧ TapeR (c 1 3) (c 2) s ∧ MoodR (c 4 3) (c 5) s ∧ SeenR (c 10 3) (c 11) s ∧ EveR (c 13 3) (c 14) s ∧ BookR (c 16 3) (c 17) s ∧ BodR L (c 19 3) (c 20) ∧ HeldR (c 29 3) (c 30) (c 32 3) (c 33) s ∧ LBp h c (s 29).toNat B ∧ BotR h c B s ∧ DisR B (s 29) ∧ (hi = 0 → c 0 14 = -1) ∧ (hi = 1 → KeptR c B s im)
section REPC
variable {h : Hp} {c : Nat → Nat → Int} {B : Nat → Nat} {s im : Nat → Int} {hi : Int} {L : List Int}
theorem RepC.C (hR : RepC h c B s im hi L) : Cc c := hR.1
theorem RepC.cellars (hR : RepC h c B s im hi L) : c 0 12 = s 30 := hR.2.1.1
theorem RepC.year (hR : RepC h c B s im hi L) : c 0 13 = s 0 := hR.2.1.2
theorem RepC.tape (hR : RepC h c B s im hi L) : TapeR (c 1 3) (c 2) s := hR.2.2.1
theorem RepC.mood (hR : RepC h c B s im hi L) : MoodR (c 4 3) (c 5) s := hR.2.2.2.1
theorem RepC.seen (hR : RepC h c B s im hi L) : SeenR (c 10 3) (c 11) s := hR.2.2.2.2.1
theorem RepC.eve (hR : RepC h c B s im hi L) : EveR (c 13 3) (c 14) s := hR.2.2.2.2.2.1
theorem RepC.book (hR : RepC h c B s im hi L) : BookR (c 16 3) (c 17) s := hR.2.2.2.2.2.2.1
theorem RepC.bod (hR : RepC h c B s im hi L) : BodR L (c 19 3) (c 20) := hR.2.2.2.2.2.2.2.1
theorem RepC.held (hR : RepC h c B s im hi L) : HeldR (c 29 3) (c 30) (c 32 3) (c 33) s := hR.2.2.2.2.2.2.2.2.1
theorem RepC.list (hR : RepC h c B s im hi L) : LBp h c (s 29).toNat B := hR.2.2.2.2.2.2.2.2.2.1
theorem RepC.bot (hR : RepC h c B s im hi L) : BotR h c B s := hR.2.2.2.2.2.2.2.2.2.2.1
theorem RepC.dis (hR : RepC h c B s im hi L) : DisR B (s 29) := hR.2.2.2.2.2.2.2.2.2.2.2.1
theorem RepC.none (hR : RepC h c B s im hi L) : hi = 0 → c 0 14 = -1 := hR.2.2.2.2.2.2.2.2.2.2.2.2.1
theorem RepC.kept (hR : RepC h c B s im hi L) : hi = 1 → KeptR c B s im := hR.2.2.2.2.2.2.2.2.2.2.2.2.2
end REPC
theorem LV.ofE {c c2 : Nat → Nat → Int} {q : Nat} {v w y u e : Int} {tel : Nat → Int} (h : LV c q v w y u e tel) (h1 : ∀ k, c2 q k = c q k) (h2 : ∀ k, c2 (q + 1) k = c (q + 1) k) : LV c2 q v w y u e tel := h.of (fun k _ _ => h1 k) (fun k _ => h2 k)
theorem Bot.ofE {h : Hp} {c c2 : Nat → Nat → Int} {p b : Nat} {kind : Int} (hB : Bot h c p b kind) (h1 : ∀ k, c2 p k = c p k) (h2 : c2 (p + 1) 0 = c (p + 1) 0) (h3 : c2 (p + 3) 0 = c (p + 3) 0) (h4 : c2 (p + 5) 0 = c (p + 5) 0) : Bot h c2 p b kind := by
  refine ⟨hB.1, ?_, hB.2.2.1.of h2, hB.2.2.2.1.of h3, hB.2.2.2.2.of h4⟩
  rw [h1, h1, h1, h1, h1, h1]
  exact hB.2.1
theorem LBp.ofE {h : Hp} {c c2 : Nat → Nat → Int} {n : Nat} {B : Nat → Nat} (hB : LBp h c n B) (h1 : c2 42 1 = c 42 1) (h2 : c2 42 2 = c 42 2) (h3 : ∀ E : Nat, (55 ≤ E ∧ E < mN h) → mK h E = 22 → (∀ i, i < n → E < B i ∨ B i + 6 < E) → ∀ k, c2 E k = c E k) : LBp h c2 n B := by
  obtain ⟨b1, b2, b3⟩ := hB
  refine ⟨h2.trans b1, b2, ?_⟩
  rcases b3 with ⟨b4, b5⟩ | ⟨E, e1, e2, e3, e4, e5, e6⟩
  · exact Or.inl ⟨h1.trans b4, b5⟩
  · exact Or.inr ⟨E, h1.trans e1, e2, e3, e4, fun i hi => (h3 E e2 e3 e6 i).trans (e5 i hi), e6⟩
/-- the scratch: moods tried, what was said, pairs, and how each bottle is tried -/
def fixS (a k : Nat) : Prop := (a = 7 ∧ k = 3) ∨ a = 8 ∨ (a = 22 ∧ k = 3) ∨ a = 23 ∨ (a = 25 ∧ k = 3) ∨ a = 26
def ScrP (B : Nat → Nat) (n : Int) (a k : Nat) : Prop := fixS a k ∨ ∃ b : Nat, (b : Int) < n ∧ (a = B b + 6 ∨ (a = B b + 5 ∧ 1 ≤ k ∧ k ≤ 5))
/-- what the fixed places and the bottles' own give the coupling -/
theorem RepC.tr {h : Hp} {c c2 : Nat → Nat → Int} {B : Nat → Nat} {s im : Nat → Int} {hi : Int} {L : List Int} (hR : RepC h c B s im hi L) (hf : ∀ a k, a < 55 → ¬ fixS a k → c2 a k = c a k) (hb : ∀ b : Nat, (b : Int) < s 29 → ∀ a k, B b ≤ a → (a < B b + 5 ∨ (a = B b + 5 ∧ k = 0)) → c2 a k = c a k) (hE : ∀ E : Nat, (55 ≤ E ∧ E < mN h) → mK h E = 22 → (∀ i : Nat, (i : Int) < s 29 → E < B i ∨ B i + 6 < E) → ∀ k, c2 E k = c E k) : RepC h c2 B s im hi L := by
  have row : ∀ a, a < 55 → a ≠ 7 → a ≠ 8 → a ≠ 22 → a ≠ 23 → a ≠ 25 → a ≠ 26 → c2 a = c a := fun a h1 h2 h3 h4 h5 h6 h7 => funext fun k => hf a k h1 (by unfold fixS; omega)
  have hLa : ∀ b : Nat, (b : Int) < s 29 → ∀ q t, (q = B b + 1 ∨ q = B b + 3) → LaidS c q t b → LaidS c2 q t b := fun b hb1 q t hq hl => hl.ofE (fun k => hb b hb1 q k (by omega) (by omega)) (fun k => hb b hb1 (q + 1) k (by omega) (by omega))
  have hCT : ∀ e ∈ CT, e.1 < 55 ∧ ¬ fixS e.1 e.2.1 := by
    have : ∀ e ∈ CT, e.1 < 55 ∧ e.1 ≠ 8 ∧ e.1 ≠ 23 ∧ e.1 ≠ 26 ∧ (e.1 = 0 ∨ e.2.1 ≠ 3) := by decide
    intro e he
    have := this e he
    exact ⟨this.1, by unfold fixS; omega⟩
  refine ⟨hR.C.of fun e he => hf _ _ (hCT e he).1 (hCT e he).2, ?_, ?_, ?_, ?_, ?_, ?_, ?_, ?_, ?_, ?_, hR.dis, ?_, ?_⟩
  · rw [row 0 (by omega) (by omega) (by omega) (by omega) (by omega) (by omega) (by omega)]; exact hR.2.1
  · rw [row 1 (by omega) (by omega) (by omega) (by omega) (by omega) (by omega) (by omega), row 2 (by omega) (by omega) (by omega) (by omega) (by omega) (by omega) (by omega)]; exact hR.tape
  · rw [row 4 (by omega) (by omega) (by omega) (by omega) (by omega) (by omega) (by omega), row 5 (by omega) (by omega) (by omega) (by omega) (by omega) (by omega) (by omega)]; exact hR.mood
  · rw [row 10 (by omega) (by omega) (by omega) (by omega) (by omega) (by omega) (by omega), row 11 (by omega) (by omega) (by omega) (by omega) (by omega) (by omega) (by omega)]; exact hR.seen
  · rw [row 13 (by omega) (by omega) (by omega) (by omega) (by omega) (by omega) (by omega), row 14 (by omega) (by omega) (by omega) (by omega) (by omega) (by omega) (by omega)]; exact hR.eve
  · rw [row 16 (by omega) (by omega) (by omega) (by omega) (by omega) (by omega) (by omega), row 17 (by omega) (by omega) (by omega) (by omega) (by omega) (by omega) (by omega)]; exact hR.book
  · rw [row 19 (by omega) (by omega) (by omega) (by omega) (by omega) (by omega) (by omega), row 20 (by omega) (by omega) (by omega) (by omega) (by omega) (by omega) (by omega)]; exact hR.bod
  · rw [row 29 (by omega) (by omega) (by omega) (by omega) (by omega) (by omega) (by omega), row 30 (by omega) (by omega) (by omega) (by omega) (by omega) (by omega) (by omega), row 32 (by omega) (by omega) (by omega) (by omega) (by omega) (by omega) (by omega), row 33 (by omega) (by omega) (by omega) (by omega) (by omega) (by omega) (by omega)]; exact hR.held
  · exact hR.list.ofE (hf 42 1 (by omega) (by unfold fixS; omega)) (hf 42 2 (by omega) (by unfold fixS; omega)) fun E e1 e2 e3 => hE E e1 e2 fun i hi => e3 i (by omega)
  · intro b hb1
    obtain ⟨b1, b2, b3⟩ := hR.bot b hb1
    exact ⟨b1.ofE (fun k => hb b hb1 _ k (by omega) (by omega)) (hb b hb1 _ 0 (by omega) (by omega)) (hb b hb1 _ 0 (by omega) (by omega)) (hb b hb1 _ 0 (by omega) (by omega)), hLa b hb1 _ s (Or.inl rfl) b2, b3⟩
  · rw [row 0 (by omega) (by omega) (by omega) (by omega) (by omega) (by omega) (by omega)]; exact hR.none
  · intro h1
    obtain ⟨k1, k2, k3, k4, k5, k6, k7, k8, k9⟩ := hR.kept h1
    refine ⟨?_, ?_, ?_, ?_, ?_, ?_, ?_, k8, fun b hb1 => ⟨hLa b (by omega) _ im (Or.inr rfl) (k9 b hb1).1, (k9 b hb1).2⟩⟩
    · rw [row 0 (by omega) (by omega) (by omega) (by omega) (by omega) (by omega) (by omega)]; exact k1
    · rw [row 1 (by omega) (by omega) (by omega) (by omega) (by omega) (by omega) (by omega), row 3 (by omega) (by omega) (by omega) (by omega) (by omega) (by omega) (by omega)]; exact k2
    · rw [row 4 (by omega) (by omega) (by omega) (by omega) (by omega) (by omega) (by omega), row 6 (by omega) (by omega) (by omega) (by omega) (by omega) (by omega) (by omega)]; exact k3
    · rw [row 10 (by omega) (by omega) (by omega) (by omega) (by omega) (by omega) (by omega), row 12 (by omega) (by omega) (by omega) (by omega) (by omega) (by omega) (by omega)]; exact k4
    · rw [row 13 (by omega) (by omega) (by omega) (by omega) (by omega) (by omega) (by omega), row 15 (by omega) (by omega) (by omega) (by omega) (by omega) (by omega) (by omega)]; exact k5
    · rw [row 16 (by omega) (by omega) (by omega) (by omega) (by omega) (by omega) (by omega), row 18 (by omega) (by omega) (by omega) (by omega) (by omega) (by omega) (by omega)]; exact k6
    · rw [row 29 (by omega) (by omega) (by omega) (by omega) (by omega) (by omega) (by omega), row 31 (by omega) (by omega) (by omega) (by omega) (by omega) (by omega) (by omega), row 32 (by omega) (by omega) (by omega) (by omega) (by omega) (by omega) (by omega), row 34 (by omega) (by omega) (by omega) (by omega) (by omega) (by omega) (by omega)]; exact k7
theorem RepC.scr {h : Hp} {c c2 : Nat → Nat → Int} {B : Nat → Nat} {s im : Nat → Int} {hi : Int} {L : List Int} (hR : RepC h c B s im hi L) (hE : EqP (ScrP B (s 29)) c c2) : RepC h c2 B s im hi L := by
  refine hR.tr (fun a k ha hn => hE a k ?_) (fun b hb a k h1 h2 => hE a k ?_) (fun E e1 e2 e3 k => hE E k ?_)
  · rintro (h1 | ⟨b, hb, h1⟩)
    · exact hn h1
    · have := (hR.bot b hb).2.2
      omega
  · rintro (h3 | ⟨b2, hb2, h3⟩)
    · have := (hR.bot b hb).2.2
      unfold fixS at h3
      omega
    · by_cases e : b2 = b
      · subst e; omega
      · have := hR.dis b2 b hb2 hb e
        omega
  · rintro (h3 | ⟨b2, hb2, h3⟩)
    · unfold fixS at h3
      omega
    · have := e3 b2 hb2
      omega
theorem scr_try {B : Nat → Nat} {n : Int} {b : Nat} (hb : (b : Int) < n) : ∀ a k, (a = B b + (5 + 1) ∨ (a = B b + 5 ∧ 1 ≤ k ∧ k ≤ 5)) → ScrP B n a k := fun a k e => Or.inr ⟨b, hb, e⟩
theorem scr_fix {B : Nat → Nat} {n : Int} {a k : Nat} (h : fixS a k) : ScrP B n a k := Or.inl h
/-! years of one, and moods, behind n years at once -/
theorem goS_years {s : Nat → Int} {b : Nat} (hb : (b : Int) < s 29) : goS s (7 + b) = if s (19 + b) = 0 ∧ s (7 + b) < 199 then s (7 + b) + 1 else s (7 + b) := by
  unfold goS
  rw [if_neg (by omega), if_pos (by omega), show 12 + (7 + b) = 19 + b by omega]
theorem goN_lo {s : Nat → Int} (hG : InvG s) {k : Nat} (h0 : k ≠ 0) (hk : k < 7 ∨ (13 ≤ k ∧ k < 25)) : ∀ n, goN s n k = s k
  | 0 => rfl
  | n + 1 => by
    have hN := (hG.goN n).2.2.1
    exact (goS_lo (by omega) h0 hk).trans (goN_lo hG h0 hk n)
theorem goN_years {s : Nat → Int} (hG : InvG s) {b : Nat} (hb : (b : Int) < s 29) : ∀ n : Nat, goN s n (7 + b) = if s (19 + b) = 0 then (if 199 < s (7 + b) + (n : Int) then 199 else s (7 + b) + (n : Int)) else s (7 + b)
  | 0 => by
    have h7 := (hG.1 b (by have := hG.2.2.1; omega)).2.1
    show s (7 + b) = _
    split
    · rw [if_neg (by omega)]; omega
    · rfl
  | n + 1 => by
    have ih := goN_years hG hb n
    have h29 := goN_hi hG (k := 29) (by omega) n
    have h19 := goN_lo hG (k := 19 + b) (by omega) (by have := hG.2.2.1; omega) n
    show goS (goN s n) (7 + b) = _
    rw [goS_years (by omega), h19, ih]
    by_cases h0 : s (19 + b) = 0
    · simp only [h0, true_and, if_true]
      have h7 := (hG.1 b (by have := hG.2.2.1; omega)).2.1
      by_cases h1 : 199 < s (7 + b) + (n : Int)
      · rw [if_pos h1, if_neg (by omega), if_pos (by omega)]
      · rw [if_neg h1]
        by_cases h2 : s (7 + b) + (n : Int) < 199
        · rw [if_pos h2, if_neg (by omega)]; omega
        · rw [if_neg h2, if_pos (by omega)]; omega
    · simp [h0]
theorem goN_calm {s : Nat → Int} (hG : InvG s) (n : Nat) : tlI (goN s n) 228 0 = tlI s 228 0 := tlI_ofE (fun k hk => goN_hi hG hk n) hG.2.1 (by omega)
theorem goN_mood {s : Nat → Int} (hG : InvG s) {g : Nat} (hg : (g : Int) < s 36) : ∀ n : Nat, goN s n (25 + g) = nrI (s (25 + g)) (tlI s 228 0 * (n : Int))
  | 0 => by
    have hm := hG.2.2.2 g (by have := hG.2.2.1; omega)
    show s (25 + g) = _
    unfold nrI szI
    rw [Int.natCast_zero, Int.mul_zero]
    (repeat' split) <;> omega
  | n + 1 => by
    have ih := goN_mood hG hg n
    have hN := hG.2.2.1
    have hN2 := (hG.goN n).2.2.1
    have h36 := goN_hi hG (k := 36) (by omega) n
    have hm := hG.2.2.2 g (by omega)
    have hc := tl_calm hG.2.1
    have e : goS (goN s n) (25 + g) = nrI (goN s n (25 + g)) (tlI (goN s n) 228 0) := by
      unfold goS
      rw [if_neg (by omega), if_neg (by omega), if_pos (by omega)]
    show goS (goN s n) (25 + g) = _
    rw [e, ih, goN_calm hG]
    have hp : 0 ≤ tlI s 228 0 * (n : Int) := Int.mul_nonneg hc.1 (by omega)
    have hq : tlI s 228 0 * ((n + 1 : Nat) : Int) = tlI s 228 0 * (n : Int) + tlI s 228 0 := by rw [Int.natCast_add, Int.natCast_one, Int.mul_add, Int.mul_one]
    rw [hq]
    generalize tlI s 228 0 * (n : Int) = y at *
    unfold nrI szI
    (repeat' split) <;> omega
/-- row t as s, but for what the years changed of b -/
theorem laid_go {s : Nat → Int} (hG : InvG s) {c : Nat → Nat → Int} {q b n : Nat} (hb : (b : Int) < s 29) (h : LV c q (s (43 + b)) (s (1 + b)) (if s (19 + b) = 0 then (if 199 < s (7 + b) + (n : Int) then 199 else s (7 + b) + (n : Int)) else s (7 + b)) (s (13 + b)) (s (19 + b)) (fun k => s (49 + 4 * b + k))) : LaidS c q (goN s n) b := by
  have hN := hG.2.2.1
  unfold LaidS
  rw [goN_years hG hb, goN_lo hG (k := 1 + b) (by omega) (by omega), goN_lo hG (k := 13 + b) (by omega) (by omega), goN_lo hG (k := 19 + b) (by omega) (by omega), goN_hi hG (k := 43 + b) (by omega)]
  refine ⟨h.1, fun k hk => (h.2 k hk).trans (goN_hi hG (by omega) n).symm⟩
theorem HoldS.ofE {s t : Nat → Int} {l : List CLA} (h : HoldS s l) (hH : InvH s) (e : ∀ k, 29 ≤ k → (k < 37 ∨ 228 ≤ k) → t k = s k) : HoldS t l := by
  have e35 := e 35 (by omega) (by omega)
  have h35 := hH.h35
  refine ⟨?_, ?_, ?_⟩
  · rw [← h.1]
    unfold stL
    rw [e35]
    by_cases hc : s 35 = -1
    · rw [if_pos hc, if_pos hc]
    · rw [if_neg hc, if_neg hc, e (238 + s 35).toNat (by omega) (by omega)]
      congr 1
      funext i
      exact e _ (by omega) (by omega)
  · rw [← h.2.1]
    unfold tlI
    rw [e35]
    by_cases hc : s 35 = -1
    · rw [if_pos hc, if_pos hc]
    · rw [if_neg hc, if_neg hc, e _ (by omega) (by omega)]
  · rw [← h.2.2]
    unfold tlI
    rw [e35]
    by_cases hc : s 35 = -1
    · rw [if_pos hc, if_pos hc]
    · rw [if_neg hc, if_neg hc, e _ (by omega) (by omega)]
