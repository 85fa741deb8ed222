theorem nbS_o {s : Nat → Int} {n : Nat} {k v w : Int} {j : Nat} (h : j ≠ 37 + n ∧ j ≠ 43 + n ∧ j ≠ 1 + n ∧ j ≠ 7 + n ∧ j ≠ 13 + n ∧ j ≠ 19 + n ∧ (j < 49 + 4 * n ∨ 53 + 4 * n ≤ j) ∧ j ≠ 29) : nbS s n k v w j = s j := by
  unfold nbS
  rw [upd1_ne (by omega), upd1_ne (by omega), upd1_ne (by omega), upd1_ne (by omega), upd1_ne (by omega), upd1_ne (by omega), upd1_ne (by omega), upd1_ne (by omega), upd1_ne (by omega), upd1_ne (by omega), upd1_ne (by omega)]
theorem nbS_29 {s : Nat → Int} {n : Nat} {k v w : Int} : nbS s n k v w 29 = (n : Int) + 1 := upd1_same
theorem nbS_k {s : Nat → Int} {n : Nat} {k v w : Int} (hn : n ≤ 5) : nbS s n k v w (37 + n) = k := by
  unfold nbS
  rw [upd1_ne (by omega), upd1_ne (by omega), upd1_ne (by omega), upd1_ne (by omega), upd1_ne (by omega), upd1_ne (by omega), upd1_ne (by omega), upd1_ne (by omega), upd1_ne (by omega), upd1_ne (by omega), upd1_same]
theorem nbS_v {s : Nat → Int} {n : Nat} {k v w : Int} (hn : n ≤ 5) : nbS s n k v w (43 + n) = v := by
  unfold nbS
  rw [upd1_ne (by omega), upd1_ne (by omega), upd1_ne (by omega), upd1_ne (by omega), upd1_ne (by omega), upd1_ne (by omega), upd1_ne (by omega), upd1_ne (by omega), upd1_ne (by omega), upd1_same]
theorem nbS_w {s : Nat → Int} {n : Nat} {k v w : Int} (hn : n ≤ 5) : nbS s n k v w (1 + n) = w := by
  unfold nbS
  rw [upd1_ne (by omega), upd1_ne (by omega), upd1_ne (by omega), upd1_ne (by omega), upd1_ne (by omega), upd1_ne (by omega), upd1_ne (by omega), upd1_ne (by omega), upd1_same]
theorem nbS_z {s : Nat → Int} {n : Nat} {k v w : Int} (hn : n ≤ 5) {j : Nat} (hj : j = 7 + n ∨ j = 13 + n ∨ j = 19 + n ∨ (49 + 4 * n ≤ j ∧ j < 53 + 4 * n)) : nbS s n k v w j = 0 := by
  unfold nbS
  rw [upd1_ne (by omega)]
  unfold upd1
  (repeat' split) <;> first | rfl | (exfalso; omega)
theorem HoldS.ofF {s t : Nat → Int} {l : List CLA} (h : HoldS s l) (hH : InvH s) (e35 : t 35 = s 35) (e : ∀ k, 228 ≤ k → t k = s k) : HoldS t l := by
  obtain ⟨h1, h2, h3⟩ := h
  refine ⟨?_, ?_, ?_⟩
  · rw [← h1]
    unfold stL
    rw [e35]
    by_cases hc : s 35 = -1
    · rw [if_pos hc, if_pos hc]
    · rw [if_neg hc, if_neg hc]
      rcases hH with hH | ⟨g1, -⟩
      · exact absurd hH hc
      · rw [e (238 + s 35).toNat (by omega)]
        exact List.map_congr_left fun i hi => e _ (by omega)
  · rw [← h2]
    unfold tlI
    rw [e35]
    by_cases hc : s 35 = -1
    · rw [if_pos hc, if_pos hc]
    · rw [if_neg hc, if_neg hc]
      rcases hH with hH | ⟨g1, -⟩
      · exact absurd hH hc
      · exact e _ (by omega)
  · rw [← h3]
    unfold tlI
    rw [e35]
    by_cases hc : s 35 = -1
    · rw [if_pos hc, if_pos hc]
    · rw [if_neg hc, if_neg hc]
      rcases hH with hH | ⟨g1, -⟩
      · exact absurd hH hc
      · exact e _ (by omega)
theorem RepC.mkN {h h2 : Hp} {c c2 : Nat → Nat → Int} {B : Nat → Nat} {s im : Nat → Int} {hi : Int} {L : List Int} (hR : RepC h c B s im hi L) (hA : Inv s) {n p : Nat} {k v w : Int} (hn : s 29 = (n : Int)) (hn5 : n ≤ 5) (hp : p = mN h) (hp55 : 55 ≤ p) (hx : Hx h h2) (hf : ∀ a k, a < 55 → a ≠ 42 → c2 a k = c a k) (hold : ∀ b : Nat, b < n → ∀ a k, B b ≤ a → a ≤ B b + 6 → c2 a k = c a k) (hLB : LBp h2 c2 (n + 1) (upB B n p)) (hBo : Bot h2 c2 p n k) (hLV : LV c2 (p + 1) v w 0 0 0 (fun _ => 0)) : RepC h2 c2 (upB B n p) (nbS s n k v w) im hi L := by
  obtain ⟨hI, hH, ⟨⟨n29, n30, n31, n32, n33, n34, n36⟩, nM⟩, hX⟩ := hA
  have row : ∀ a, a < 55 → a ≠ 42 → c2 a = c a := fun a h1 h2 => funext fun k => hf a k h1 h2
  have hCT : ∀ e ∈ CT, e.1 < 55 ∧ e.1 ≠ 42 := by decide
  have hz := fun j (hj : j = 0 ∨ (25 ≤ j ∧ j < 37 ∧ j ≠ 29) ∨ 73 ≤ j) => nbS_o (s := s) (n := n) (k := k) (v := v) (w := w) (j := j) (by omega)
  refine ⟨hR.C.of fun e he => hf _ _ (hCT e he).1 (hCT e he).2, ?_, ?_, ?_, ?_, ?_, ?_, ?_, ?_, ?_, ?_, ?_, ?_, ?_⟩
  · rw [hz 30 (by omega), hz 0 (by omega), row 0 (by omega) (by omega)]; exact hR.2.1
  · rw [row 1 (by omega) (by omega), row 2 (by omega) (by omega)]; exact hR.tape.tr (fun k hk => hz k (by omega)) (by omega)
  · rw [row 4 (by omega) (by omega), row 5 (by omega) (by omega)]; exact hR.mood.tr (fun k hk => hz k (by omega)) (by omega)
  · rw [row 10 (by omega) (by omega), row 11 (by omega) (by omega)]; exact hR.seen.tr (fun k hk => hz k (by omega)) (by omega)
  · rw [row 13 (by omega) (by omega), row 14 (by omega) (by omega)]; exact hR.eve.tr (fun k hk => hz k (by omega)) (by omega)
  · rw [row 16 (by omega) (by omega), row 17 (by omega) (by omega)]; exact hR.book.tr (fun k hk => hz k (by omega)) (by omega)
  · rw [row 19 (by omega) (by omega), row 20 (by omega) (by omega)]; exact hR.bod
  · rw [row 29 (by omega) (by omega), row 30 (by omega) (by omega), row 32 (by omega) (by omega), row 33 (by omega) (by omega)]
    obtain ⟨l, k1, k2⟩ := hR.held
    exact ⟨l, k1, k2.ofF hH (hz 35 (by omega)) fun k hk => hz k (by omega)⟩
  · rw [nbS_29, show ((n : Int) + 1).toNat = n + 1 by omega]; exact hLB
  · intro b hb
    rw [nbS_29] at hb
    by_cases e : b = n
    · subst e
      rw [upB_n, nbS_k hn5]
      refine ⟨hBo, ⟨⟨?_, ?_, ?_, ?_, ?_⟩, fun j hj => ?_⟩, by omega⟩
      · rw [nbS_v hn5]; exact hLV.1.1
      · rw [nbS_w hn5]; exact hLV.1.2.1
      · rw [nbS_z hn5 (by omega)]; exact hLV.1.2.2.1
      · rw [nbS_z hn5 (by omega)]; exact hLV.1.2.2.2.1
      · rw [nbS_z hn5 (by omega)]; exact hLV.1.2.2.2.2
      · exact (hLV.2 j hj).trans (nbS_z (j := 49 + 4 * b + j) hn5 (by omega)).symm
    · obtain ⟨b1, b2, b3⟩ := hR.bot b (by omega)
      have ho := hold b (by omega)
      rw [upB_o e, nbS_o (j := 37 + b) (by omega)]
      exact ⟨(b1.x hx).ofE (fun k => ho _ k (by omega) (by omega)) (ho _ 0 (by omega) (by omega)) (ho _ 0 (by omega) (by omega)) (ho _ 0 (by omega) (by omega)), LaidS.ofT (b2.ofE (fun k => ho _ k (by omega) (by omega)) (fun k => ho _ k (by omega) (by omega))) (fun k hk => nbS_o (by omega)), b3⟩
  · intro i j hi hj hij
    rw [nbS_29] at hi hj
    by_cases ei : i = n
    · have hBj := (hR.bot j (by omega)).1.1.1
      rw [ei, upB_n, upB_o (by omega)]
      omega
    · by_cases ej : j = n
      · have hBi := (hR.bot i (by omega)).1.1.1
        rw [ej, upB_n, upB_o ei]
        omega
      · rw [upB_o ei, upB_o ej]
        exact hR.dis i j (by omega) (by omega) hij
  · rw [row 0 (by omega) (by omega)]; exact hR.none
  · intro hi1
    obtain ⟨k1, k2, k3, k4, k5, k6, k7, k8, k9⟩ := hR.kept hi1
    refine ⟨?_, ?_, ?_, ?_, ?_, ?_, ?_, by rw [nbS_29]; omega, fun b hb => ?_⟩
    · rw [row 0 (by omega) (by omega)]; exact k1
    · rw [row 1 (by omega) (by omega), row 3 (by omega) (by omega)]; exact k2
    · rw [row 4 (by omega) (by omega), row 6 (by omega) (by omega)]; exact k3
    · rw [row 10 (by omega) (by omega), row 12 (by omega) (by omega)]; exact k4
    · rw [row 13 (by omega) (by omega), row 15 (by omega) (by omega)]; exact k5
    · rw [row 16 (by omega) (by omega), row 18 (by omega) (by omega)]; exact k6
    · rw [row 29 (by omega) (by omega), row 31 (by omega) (by omega), row 32 (by omega) (by omega), row 34 (by omega) (by omega)]; exact k7
    · have ho := hold b (by omega)
      rw [upB_o (by omega), nbS_o (j := 37 + b) (by omega)]
      exact ⟨(k9 b hb).1.ofE (fun k => ho _ k (by omega) (by omega)) (fun k => ho _ k (by omega) (by omega)), (k9 b hb).2⟩
theorem LBp.x {h h' : Hp} {c : Nat → Nat → Int} {n : Nat} {B : Nat → Nat} (hB : LBp h c n B) (hx : Hx h h') : LBp h' c n B := by
  obtain ⟨b1, b2, b3⟩ := hB
  refine ⟨b1, b2, ?_⟩
  rcases b3 with b4 | ⟨E, e1, e2, e3, e4, e5, e6⟩
  · exact Or.inl b4
  · have := hx.1
    exact Or.inr ⟨E, e1, by omega, (hx.2 E e2.2).1.trans e3, (hx.2 E e2.2).2.trans e4, e5, e6⟩
