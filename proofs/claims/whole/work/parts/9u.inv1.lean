/-! THE RANGES HOLD ON -/
theorem InvB.tr {s t : Nat → Int} (h : InvB s) (e : ∀ k, ((1 ≤ k ∧ k < 25) ∨ (37 ≤ k ∧ k < 73)) → t k = s k) : InvB t := fun b hb => by
  obtain ⟨h1, h2, h3, h4, h5, h6, h7⟩ := h b hb
  rw [e (1 + b) (by omega), e (7 + b) (by omega), e (13 + b) (by omega), e (19 + b) (by omega), e (37 + b) (by omega), e (43 + b) (by omega)]
  exact ⟨h1, h2, h3, h4, h5, h6, fun k hk => by rw [e _ (by omega)]; exact h7 k hk⟩
theorem InvB.up {s : Nat → Int} {k : Nat} {x : Int} (h : InvB s) (hx : ∀ b, b < 6 → (k = 1 + b → -99 ≤ x ∧ x ≤ 99) ∧ (k = 7 + b → 0 ≤ x ∧ x ≤ 199) ∧ (k = 13 + b → 0 ≤ x ∧ x ≤ 3) ∧ (k = 19 + b → x = 0 ∨ x = 1) ∧ (k = 37 + b → 0 ≤ x ∧ x ≤ 6) ∧ (k = 43 + b → 0 ≤ x ∧ x ≤ 9) ∧ (49 + 4 * b ≤ k ∧ k < 53 + 4 * b → 0 ≤ x ∧ x ≤ 9)) : InvB (upd1 s k x) := fun b hb => by
  obtain ⟨h1, h2, h3, h4, h5, h6, h7⟩ := h b hb
  obtain ⟨x1, x2, x3, x4, x5, x6, x7⟩ := hx b hb
  have one : ∀ j : Nat, (j = k ∧ upd1 s k x j = x) ∨ (j ≠ k ∧ upd1 s k x j = s j) := fun j => by
    by_cases e : j = k
    · exact Or.inl ⟨e, if_pos e⟩
    · exact Or.inr ⟨e, if_neg e⟩
  refine ⟨?_, ?_, ?_, ?_, ?_, ?_, fun j hj => ?_⟩
  · rcases one (1 + b) with ⟨e, e2⟩ | ⟨e, e2⟩ <;> rw [e2]
    · exact x1 e.symm
    · exact h1
  · rcases one (7 + b) with ⟨e, e2⟩ | ⟨e, e2⟩ <;> rw [e2]
    · exact x2 e.symm
    · exact h2
  · rcases one (13 + b) with ⟨e, e2⟩ | ⟨e, e2⟩ <;> rw [e2]
    · exact x3 e.symm
    · exact h3
  · rcases one (19 + b) with ⟨e, e2⟩ | ⟨e, e2⟩ <;> rw [e2]
    · exact x4 e.symm
    · exact h4
  · rcases one (37 + b) with ⟨e, e2⟩ | ⟨e, e2⟩ <;> rw [e2]
    · exact x5 e.symm
    · exact h5
  · rcases one (43 + b) with ⟨e, e2⟩ | ⟨e, e2⟩ <;> rw [e2]
    · exact x6 e.symm
    · exact h6
  · rcases one (49 + 4 * b + j) with ⟨e, e2⟩ | ⟨e, e2⟩ <;> rw [e2]
    · exact x7 (by omega)
    · exact h7 j hj
theorem InvH.tr {s t : Nat → Int} (h : InvH s) (e35 : t 35 = s 35) (e : ∀ k, 228 ≤ k → t k = s k) : InvH t := by
  rcases h with h | ⟨h1, h2, h3, h4, h5⟩
  · exact Or.inl (e35.trans h)
  · refine Or.inr ?_
    rw [e35, e _ (by omega), e _ (by omega), e _ (by omega)]
    refine ⟨h1, h2, h3, h4, ?_⟩
    have es : stL t = stL s := by
      unfold stL
      rw [e35, if_neg (by omega), if_neg (by omega), e _ (by omega)]
      exact List.map_congr_left fun i hi => e _ (by omega)
    rw [es]; exact h5
/-- what a change outside some of the rows leaves -/
def XTa (s : Nat → Int) : Prop := ∀ k : Nat, k < 100 → 0 ≤ s (128 + k) ∧ s (128 + k) ≤ 127
def XSe (s : Nat → Int) : Prop := ∀ k : Nat, (k : Int) < s 31 → (0 ≤ s (73 + k) ∧ s (73 + k) < s 29) ∧ (-999 ≤ s (78 + k) ∧ s (78 + k) ≤ 999) ∧ (0 ≤ s (83 + k) ∧ s (83 + k) ≤ 20)
def XEv (s : Nat → Int) : Prop := ∀ k : Nat, (k : Int) < s 32 → (0 ≤ s (88 + k) ∧ s (88 + k) ≤ 3) ∧ (s (88 + k) ≠ 0 → 0 ≤ s (96 + k) ∧ s (96 + k) < s 29) ∧ (s (88 + k) = 1 → 0 ≤ s (104 + k) ∧ s (104 + k) < s 36) ∧ inR (s (96 + k))
def XBo (s : Nat → Int) : Prop := ∀ k : Nat, (k : Int) < s 33 → (0 ≤ s (112 + k) ∧ s (112 + k) < s 29) ∧ (-999 ≤ s (120 + k) ∧ s (120 + k) ≤ 999)
theorem XTa.tr {s t : Nat → Int} (h : XTa s) (e : ∀ k, 128 ≤ k → k < 228 → t k = s k) : XTa t := fun k hk => by rw [e _ (by omega) (by omega)]; exact h k hk
theorem XSe.tr {s t : Nat → Int} (h : XSe s) (hn : s 31 ≤ 5) (e31 : t 31 = s 31) (e29 : s 29 ≤ t 29) (e : ∀ k, 73 ≤ k → k < 88 → t k = s k) : XSe t := fun k hk => by
  rw [e31] at hk
  obtain ⟨h1, h2, h3⟩ := h k hk
  rw [e (73 + k) (by omega) (by omega), e (78 + k) (by omega) (by omega), e (83 + k) (by omega) (by omega)]
  exact ⟨by omega, h2, h3⟩
theorem XEv.tr {s t : Nat → Int} (h : XEv s) (hn : s 32 ≤ 8) (e32 : t 32 = s 32) (e29 : s 29 ≤ t 29) (e36 : s 36 ≤ t 36) (e : ∀ k, 88 ≤ k → k < 112 → t k = s k) : XEv t := fun k hk => by
  rw [e32] at hk
  obtain ⟨h1, h2, h3, h4⟩ := h k hk
  rw [e (88 + k) (by omega) (by omega), e (96 + k) (by omega) (by omega), e (104 + k) (by omega) (by omega)]
  exact ⟨h1, fun z => by have := h2 z; omega, fun z => by have := h3 z; omega, h4⟩
theorem XBo.tr {s t : Nat → Int} (h : XBo s) (hn : s 33 ≤ 8) (e33 : t 33 = s 33) (e29 : s 29 ≤ t 29) (e : ∀ k, 112 ≤ k → k < 128 → t k = s k) : XBo t := fun k hk => by
  rw [e33] at hk
  obtain ⟨h1, h2⟩ := h k hk
  rw [e (112 + k) (by omega) (by omega), e (120 + k) (by omega) (by omega)]
  exact ⟨by omega, h2⟩
theorem Inv.mk' {t : Nat → Int} (hB : InvB t) (hH : InvH t) (hN : InvN t) (h0 : 0 ≤ t 0 ∧ t 0 ≤ 9999) (h35 : t 35 = t 30 - 1) (hT : XTa t) (hS : XSe t) (hE : XEv t) (hK : XBo t) : Inv t := ⟨hB, hH, hN, h0, h35, hT, hS, hE, hK⟩
theorem I_feed {s : Nat → Int} (hA : Inv s) {x : Int} : Inv (f_feed s x).2 := by
  unfold f_feed
  split
  · exact hA
  split
  · exact hA
  next h1 h2 =>
  obtain ⟨hI, hH, ⟨⟨n29, n30, n31, n32, n33, n34, n36⟩, nM⟩, x0, x35, xT, xS, xE, xB⟩ := hA
  have h1 : btw 0 x 127 := Classical.byContradiction h1
  have e : ∀ k, k ≠ 34 → ¬ (128 ≤ k ∧ k < 228) → upd1 (upd1 s (128 + (s 34).toNat) x) 34 (s 34 + 1) k = s k := fun k a b => by rw [upd1_ne a, upd1_ne (by omega)]
  have e34 : upd1 (upd1 s (128 + (s 34).toNat) x) 34 (s 34 + 1) 34 = s 34 + 1 := upd1_same
  show Inv (upd1 (upd1 s (128 + (s 34).toNat) x) 34 (s 34 + 1))
  generalize hv : upd1 (upd1 s (128 + (s 34).toNat) x) 34 (s 34 + 1) = t at *
  have e29 := e 29 (by omega) (by omega)
  have e30 := e 30 (by omega) (by omega)
  have e31 := e 31 (by omega) (by omega)
  have e32 := e 32 (by omega) (by omega)
  have e33 := e 33 (by omega) (by omega)
  have e35 := e 35 (by omega) (by omega)
  have e36 := e 36 (by omega) (by omega)
  have e0 := e 0 (by omega) (by omega)
  refine Inv.mk' (hI.tr fun k hk => e k (by omega) (by omega)) (hH.tr e35 fun k hk => e k (by omega) (by omega)) ⟨by omega, fun k hk => by rw [e _ (by omega) (by omega)]; exact nM k hk⟩ (by omega) (by omega) (fun k hk => ?_) (XSe.tr xS (by omega) e31 (by omega) fun k a b => e k (by omega) (by omega)) (XEv.tr xE (by omega) e32 (by omega) (by omega) fun k a b => e k (by omega) (by omega)) (XBo.tr xB (by omega) e33 (by omega) fun k a b => e k (by omega) (by omega))
  rw [← hv, upd1_ne (by omega)]
  unfold upd1
  split
  · exact h1
  · exact xT k hk
theorem I_guest {s : Nat → Int} (hA : Inv s) {x : Int} : Inv (f_guest s x).2 := by
  unfold f_guest
  split
  · exact hA
  split
  · exact hA
  next h1 h2 =>
  obtain ⟨hI, hH, ⟨⟨n29, n30, n31, n32, n33, n34, n36⟩, nM⟩, x0, x35, xT, xS, xE, xB⟩ := hA
  have h1 : btw (-99) x 99 := Classical.byContradiction h1
  have e : ∀ k, k ≠ 36 → ¬ (25 ≤ k ∧ k < 29) → upd1 (upd1 s (25 + (s 36).toNat) x) 36 (s 36 + 1) k = s k := fun k a b => by rw [upd1_ne a, upd1_ne (by omega)]
  have e36 : upd1 (upd1 s (25 + (s 36).toNat) x) 36 (s 36 + 1) 36 = s 36 + 1 := upd1_same
  show Inv (upd1 (upd1 s (25 + (s 36).toNat) x) 36 (s 36 + 1))
  generalize hv : upd1 (upd1 s (25 + (s 36).toNat) x) 36 (s 36 + 1) = t at *
  have e29 := e 29 (by omega) (by omega)
  have e30 := e 30 (by omega) (by omega)
  have e31 := e 31 (by omega) (by omega)
  have e32 := e 32 (by omega) (by omega)
  have e33 := e 33 (by omega) (by omega)
  have e34 := e 34 (by omega) (by omega)
  have e35 := e 35 (by omega) (by omega)
  have e0 := e 0 (by omega) (by omega)
  refine Inv.mk' (hI.tr fun k hk => e k (by omega) (by omega)) (hH.tr e35 fun k hk => e k (by omega) (by omega)) ⟨by omega, fun k hk => ?_⟩ (by omega) (by omega) (XTa.tr xT fun k a b => e k (by omega) (by omega)) (XSe.tr xS (by omega) e31 (by omega) fun k a b => e k (by omega) (by omega)) (XEv.tr xE (by omega) e32 (by omega) (by omega) fun k a b => e k (by omega) (by omega)) (XBo.tr xB (by omega) e33 (by omega) fun k a b => e k (by omega) (by omega))
  rw [← hv, upd1_ne (by omega)]
  unfold upd1
  split
  · exact h1
  · exact nM k hk
theorem Inv.up {s : Nat → Int} (hA : Inv s) {j : Nat} {x : Int} (hj : (1 ≤ j ∧ j < 25) ∨ (37 ≤ j ∧ j < 73)) (hB : InvB (upd1 s j x)) : Inv (upd1 s j x) := by
  obtain ⟨hI, hH, ⟨⟨n29, n30, n31, n32, n33, n34, n36⟩, nM⟩, x0, x35, xT, xS, xE, xB⟩ := hA
  have e : ∀ k, ¬ ((1 ≤ k ∧ k < 25) ∨ (37 ≤ k ∧ k < 73)) → upd1 s j x k = s k := fun k a => upd1_ne (by omega)
  generalize upd1 s j x = t at *
  have e29 := e 29 (by omega)
  have e30 := e 30 (by omega)
  have e31 := e 31 (by omega)
  have e32 := e 32 (by omega)
  have e33 := e 33 (by omega)
  have e34 := e 34 (by omega)
  have e35 := e 35 (by omega)
  have e36 := e 36 (by omega)
  have e0 := e 0 (by omega)
  exact Inv.mk' hB (hH.tr e35 fun k hk => e k (by omega)) ⟨by omega, fun k hk => by rw [e _ (by omega)]; exact nM k hk⟩ (by omega) (by omega) (XTa.tr xT fun k a b => e k (by omega)) (XSe.tr xS (by omega) e31 (by omega) fun k a b => e k (by omega)) (XEv.tr xE (by omega) e32 (by omega) (by omega) fun k a b => e k (by omega)) (XBo.tr xB (by omega) e33 (by omega) fun k a b => e k (by omega))
theorem Inv.mood {s : Nat → Int} (hA : Inv s) {j : Nat} {x : Int} (hj : 25 ≤ j ∧ j < 29) (hx : -99 ≤ x ∧ x ≤ 99) : Inv (upd1 s j x) := by
  obtain ⟨hI, hH, ⟨⟨n29, n30, n31, n32, n33, n34, n36⟩, nM⟩, x0, x35, xT, xS, xE, xB⟩ := hA
  have e : ∀ k, ¬ (25 ≤ k ∧ k < 29) → upd1 s j x k = s k := fun k a => upd1_ne (by omega)
  have em : ∀ k : Nat, k < 4 → -99 ≤ upd1 s j x (25 + k) ∧ upd1 s j x (25 + k) ≤ 99 := fun k hk => by
    unfold upd1
    split
    · exact hx
    · exact nM k hk
  generalize upd1 s j x = t at *
  have e29 := e 29 (by omega)
  have e30 := e 30 (by omega)
  have e31 := e 31 (by omega)
  have e32 := e 32 (by omega)
  have e33 := e 33 (by omega)
  have e34 := e 34 (by omega)
  have e35 := e 35 (by omega)
  have e36 := e 36 (by omega)
  have e0 := e 0 (by omega)
  exact Inv.mk' (hI.tr fun k hk => e k (by omega)) (hH.tr e35 fun k hk => e k (by omega)) ⟨by omega, em⟩ (by omega) (by omega) (XTa.tr xT fun k a b => e k (by omega)) (XSe.tr xS (by omega) e31 (by omega) fun k a b => e k (by omega)) (XEv.tr xE (by omega) e32 (by omega) (by omega) fun k a b => e k (by omega)) (XBo.tr xB (by omega) e33 (by omega) fun k a b => e k (by omega))
theorem I_row {s : Nat → Int} (hA : Inv s) {x k n : Int} : Inv (f_row s x k n).2 := by
  unfold f_row
  split
  · exact hA
  split
  · exact hA
  split
  · exact hA
  next h1 h2 h3 =>
  have n29 := hA.2.2.1.1.1
  have h2 : btw 0 n 9 := Classical.byContradiction h2
  have h4 : isB s x := Classical.byContradiction fun z => h1 (Or.inl z)
  have h5 : btw 0 k 3 := Classical.byContradiction fun z => h1 (Or.inr z)
  exact hA.up (by omega) (hA.1.up fun b hb => by omega)
theorem I_set {s : Nat → Int} (hA : Inv s) {x w n : Int} : Inv (f_set s x w n).2 := by
  unfold f_set
  by_cases h1 : ¬ isB s x ∨ ¬ btw 0 w 1
  · rw [if_pos h1]; exact hA
  rw [if_neg h1]
  by_cases h2 : ¬ btw 0 n (if w = 0 then 199 else 3)
  · rw [if_pos h2]; exact hA
  rw [if_neg h2]
  have n29 := hA.2.2.1.1.1
  have h2 : btw 0 n (if w = 0 then 199 else 3) := Classical.byContradiction h2
  have h4 : isB s x := Classical.byContradiction fun z => h1 (Or.inl z)
  have h5 : btw 0 w 1 := Classical.byContradiction fun z => h1 (Or.inr z)
  rcases (show w = 0 ∨ w = 1 by omega) with rfl | rfl
  · rw [if_pos rfl] at h2
    exact hA.up (by omega) (hA.1.up fun b hb => by omega)
  · rw [if_neg (by decide)] at h2
    exact hA.up (by omega) (hA.1.up fun b hb => by omega)
theorem I_brS {s : Nat → Int} (hA : Inv s) {g : Nat} (hg : g < 4) {x : Int} : Inv (brS s g x) := hA.mood (by omega) clI_in
theorem I_pour {s : Nat → Int} (hA : Inv s) {x g : Int} : Inv (f_pour s x g).2 := by
  unfold f_pour
  split
  · exact hA
  split
  · exact hA
  next h1 h2 =>
  have n29 := hA.2.2.1.1.1
  have n36 := hA.2.2.1.1.2.2.2.2.2.2
  have h4 : isB s x := Classical.byContradiction fun z => h1 (Or.inl z)
  have h5 : isG s g := Classical.byContradiction fun z => h1 (Or.inr z)
  have h6 := I_brS hA (g := g.toNat) (by omega) (x := syS s x.toNat)
  exact h6.up (by omega) (h6.1.up fun b hb => by omega)
theorem I_both {s : Nat → Int} (hA : Inv s) {x y g : Int} : Inv (f_both s x y g).2 := by
  unfold f_both
  split
  · exact hA
  split
  · exact hA
  split
  · exact hA
  next h1 h2 h3 =>
  have n29 := hA.2.2.1.1.1
  have n36 := hA.2.2.1.1.2.2.2.2.2.2
  have h4 : isB s x := Classical.byContradiction fun z => h1 (Or.inl z)
  have h5 : isB s y := Classical.byContradiction fun z => h1 (Or.inr (Or.inl z))
  have h7 : isG s g := Classical.byContradiction fun z => h1 (Or.inr (Or.inr z))
  have h6 := I_brS hA (g := g.toNat) (by omega) (x := (syS s x.toNat + syS s y.toNat).tdiv 2)
  have h8 := h6.up (j := 19 + x.toNat) (x := 1) (by omega) (h6.1.up fun b hb => by omega)
  exact h8.up (by omega) (h8.1.up fun b hb => by omega)
