theorem Inv.cnt {s : Nat → Int} (hA : Inv s) {j : Nat} (hj : j = 31 ∨ j = 32 ∨ j = 33) : Inv (upd1 s j 0) := by
  obtain ⟨hI, hH, ⟨⟨n29, n30, n31, n32, n33, n34, n36⟩, nM⟩, x0, x35, xT, xS, xE, xB⟩ := hA
  have e : ∀ k, k ≠ j → upd1 s j 0 k = s k := fun k a => upd1_ne a
  have ej : upd1 s j 0 j = 0 := upd1_same
  generalize upd1 s j 0 = t at *
  have e0 := e 0 (by omega)
  have e29 := e 29 (by omega)
  have e30 := e 30 (by omega)
  have e34 := e 34 (by omega)
  have e35 := e 35 (by omega)
  have e36 := e 36 (by omega)
  refine Inv.mk' (hI.tr fun k hk => e k (by omega)) (hH.tr e35 fun k hk => e k (by omega)) ⟨⟨by omega, by omega, ?_, ?_, ?_, by omega, by omega⟩, fun k hk => by rw [e _ (by omega)]; exact nM k hk⟩ (by omega) (by omega) (XTa.tr xT fun k a b => e k (by omega)) (fun k hk => ?_) (fun k hk => ?_) (fun k hk => ?_)
  · by_cases h : j = 31
    · subst h; omega
    · have := e 31 (by omega); omega
  · by_cases h : j = 32
    · subst h; omega
    · have := e 32 (by omega); omega
  · by_cases h : j = 33
    · subst h; omega
    · have := e 33 (by omega); omega
  · by_cases h : j = 31
    · subst h; omega
    · exact XSe.tr xS (by omega) (e 31 (by omega)) (by omega) (fun k a b => e k (by omega)) k hk
  · by_cases h : j = 32
    · subst h; omega
    · exact XEv.tr xE (by omega) (e 32 (by omega)) (by omega) (by omega) (fun k a b => e k (by omega)) k hk
  · by_cases h : j = 33
    · subst h; omega
    · exact XBo.tr xB (by omega) (e 33 (by omega)) (by omega) (fun k a b => e k (by omega)) k hk
theorem I_see {s : Nat → Int} (hA : Inv s) {x y z : Int} : Inv (f_see s x y z).2 := by
  unfold f_see
  by_cases h0 : x = -1
  · rw [if_pos h0]; exact hA.cnt (Or.inl rfl)
  rw [if_neg h0]
  by_cases h1 : ¬ isB s x
  · rw [if_pos h1]; exact hA
  rw [if_neg h1]
  by_cases h2 : ¬ btw (-999) y 999 ∨ ¬ btw 0 z 20
  · rw [if_pos h2]; exact hA
  rw [if_neg h2]
  by_cases h3 : s 31 = 5
  · rw [if_pos h3]; exact hA
  rw [if_neg h3]
  have h1 : isB s x := Classical.byContradiction h1
  have h4 : btw (-999) y 999 := Classical.byContradiction fun q => h2 (Or.inl q)
  have h5 : btw 0 z 20 := Classical.byContradiction fun q => h2 (Or.inr q)
  obtain ⟨hI, hH, ⟨⟨n29, n30, n31, n32, n33, n34, n36⟩, nM⟩, x0, x35, xT, xS, xE, xB⟩ := hA
  obtain ⟨n, hn⟩ := Int.eq_ofNat_of_zero_le n31.1
  rw [show (s 31).toNat = n by omega]
  have e : ∀ k, k ≠ 31 → ¬ (73 ≤ k ∧ k < 88) → (upd1 (upd1 (upd1 (upd1 s (73 + n) x) (78 + n) y) (83 + n) z) 31 (s 31 + 1)) k = s k := fun k a b => by rw [upd1_ne a, upd1_ne (by omega), upd1_ne (by omega), upd1_ne (by omega)]
  have e31 : (upd1 (upd1 (upd1 (upd1 s (73 + n) x) (78 + n) y) (83 + n) z) 31 (s 31 + 1)) 31 = s 31 + 1 := upd1_same
  have v1 : ∀ k : Nat, (k : Int) < s 31 → (upd1 (upd1 (upd1 (upd1 s (73 + n) x) (78 + n) y) (83 + n) z) 31 (s 31 + 1)) (73 + k) = s (73 + k) ∧ (upd1 (upd1 (upd1 (upd1 s (73 + n) x) (78 + n) y) (83 + n) z) 31 (s 31 + 1)) (78 + k) = s (78 + k) ∧ (upd1 (upd1 (upd1 (upd1 s (73 + n) x) (78 + n) y) (83 + n) z) 31 (s 31 + 1)) (83 + k) = s (83 + k) := fun k hk => ⟨by rw [upd1_ne (by omega), upd1_ne (by omega), upd1_ne (by omega), upd1_ne (by omega)], by rw [upd1_ne (by omega), upd1_ne (by omega), upd1_ne (by omega), upd1_ne (by omega)], by rw [upd1_ne (by omega), upd1_ne (by omega), upd1_ne (by omega), upd1_ne (by omega)]⟩
  have v2 : (upd1 (upd1 (upd1 (upd1 s (73 + n) x) (78 + n) y) (83 + n) z) 31 (s 31 + 1)) (73 + n) = x ∧ (upd1 (upd1 (upd1 (upd1 s (73 + n) x) (78 + n) y) (83 + n) z) 31 (s 31 + 1)) (78 + n) = y ∧ (upd1 (upd1 (upd1 (upd1 s (73 + n) x) (78 + n) y) (83 + n) z) 31 (s 31 + 1)) (83 + n) = z := ⟨by rw [upd1_ne (by omega), upd1_ne (by omega), upd1_ne (by omega), upd1_same], by rw [upd1_ne (by omega), upd1_ne (by omega), upd1_same], by rw [upd1_ne (by omega), upd1_same]⟩
  show Inv (upd1 (upd1 (upd1 (upd1 s (73 + n) x) (78 + n) y) (83 + n) z) 31 (s 31 + 1))
  generalize upd1 (upd1 (upd1 (upd1 s (73 + n) x) (78 + n) y) (83 + n) z) 31 (s 31 + 1) = t at *
  have e0 := e 0 (by omega) (by omega)
  have e29 := e 29 (by omega) (by omega)
  have e30 := e 30 (by omega) (by omega)
  have e32 := e 32 (by omega) (by omega)
  have e33 := e 33 (by omega) (by omega)
  have e34 := e 34 (by omega) (by omega)
  have e35 := e 35 (by omega) (by omega)
  have e36 := e 36 (by omega) (by omega)
  refine Inv.mk' (hI.tr fun k hk => e k (by omega) (by omega)) (hH.tr e35 fun k hk => e k (by omega) (by omega)) ⟨by omega, fun k hk => by rw [e _ (by omega) (by omega)]; exact nM k hk⟩ (by omega) (by omega) (XTa.tr xT fun k a b => e k (by omega) (by omega)) (fun k hk => ?_) (XEv.tr xE (by omega) e32 (by omega) (by omega) fun k a b => e k (by omega) (by omega)) (XBo.tr xB (by omega) e33 (by omega) fun k a b => e k (by omega) (by omega))
  by_cases hkn : k = n
  · subst hkn
    rw [v2.1, v2.2.1, v2.2.2, e29]
    exact ⟨h1, h4, h5⟩
  · obtain ⟨g1, g2, g3⟩ := v1 k (by omega)
    rw [g1, g2, g3, e29]
    exact xS k (by omega)
theorem I_book {s : Nat → Int} (hA : Inv s) {x y : Int} : Inv (f_book s x y).2 := by
  unfold f_book
  by_cases h0 : x = -1
  · rw [if_pos h0]; exact hA.cnt (Or.inr (Or.inr rfl))
  rw [if_neg h0]
  by_cases h1 : ¬ isB s x
  · rw [if_pos h1]; exact hA
  rw [if_neg h1]
  by_cases h2 : ¬ btw (-999) y 999
  · rw [if_pos h2]; exact hA
  rw [if_neg h2]
  by_cases h3 : s 33 = 8
  · rw [if_pos h3]; exact hA
  rw [if_neg h3]
  have h1 : isB s x := Classical.byContradiction h1
  have h4 : btw (-999) y 999 := Classical.byContradiction h2
  obtain ⟨hI, hH, ⟨⟨n29, n30, n31, n32, n33, n34, n36⟩, nM⟩, x0, x35, xT, xS, xE, xB⟩ := hA
  obtain ⟨n, hn⟩ := Int.eq_ofNat_of_zero_le n33.1
  rw [show (s 33).toNat = n by omega]
  have e : ∀ k, k ≠ 33 → ¬ (112 ≤ k ∧ k < 128) → (upd1 (upd1 (upd1 s (112 + n) x) (120 + n) y) 33 (s 33 + 1)) k = s k := fun k a b => by rw [upd1_ne a, upd1_ne (by omega), upd1_ne (by omega)]
  have e33 : (upd1 (upd1 (upd1 s (112 + n) x) (120 + n) y) 33 (s 33 + 1)) 33 = s 33 + 1 := upd1_same
  have v1 : ∀ k : Nat, (k : Int) < s 33 → (upd1 (upd1 (upd1 s (112 + n) x) (120 + n) y) 33 (s 33 + 1)) (112 + k) = s (112 + k) ∧ (upd1 (upd1 (upd1 s (112 + n) x) (120 + n) y) 33 (s 33 + 1)) (120 + k) = s (120 + k) := fun k hk => ⟨by rw [upd1_ne (by omega), upd1_ne (by omega), upd1_ne (by omega)], by rw [upd1_ne (by omega), upd1_ne (by omega), upd1_ne (by omega)]⟩
  have v2 : (upd1 (upd1 (upd1 s (112 + n) x) (120 + n) y) 33 (s 33 + 1)) (112 + n) = x ∧ (upd1 (upd1 (upd1 s (112 + n) x) (120 + n) y) 33 (s 33 + 1)) (120 + n) = y := ⟨by rw [upd1_ne (by omega), upd1_ne (by omega), upd1_same], by rw [upd1_ne (by omega), upd1_same]⟩
  show Inv (upd1 (upd1 (upd1 s (112 + n) x) (120 + n) y) 33 (s 33 + 1))
  generalize upd1 (upd1 (upd1 s (112 + n) x) (120 + n) y) 33 (s 33 + 1) = t at *
  have e0 := e 0 (by omega) (by omega)
  have e29 := e 29 (by omega) (by omega)
  have e30 := e 30 (by omega) (by omega)
  have e31 := e 31 (by omega) (by omega)
  have e32 := e 32 (by omega) (by omega)
  have e34 := e 34 (by omega) (by omega)
  have e35 := e 35 (by omega) (by omega)
  have e36 := e 36 (by omega) (by omega)
  refine Inv.mk' (hI.tr fun k hk => e k (by omega) (by omega)) (hH.tr e35 fun k hk => e k (by omega) (by omega)) ⟨by omega, fun k hk => by rw [e _ (by omega) (by omega)]; exact nM k hk⟩ (by omega) (by omega) (XTa.tr xT fun k a b => e k (by omega) (by omega)) (XSe.tr xS (by omega) e31 (by omega) fun k a b => e k (by omega) (by omega)) (XEv.tr xE (by omega) e32 (by omega) (by omega) fun k a b => e k (by omega) (by omega)) (fun k hk => ?_)
  by_cases hkn : k = n
  · subst hkn
    rw [v2.1, v2.2, e29]
    exact ⟨h1, h4⟩
  · obtain ⟨g1, g2⟩ := v1 k (by omega)
    rw [g1, g2, e29]
    exact xB k (by omega)
theorem I_evening {s : Nat → Int} (hA : Inv s) {w x g : Int} (hx : inR x) : Inv (f_evening s w x g).2 := by
  unfold f_evening
  by_cases h0 : w = -1
  · rw [if_pos h0]; exact hA.cnt (Or.inr (Or.inl rfl))
  rw [if_neg h0]
  by_cases h1 : ¬ btw 0 w 3 ∨ (0 < w ∧ ¬ isB s x) ∨ (w = 1 ∧ ¬ isG s g)
  · rw [if_pos h1]; exact hA
  rw [if_neg h1]
  by_cases h3 : s 32 = 8
  · rw [if_pos h3]; exact hA
  rw [if_neg h3]
  have h4 : btw 0 w 3 := Classical.byContradiction fun q => h1 (Or.inl q)
  have h5 : 0 < w → isB s x := fun q => Classical.byContradiction fun q2 => h1 (Or.inr (Or.inl ⟨q, q2⟩))
  have h6 : w = 1 → isG s g := fun q => Classical.byContradiction fun q2 => h1 (Or.inr (Or.inr ⟨q, q2⟩))
  clear h1
  obtain ⟨hI, hH, ⟨⟨n29, n30, n31, n32, n33, n34, n36⟩, nM⟩, x0, x35, xT, xS, xE, xB⟩ := hA
  obtain ⟨n, hn⟩ := Int.eq_ofNat_of_zero_le n32.1
  rw [show (s 32).toNat = n by omega]
  have e : ∀ k, k ≠ 32 → ¬ (88 ≤ k ∧ k < 112) → (upd1 (upd1 (upd1 (upd1 s (88 + n) w) (96 + n) x) (104 + n) g) 32 (s 32 + 1)) k = s k := fun k a b => by rw [upd1_ne a, upd1_ne (by omega), upd1_ne (by omega), upd1_ne (by omega)]
  have e32 : (upd1 (upd1 (upd1 (upd1 s (88 + n) w) (96 + n) x) (104 + n) g) 32 (s 32 + 1)) 32 = s 32 + 1 := upd1_same
  have v1 : ∀ k : Nat, (k : Int) < s 32 → (upd1 (upd1 (upd1 (upd1 s (88 + n) w) (96 + n) x) (104 + n) g) 32 (s 32 + 1)) (88 + k) = s (88 + k) ∧ (upd1 (upd1 (upd1 (upd1 s (88 + n) w) (96 + n) x) (104 + n) g) 32 (s 32 + 1)) (96 + k) = s (96 + k) ∧ (upd1 (upd1 (upd1 (upd1 s (88 + n) w) (96 + n) x) (104 + n) g) 32 (s 32 + 1)) (104 + k) = s (104 + k) := fun k hk => ⟨by rw [upd1_ne (by omega), upd1_ne (by omega), upd1_ne (by omega), upd1_ne (by omega)], by rw [upd1_ne (by omega), upd1_ne (by omega), upd1_ne (by omega), upd1_ne (by omega)], by rw [upd1_ne (by omega), upd1_ne (by omega), upd1_ne (by omega), upd1_ne (by omega)]⟩
  have v2 : (upd1 (upd1 (upd1 (upd1 s (88 + n) w) (96 + n) x) (104 + n) g) 32 (s 32 + 1)) (88 + n) = w ∧ (upd1 (upd1 (upd1 (upd1 s (88 + n) w) (96 + n) x) (104 + n) g) 32 (s 32 + 1)) (96 + n) = x ∧ (upd1 (upd1 (upd1 (upd1 s (88 + n) w) (96 + n) x) (104 + n) g) 32 (s 32 + 1)) (104 + n) = g := ⟨by rw [upd1_ne (by omega), upd1_ne (by omega), upd1_ne (by omega), upd1_same], by rw [upd1_ne (by omega), upd1_ne (by omega), upd1_same], by rw [upd1_ne (by omega), upd1_same]⟩
  show Inv (upd1 (upd1 (upd1 (upd1 s (88 + n) w) (96 + n) x) (104 + n) g) 32 (s 32 + 1))
  generalize upd1 (upd1 (upd1 (upd1 s (88 + n) w) (96 + n) x) (104 + n) g) 32 (s 32 + 1) = t at *
  have e0 := e 0 (by omega) (by omega)
  have e29 := e 29 (by omega) (by omega)
  have e30 := e 30 (by omega) (by omega)
  have e31 := e 31 (by omega) (by omega)
  have e33 := e 33 (by omega) (by omega)
  have e34 := e 34 (by omega) (by omega)
  have e35 := e 35 (by omega) (by omega)
  have e36 := e 36 (by omega) (by omega)
  refine Inv.mk' (hI.tr fun k hk => e k (by omega) (by omega)) (hH.tr e35 fun k hk => e k (by omega) (by omega)) ⟨by omega, fun k hk => by rw [e _ (by omega) (by omega)]; exact nM k hk⟩ (by omega) (by omega) (XTa.tr xT fun k a b => e k (by omega) (by omega)) (XSe.tr xS (by omega) e31 (by omega) fun k a b => e k (by omega) (by omega)) (fun k hk => ?_) (XBo.tr xB (by omega) e33 (by omega) fun k a b => e k (by omega) (by omega))
  by_cases hkn : k = n
  · subst hkn
    rw [v2.1, v2.2.1, v2.2.2, e29, e36]
    exact ⟨h4, fun q => h5 (by omega), h6, hx⟩
  · obtain ⟨g1, g2, g3⟩ := v1 k (by omega)
    rw [g1, g2, g3, e29, e36]
    exact xE k (by omega)
