theorem goN_0 {s : Nat → Int} : ∀ n : Nat, goN s n 0 = s 0 + (n : Int)
  | 0 => (Int.add_zero _).symm
  | n + 1 => by
    have ih := goN_0 (s := s) n
    show goN s n 0 + 1 = _
    omega
theorem I_pass {s : Nat → Int} (hA : Inv s) {n : Int} : Inv (f_pass s n).2 := by
  unfold f_pass
  by_cases h0 : ¬ btw 0 n 60
  · rw [if_pos h0]; exact hA
  rw [if_neg h0]
  by_cases h1 : 9999 < s 0 + n
  · rw [if_pos h1]; exact hA
  rw [if_neg h1]
  have h0 : btw 0 n 60 := Classical.byContradiction h0
  have hG := hA.G
  obtain ⟨hI, hH, ⟨⟨n29, n30, n31, n32, n33, n34, n36⟩, nM⟩, x0, x35, xT, xS, xE, xB⟩ := hA
  obtain ⟨m, rfl⟩ := Int.eq_ofNat_of_zero_le h0.1
  show Inv (goN s (m : Int).toNat)
  rw [Int.toNat_natCast]
  have hGm := hG.goN m
  have e : ∀ k, 29 ≤ k → goN s m k = s k := fun k hk => goN_hi hG hk m
  have e0 := goN_0 (s := s) m
  generalize goN s m = t at *
  have e29 := e 29 (by omega)
  have e30 := e 30 (by omega)
  have e31 := e 31 (by omega)
  have e32 := e 32 (by omega)
  have e33 := e 33 (by omega)
  have e34 := e 34 (by omega)
  have e35 := e 35 (by omega)
  have e36 := e 36 (by omega)
  exact Inv.mk' hGm.1 hGm.2.1 hGm.2.2 (by omega) (by omega) (XTa.tr xT fun k a b => e k (by omega)) (XSe.tr xS (by omega) e31 (by omega) fun k a b => e k (by omega)) (XEv.tr xE (by omega) e32 (by omega) (by omega) fun k a b => e k (by omega)) (XBo.tr xB (by omega) e33 (by omega) fun k a b => e k (by omega))
theorem I_bottle {s : Nat → Int} (hA : Inv s) {k v w : Int} : Inv (f_bottle s k v w).2 := by
  unfold f_bottle
  by_cases h0 : ¬ btw 0 k 6
  · rw [if_pos h0]; exact hA
  rw [if_neg h0]
  by_cases h1 : ¬ btw 0 v 9 ∨ ¬ btw (-99) w 99
  · rw [if_pos h1]; exact hA
  rw [if_neg h1]
  by_cases h2 : s 29 = 6
  · rw [if_pos h2]; exact hA
  rw [if_neg h2]
  have h0 : btw 0 k 6 := Classical.byContradiction h0
  have h3 : btw 0 v 9 := Classical.byContradiction fun q => h1 (Or.inl q)
  have h4 : btw (-99) w 99 := Classical.byContradiction fun q => h1 (Or.inr q)
  obtain ⟨hI, hH, ⟨⟨n29, n30, n31, n32, n33, n34, n36⟩, nM⟩, x0, x35, xT, xS, xE, xB⟩ := hA
  obtain ⟨n, hn⟩ := Int.eq_ofNat_of_zero_le n29.1
  rw [show (s 29).toNat = n by omega]
  have hn5 : n ≤ 5 := by omega
  have hB : InvB (nbS s n k v w) := by
    have b1 := hI.up (k := 37 + n) (x := k) (fun b hb => by omega)
    have b2 := b1.up (k := 43 + n) (x := v) (fun b hb => by omega)
    have b3 := b2.up (k := 1 + n) (x := w) (fun b hb => by omega)
    have b4 := b3.up (k := 7 + n) (x := 0) (fun b hb => by omega)
    have b5 := b4.up (k := 13 + n) (x := 0) (fun b hb => by omega)
    have b6 := b5.up (k := 19 + n) (x := 0) (fun b hb => by omega)
    have b7 := b6.up (k := 49 + 4 * n + 0) (x := 0) (fun b hb => by omega)
    have b8 := b7.up (k := 49 + 4 * n + 1) (x := 0) (fun b hb => by omega)
    have b9 := b8.up (k := 49 + 4 * n + 2) (x := 0) (fun b hb => by omega)
    have b10 := b9.up (k := 49 + 4 * n + 3) (x := 0) (fun b hb => by omega)
    exact b10.tr fun k hk => upd1_ne (by omega)
  have e : ∀ j, (j = 0 ∨ (25 ≤ j ∧ j < 37 ∧ j ≠ 29) ∨ 73 ≤ j) → nbS s n k v w j = s j := fun j hj => nbS_o (by omega)
  have e29 : nbS s n k v w 29 = (n : Int) + 1 := nbS_29
  show Inv (nbS s n k v w)
  generalize nbS s n k v w = t at *
  have e0 := e 0 (by omega)
  have e30 := e 30 (by omega)
  have e31 := e 31 (by omega)
  have e32 := e 32 (by omega)
  have e33 := e 33 (by omega)
  have e34 := e 34 (by omega)
  have e35 := e 35 (by omega)
  have e36 := e 36 (by omega)
  exact Inv.mk' hB (hH.tr e35 fun k hk => e k (by omega)) ⟨by omega, fun k hk => by rw [e _ (by omega)]; exact nM k hk⟩ (by omega) (by omega) (XTa.tr xT fun k a b => e k (by omega)) (XSe.tr xS (by omega) e31 (by omega) fun k a b => e k (by omega)) (XEv.tr xE (by omega) e32 (by omega) (by omega) fun k a b => e k (by omega)) (XBo.tr xB (by omega) e33 (by omega) fun k a b => e k (by omega))
theorem dp_parts : ∀ (l : List PRT) (n m : Nat), (∀ p ∈ l, vP p) → dqL n l = some m → (l.map encP).foldl dpS (some n) = some m
  | [], n, m, _, h => h
  | p :: l, n, m, hv, h => by
    have hvl : ∀ p ∈ l, vP p := fun q hq => hv q (List.mem_cons_of_mem _ hq)
    rw [List.map_cons, List.foldl_cons]
    rcases dq_cons (hv p List.mem_cons_self) h with ⟨h1, h2, h3⟩ | ⟨h1, h2, h3⟩ | ⟨h1, h2, h3⟩
    · rw [show encP p = -1 from if_pos h1, show dpS (some n) (-1) = some n from by
      unfold dpS
      dsimp only
      rw [if_neg (by omega), if_pos rfl, if_pos h2]]
      exact dp_parts l n m hvl h3
    · have he : encP p = -2 ∨ encP p = -3 := by
        unfold encP
        rcases h1 with h1 | h1
        · rw [if_neg (by omega), if_pos h1]; exact Or.inl rfl
        · rw [if_neg (by omega), if_neg (by omega), if_pos h1]; exact Or.inr rfl
      rw [show dpS (some n) (encP p) = some (n - 1) from by
        unfold dpS
        dsimp only
        rw [if_neg (by omega), if_neg (by omega), if_pos (by omega), if_pos ⟨h2, he⟩]]
      exact dp_parts l (n - 1) m hvl h3
    · have q1 := ltP_lt p.1
      have q2 := hwP_in p.2.1
      have q3 := h1.2.2
      have q4 := encT h1
      have q5 : (encP p).tmod 8 = encP p % 8 := Int.tmod_eq_emod_of_nonneg (by omega)
      rw [show dpS (some n) (encP p) = some (n + 1) from by
        unfold dpS
        dsimp only
        rw [if_pos (by omega), if_pos ⟨by omega, by rw [q5]; omega, by omega⟩]]
      exact dp_parts l (n + 1) m hvl h3
theorem dp_step {x : CLA} (h : okC x) : (stepC x).foldl dpS (some 0) = some 0 := by
  obtain ⟨h1, h2, h3, h4, h5⟩ := h
  unfold stepC
  by_cases hw : 2 ≤ x.1
  · rw [if_pos hw, List.foldl_append, dp_parts x.2.2 0 1 h3 (h4 hw), List.foldl_cons, List.foldl_nil]
    have hx : (-110 < (if x.1 = 2 then -10 - x.2.1 else -200 - x.2.1) ∨ (if x.1 = 2 then -10 - x.2.1 else -200 - x.2.1) ≤ -200) ∧ (if x.1 = 2 then -10 - x.2.1 else -200 - x.2.1) ≤ -10 ∧ -300 < (if x.1 = 2 then -10 - x.2.1 else -200 - x.2.1) := by split <;> omega
    generalize (if x.1 = 2 then -10 - x.2.1 else -200 - x.2.1) = y at *
    unfold dpS
    dsimp only
    rw [if_neg (by omega), if_neg (by omega), if_neg (by omega), if_pos ⟨rfl, by omega, by omega⟩]
  · rw [if_neg hw]; rfl
theorem dp_steps : ∀ l : List CLA, (∀ x ∈ l, okC x) → (stepsC l).foldl dpS (some 0) = some 0
  | [], _ => rfl
  | x :: l, h => by
    show (stepC x ++ stepsC l).foldl dpS (some 0) = some 0
    rw [List.foldl_append, dp_step (h x List.mem_cons_self)]
    exact dp_steps l fun y hy => h y (List.mem_cons_of_mem _ hy)
theorem InvH.cel {s s' : Nat → Int} (hH : InvH s) (x35 : s 35 = s 30 - 1) (n30 : 0 ≤ s 30) (e : Rh (s 30).toNat (upd1 s 34 0) s') : InvH s' := by
  have e1 : ∀ k, k ≠ 34 → k ≠ 228 + (s 30).toNat → k ≠ 233 + (s 30).toNat → k ≠ 238 + (s 30).toNat → ¬ (243 + 140 * (s 30).toNat ≤ k ∧ k < 383 + 140 * (s 30).toNat) → s' k = s k := fun k a b c d f => (e k b c d f).trans (upd1_ne a)
  have e35 : s' 35 = s 35 := e1 35 (by omega) (by omega) (by omega) (by omega) (by omega)
  rcases hH with h | ⟨h1, h2, h3, h4, h5⟩
  · exact Or.inl (e35.trans h)
  · refine Or.inr ?_
    have es : stL s' = stL s := by
      unfold stL
      rw [e35, if_neg (by omega), if_neg (by omega), e1 (238 + s 35).toNat (by omega) (by omega) (by omega) (by omega) (by omega)]
      refine List.map_congr_left fun i hi => ?_
      have := List.mem_range.mp hi
      exact e1 _ (by omega) (by omega) (by omega) (by omega) (by omega)
    rw [es, e35, e1 (228 + s 35).toNat (by omega) (by omega) (by omega) (by omega) (by omega), e1 (233 + s 35).toNat (by omega) (by omega) (by omega) (by omega) (by omega), e1 (238 + s 35).toNat (by omega) (by omega) (by omega) (by omega) (by omega)]
    exact ⟨h1, h2, h3, h4, h5⟩
theorem InvH.new {t s' : Nat → Int} {act : Nat} {l : List CLA} (h : CuR s' act l) (ha : act ≤ 4) (ho : ∀ x ∈ l, okC x) (hl : (stepsC l).length ≤ 140) (e35 : t 35 = (act : Int)) (e : ∀ k, 36 ≤ k → t k = s' k) : InvH t := by
  have hS := h.hold ha hl e35 e
  obtain ⟨h1, h2, h3⟩ := h
  refine Or.inr ?_
  rw [hS.1, e35, show (228 + (act : Int)).toNat = 228 + act by omega, show (233 + (act : Int)).toNat = 233 + act by omega, show (238 + (act : Int)).toNat = 238 + act by omega, e _ (by omega), e _ (by omega), e _ (by omega), h1.1, h2, h3]
  refine ⟨by omega, laC_in l 0 (by omega) ho, laC_in l 5 (by omega) ho, by omega, ?_⟩
  unfold dpL
  rw [dp_steps l ho]
  rfl
theorem I_cellar {s s2 : Nat → Int} (hA : Inv s) {v : Int} (h : CelR s v s2) : Inv s2 := by
  have hEn := gS_ends hA
  obtain ⟨hI, hH, ⟨⟨n29, n30, n31, n32, n33, n34, n36⟩, nM⟩, x0, x35, xT, xS, xE, xB⟩ := hA
  rcases h with ⟨-, -, rfl⟩ | ⟨h5, s', hR, h⟩
  · exact Inv.mk' hI hH ⟨⟨n29, n30, n31, n32, n33, n34, n36⟩, nM⟩ x0 x35 xT xS xE xB
  obtain ⟨p1, p2⟩ := pTxt_ok hEn 10 0 [] (Nat.zero_le _) (fun x hx => absurd hx List.not_mem_nil) (Nat.le_refl _) (Nat.zero_le _)
  have hHc := hH.cel x35 n30.1 hR
  have e : ∀ k, k ≠ 34 → k < 228 → s' k = s k := fun k a b => (hR k (by omega) (by omega) (by omega) (by omega)).trans (upd1_ne a)
  have e34 : s' 34 = 0 := (hR 34 (by omega) (by omega) (by omega) (by omega)).trans upd1_same
  have e0 := e 0 (by omega) (by omega)
  have e29 := e 29 (by omega) (by omega)
  have e30 := e 30 (by omega) (by omega)
  have e31 := e 31 (by omega) (by omega)
  have e32 := e 32 (by omega) (by omega)
  have e33 := e 33 (by omega) (by omega)
  have e35 := e 35 (by omega) (by omega)
  have e36 := e 36 (by omega) (by omega)
  rcases h with ⟨-, -, rfl⟩ | ⟨hb, -, hC, hs2⟩
  · exact Inv.mk' (hI.tr fun k hk => e k (by omega) (by omega)) hHc ⟨by omega, fun k hk => by rw [e _ (by omega) (by omega)]; exact nM k hk⟩ (by omega) (by omega) (XTa.tr xT fun k a b => e k (by omega) (by omega)) (XSe.tr xS (by omega) e31 (by omega) fun k a b => e k (by omega) (by omega)) (XEv.tr xE (by omega) e32 (by omega) (by omega) fun k a b => e k (by omega) (by omega)) (XBo.tr xB (by omega) e33 (by omega) fun k a b => e k (by omega) (by omega))
  · obtain ⟨o1, o2, o3⟩ := p2 hb
    have g : ∀ k, k ≠ 30 → k ≠ 35 → s2 k = s' k := fun k a b => by rw [hs2, upd1_ne b, upd1_ne a]
    have g30 : s2 30 = s 30 + 1 := by rw [hs2, upd1_ne (by decide), upd1_same]
    have g35 : s2 35 = s 30 := by rw [hs2, upd1_same]
    have hHn : InvH s2 := InvH.new hC (by omega) o1 (by have := stepsC_len (pTxt (gS s) (s 34).toNat 10 0 []).2.2; omega) (by omega) (fun k hk => g k (by omega) (by omega))
    clear hs2
    have g0 := g 0 (by omega) (by omega)
    have g29 := g 29 (by omega) (by omega)
    have g31 := g 31 (by omega) (by omega)
    have g32 := g 32 (by omega) (by omega)
    have g33 := g 33 (by omega) (by omega)
    have g34 := g 34 (by omega) (by omega)
    have g36 := g 36 (by omega) (by omega)
    have ee : ∀ k, k ≠ 34 → k ≠ 30 → k ≠ 35 → k < 228 → s2 k = s k := fun k a b c d => (g k b c).trans (e k a d)
    exact Inv.mk' (hI.tr fun k hk => ee k (by omega) (by omega) (by omega) (by omega)) hHn ⟨by omega, fun k hk => by rw [ee _ (by omega) (by omega) (by omega) (by omega)]; exact nM k hk⟩ (by omega) (by omega) (XTa.tr xT fun k a b => ee k (by omega) (by omega) (by omega) (by omega)) (XSe.tr xS (by omega) (by omega) (by omega) fun k a b => ee k (by omega) (by omega) (by omega) (by omega)) (XEv.tr xE (by omega) (by omega) (by omega) (by omega) fun k a b => ee k (by omega) (by omega) (by omega) (by omega)) (XBo.tr xB (by omega) (by omega) (by omega) fun k a b => ee k (by omega) (by omega) (by omega) (by omega))
theorem Inv.lk {s t : Nat → Int} (hA : Inv s) (e : Lk t s) : Inv t := by
  obtain ⟨hI, hH, ⟨⟨n29, n30, n31, n32, n33, n34, n36⟩, nM⟩, x0, x35, xT, xS, xE, xB⟩ := hA
  have e0 := e 0 (by omega)
  have e29 := e 29 (by omega)
  have e30 := e 30 (by omega)
  have e31 := e 31 (by omega)
  have e32 := e 32 (by omega)
  have e33 := e 33 (by omega)
  have e34 := e 34 (by omega)
  have e35 := e 35 (by omega)
  have e36 := e 36 (by omega)
  have hHt : InvH t := by
    rcases hH with h | ⟨h1, h2, h3, h4, h5⟩
    · exact Or.inl (e35.trans h)
    · refine Or.inr ?_
      have es : stL t = stL s := by
        unfold stL
        rw [e35, if_neg (by omega), if_neg (by omega), e (238 + s 35).toNat (by omega)]
        refine List.map_congr_left fun i hi => ?_
        have := List.mem_range.mp hi
        exact e _ (by omega)
      rw [es, e35, e (228 + s 35).toNat (by omega), e (233 + s 35).toNat (by omega), e (238 + s 35).toNat (by omega)]
      exact ⟨h1, h2, h3, h4, h5⟩
  exact Inv.mk' (hI.tr fun k hk => e k (by omega)) hHt ⟨by omega, fun k hk => by rw [e _ (by omega)]; exact nM k hk⟩ (by omega) (by omega) (XTa.tr xT fun k a b => e k (by omega)) (XSe.tr xS (by omega) e31 (by omega) fun k a b => e k (by omega)) (XEv.tr xE (by omega) e32 (by omega) (by omega) fun k a b => e k (by omega)) (XBo.tr xB (by omega) e33 (by omega) fun k a b => e k (by omega))
theorem I_undo {s im : Nat → Int} (hA : Inv im) : Inv (unS s im) := hA.lk unS_lk
