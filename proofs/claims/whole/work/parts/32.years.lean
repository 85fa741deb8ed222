/-! YEARS GO: what stays so -/
theorem goS_hi {s : Nat → Int} (h29 : s 29 ≤ 6) (h36 : s 36 ≤ 4) {k : Nat} (hk : 29 ≤ k) : goS s k = s k := by
  unfold goS
  rw [if_neg (by omega), if_neg (by omega), if_neg (by omega)]
theorem InvH.ofE {s t : Nat → Int} (e : ∀ k, 29 ≤ k → t k = s k) (hH : InvH s) : InvH t := by
  have e35 := e 35 (by omega)
  have eS : -1 ≤ s 35 → stL t = stL s := by
    intro h35
    unfold stL
    rw [e35]
    by_cases hc : s 35 = -1
    · rw [if_pos hc, if_pos hc]
    · rw [if_neg hc, if_neg hc, e (238 + s 35).toNat (by omega)]
      congr 1
      funext i
      exact e _ (by omega)
  rcases hH with h | ⟨h1, h2, h3, h4, h5⟩
  · exact Or.inl (by omega)
  · refine Or.inr ⟨by omega, ?_, ?_, ?_, ?_⟩
    · rw [e35, e _ (by omega)]; exact h2
    · rw [e35, e _ (by omega)]; exact h3
    · rw [e35, e _ (by omega)]; exact h4
    · rw [eS (by omega)]; exact h5
theorem tlI_ofE {s t : Nat → Int} (e : ∀ k, 29 ≤ k → t k = s k) (hH : InvH s) {w no : Int} (hw : 228 ≤ w) : tlI t w no = tlI s w no := by
  have e35 := e 35 (by omega)
  have h35 := hH.h35
  unfold tlI
  rw [e35]
  by_cases hc : s 35 = -1
  · rw [if_pos hc, if_pos hc]
  · rw [if_neg hc, if_neg hc, e _ (by omega)]
theorem lk_ofE {s t : Nat → Int} (e : ∀ k, 29 ≤ k → t k = s k) (hH : InvH s) : stL t = stL s := by
  have e35 := e 35 (by omega)
  have h35 := hH.h35
  unfold stL
  rw [e35]
  by_cases hc : s 35 = -1
  · rw [if_pos hc, if_pos hc]
  · rw [if_neg hc, if_neg hc, e (238 + s 35).toNat (by omega)]
    congr 1
    funext i
    exact e _ (by omega)
def InvG (s : Nat → Int) : Prop := InvB s ∧ InvH s ∧ InvN s
theorem Inv.G {s : Nat → Int} (h : Inv s) : InvG s := ⟨h.1, h.2.1, h.2.2.1⟩
theorem tl_calm {s : Nat → Int} (hH : InvH s) : 0 ≤ tlI s 228 0 ∧ tlI s 228 0 ≤ 99 := by
  unfold tlI
  rcases hH with h | ⟨h1, h2, -⟩
  · rw [if_pos h]; omega
  · rw [if_neg (by omega)]; exact h2
theorem tl_peace {s : Nat → Int} (hH : InvH s) : 0 ≤ tlI s 233 5 ∧ tlI s 233 5 ≤ 99 := by
  unfold tlI
  rcases hH with h | ⟨h1, -, h2, -⟩
  · rw [if_pos h]; omega
  · rw [if_neg (by omega)]; exact h2
/-- the year alone and the places of bottles and guests change -/
theorem InvG.mk2 {s t : Nat → Int} (h : InvG s) (e : ∀ k, 29 ≤ k → t k = s k) (hw : ∀ b : Nat, b < 6 → (-99 ≤ t (1 + b) ∧ t (1 + b) ≤ 99) ∧ (0 ≤ t (7 + b) ∧ t (7 + b) ≤ 199) ∧ (0 ≤ t (13 + b) ∧ t (13 + b) ≤ 3) ∧ (t (19 + b) = 0 ∨ t (19 + b) = 1)) (hg : ∀ k : Nat, k < 4 → -99 ≤ t (25 + k) ∧ t (25 + k) ≤ 99) : InvG t := by
  obtain ⟨hI, hH, hN, hM⟩ := h
  refine ⟨fun b hb => ?_, hH.ofE e, ?_, hg⟩
  · obtain ⟨i1, i2, i3, i4, i5, i6, i7⟩ := hI b hb
    obtain ⟨w1, w2, w3, w4⟩ := hw b hb
    refine ⟨w1, w2, w3, w4, ?_, ?_, fun k hk => ?_⟩
    · rw [e _ (by omega)]; exact i5
    · rw [e _ (by omega)]; exact i6
    · rw [e _ (by omega)]; exact i7 k hk
  · rw [e 29 (by omega), e 30 (by omega), e 31 (by omega), e 32 (by omega), e 33 (by omega), e 34 (by omega), e 36 (by omega)]
    exact hN
theorem goS_lo {s : Nat → Int} (h29 : s 29 ≤ 6) {k : Nat} (h0 : k ≠ 0) (hk : k < 7 ∨ (13 ≤ k ∧ k < 25)) : goS s k = s k := by
  unfold goS
  rw [if_neg (by omega), if_neg (by omega), if_neg (by omega)]
theorem InvG.go {s : Nat → Int} (h : InvG s) : InvG (goS s) := by
  have hh := h
  obtain ⟨hI, hH, ⟨⟨n1, n2⟩, -, -, -, -, -, n5, n6⟩, hM⟩ := hh
  refine h.mk2 (fun k hk => goS_hi n2 n6 hk) (fun b hb => ?_) (fun k hk => ?_)
  · obtain ⟨i1, i2, i3, i4, i5, i6, i7⟩ := hI b hb
    rw [goS_lo (k := 1 + b) n2 (by omega) (by omega), goS_lo (k := 13 + b) n2 (by omega) (by omega), goS_lo (k := 19 + b) n2 (by omega) (by omega)]
    refine ⟨i1, ?_, i3, i4⟩
    unfold goS
    rw [if_neg (by omega)]
    split
    · split <;> omega
    · rw [if_neg (by omega)]; exact i2
  · have hm := hM k hk
    have hc := tl_calm hH
    have hn := nrI_in (v := s (25 + k)) (y := tlI s 228 0) (by omega) (by omega)
    unfold goS
    rw [if_neg (by omega), if_neg (by omega)]
    split
    · omega
    · exact hm
theorem InvG.goN {s : Nat → Int} (h : InvG s) : ∀ n, InvG (goN s n)
  | 0 => h
  | n + 1 => (InvG.goN h n).go
theorem goN_hi {s : Nat → Int} (h : InvG s) {k : Nat} (hk : 29 ≤ k) : ∀ n, goN s n k = s k
  | 0 => rfl
  | n + 1 => by
    have hN := (h.goN n).2.2.1
    exact (goS_hi (by omega) (by omega) hk).trans (goN_hi h hk n)
theorem InvG.bs {s : Nat → Int} (h : InvG s) {b : Nat} (hb : b < 6) : -108 ≤ syS s b ∧ syS s b ≤ 108 := syS_in hb h.1 h.2.1
/-- the years of the first i are gone on -/
def gB (s : Nat → Int) (i : Nat) : Nat → Int := fun k => if 7 ≤ k ∧ k < 7 + i then (if s (12 + k) = 0 ∧ s k < 199 then s k + 1 else s k) else s k
theorem gB_o {s : Nat → Int} {i k : Nat} (h : k < 7 ∨ 7 + i ≤ k) : gB s i k = s k := if_neg (by omega)
theorem gB_succ {s : Nat → Int} {i : Nat} {x : Int} (hx : x = if s (12 + (7 + i)) = 0 ∧ s (7 + i) < 199 then s (7 + i) + 1 else s (7 + i)) : upd1 (gB s i) (7 + i) x = gB s (i + 1) := by
  funext k
  unfold upd1 gB
  by_cases h : k = 7 + i
  · subst h
    rw [if_pos rfl, if_pos (by omega)]
    exact hx
  · rw [if_neg h]
    by_cases h2 : 7 ≤ k ∧ k < 7 + i
    · rw [if_pos h2, if_pos (show 7 ≤ k ∧ k < 7 + (i + 1) by omega)]
    · rw [if_neg h2, if_neg (by omega)]
/-- and the moods of the first i -/
def gG (s : Nat → Int) (i : Nat) : Nat → Int := fun k => if 25 ≤ k ∧ k < 25 + i then nrI (s k) (tlI s 228 0) else gB s (s 29).toNat k
theorem gG_o {s : Nat → Int} {i k : Nat} (h29 : s 29 ≤ 6) (h : k < 7 ∨ (13 ≤ k ∧ k < 25) ∨ 25 + i ≤ k) : gG s i k = s k := by
  unfold gG
  rw [if_neg (by omega), gB_o (by omega)]
theorem gG_zero {s : Nat → Int} : gG s 0 = gB s (s 29).toNat := by
  funext k
  unfold gG
  rw [if_neg (by omega)]
theorem gG_succ {s : Nat → Int} {i : Nat} {x : Int} (hx : x = nrI (s (25 + i)) (tlI s 228 0)) : upd1 (gG s i) (25 + i) x = gG s (i + 1) := by
  funext k
  unfold upd1 gG
  by_cases h : k = 25 + i
  · subst h
    rw [if_pos rfl, if_pos (by omega)]
    exact hx
  · rw [if_neg h]
    by_cases h2 : 25 ≤ k ∧ k < 25 + i
    · rw [if_pos h2, if_pos (by omega)]
    · rw [if_neg h2, if_neg (by omega)]
theorem gG_end {s : Nat → Int} (h29 : s 29 ≤ 6) : upd1 (gG s (s 36).toNat) 0 (s 0 + 1) = goS s := by
  funext k
  unfold upd1 gG gB goS
  by_cases h : k = 0
  · rw [if_pos h, if_pos h]
  · rw [if_neg h, if_neg h]
    by_cases h2 : 25 ≤ k ∧ k < 25 + (s 36).toNat
    · rw [if_pos h2, if_neg (by omega), if_pos h2]
    · rw [if_neg h2, if_neg h2]
def alB (p : Nat → Bool) : Nat → Bool
  | 0 => true
  | n + 1 => alB p n && p n
def isq (s : Nat → Int) (n : Int) (k : Nat) : Bool := decide (s (83 + k) ≠ n ∨ syS s (s (73 + k)).toNat = s (78 + k))
def isqA (s : Nat → Int) (n : Int) : Bool := alB (isq s n) (s 31).toNat
def arS (s : Nat → Int) : Bool := alB (fun n => isqA (goN s n) (n : Int)) 21
def bB (b : Bool) : Int := if b then 1 else 0
theorem bB_01 (b : Bool) : bB b = 0 ∨ bB b = 1 := by cases b <;> decide
theorem bB_R (b : Bool) : inR (bB b) := by cases b <;> decide
theorem bB_nz {b : Bool} (h : bB b ≠ 0) : b = true := by cases b <;> simp [bB] at h ⊢
theorem bB_z {b : Bool} (h : bB b = 0) : b = false := by cases b <;> simp [bB] at h ⊢
def odL (s : Nat → Int) (b : Nat) : Nat → Int × Int
  | 0 => (0, -5)
  | n + 1 => if arS (upd1 s (7 + b) (99 - (n : Int))) = true then ((odL s b n).1 + 1, 99 - (n : Int)) else odL s b n
def a_old (s : Nat → Int) (x w : Int) : Int := if ¬ isB s x ∨ ¬ btw 0 w 1 then -1 else if w = 0 then (odL s x.toNat 100).1 else (odL s x.toNat 100).2
def fiL (s : Nat → Int) (b : Nat) : Nat → Int × Int
  | 0 => (0, -5)
  | n + 1 => if arS (upd1 s (43 + b) (9 - (n : Int))) = true then ((fiL s b n).1 + 1, 9 - (n : Int)) else fiL s b n
def a_firm (s : Nat → Int) (x w : Int) : Int := if ¬ isB s x ∨ ¬ btw 0 w 1 then -1 else if w = 0 then (fiL s x.toNat 10).1 else (fiL s x.toNat 10).2
def a_whose (s : Nat → Int) (y n : Int) : Int := if ¬ btw (-999) y 999 ∨ ¬ btw 0 n 40 then -2 else orL (fun b => decide (syS (goN s n.toNat) b = y)) (s 29).toNat
def lkF (s : Nat → Int) (n : Nat) : Nat → Int
  | 0 => -5
  | k + 1 => if syS s (s (112 + n)).toNat ≠ s (120 + n) then (n : Int) else lkF s (n + 1) k
def a_looked (s : Nat → Int) : Int := lkF s 0 (s 33).toNat
def doS (s : Nat → Int) (w : Int) (b g : Nat) : Nat → Int := if w = 0 then goS s else if w = 1 then (if s (19 + b) = 0 then poS s b g else s) else if w = 2 then upd1 s (13 + b) ((s (13 + b) + 1).tmod 4) else upd1 s (1 + b) 0
def dnN (s : Nat → Int) : Nat → Nat → Int
  | 0 => s
  | n + 1 => doS (dnN s n) (s (88 + n)) (s (96 + n)).toNat (s (104 + n)).toNat
def a_done (s : Nat → Int) (w : Int) : Int := if ¬ btw 0 w 1 then -10001 else if w = 0 then amS (dnN s (s 32).toNat) else alS (dnN s (s 32).toNat)
theorem InvG.up {s : Nat → Int} (h : InvG s) {k : Nat} {x : Int} (hk : k < 29) (h0 : k = 0 ∨ (∃ b, b < 6 ∧ k = 1 + b ∧ -99 ≤ x ∧ x ≤ 99) ∨ (∃ b, b < 6 ∧ k = 7 + b ∧ 0 ≤ x ∧ x ≤ 199) ∨ (∃ b, b < 6 ∧ k = 13 + b ∧ 0 ≤ x ∧ x ≤ 3) ∨ (∃ b, b < 6 ∧ k = 19 + b ∧ (x = 0 ∨ x = 1)) ∨ (∃ b, b < 4 ∧ k = 25 + b ∧ -99 ≤ x ∧ x ≤ 99)) : InvG (upd1 s k x) := by
  have hh := h
  obtain ⟨hI, hH, hN, hM⟩ := hh
  refine h.mk2 (fun j hj => upd1_ne (by omega)) (fun b hb => ?_) (fun j hj => ?_)
  · obtain ⟨i1, i2, i3, i4, i5, i6, i7⟩ := hI b hb
    rcases h0 with h0 | ⟨b2, e1, e2, e3⟩ | ⟨b2, e1, e2, e3⟩ | ⟨b2, e1, e2, e3⟩ | ⟨b2, e1, e2, e3⟩ | ⟨b2, e1, e2, e3⟩ <;> (unfold upd1; refine ⟨?_, ?_, ?_, ?_⟩ <;> split <;> omega)
  · have := hM j hj
    rcases h0 with h0 | ⟨b2, e1, e2, e3⟩ | ⟨b2, e1, e2, e3⟩ | ⟨b2, e1, e2, e3⟩ | ⟨b2, e1, e2, e3⟩ | ⟨b2, e1, e2, e3⟩ <;> (unfold upd1; split <;> omega)
theorem clI_in {x : Int} : -99 ≤ clI x (-99) 99 ∧ clI x (-99) 99 ≤ 99 := by unfold clI; split <;> (try split) <;> omega
theorem InvG.br {s : Nat → Int} (h : InvG s) {g : Nat} (hg : g < 4) {x : Int} : InvG (brS s g x) := h.up (by omega) (Or.inr (Or.inr (Or.inr (Or.inr (Or.inr ⟨g, hg, rfl, clI_in⟩)))))
theorem InvG.po {s : Nat → Int} (h : InvG s) {b g : Nat} (hb : b < 6) (hg : g < 4) : InvG (poS s b g) := (h.br hg).up (by omega) (Or.inr (Or.inr (Or.inr (Or.inr (Or.inl ⟨b, hb, rfl, Or.inr rfl⟩)))))
theorem InvG.word {s : Nat → Int} (h : InvG s) {b : Nat} (hb : b < 6) {x : Int} (hx : -99 ≤ x ∧ x ≤ 99) : InvG (upd1 s (1 + b) x) := h.up (by omega) (Or.inr (Or.inl ⟨b, hb, rfl, hx⟩))
theorem InvG.years {s : Nat → Int} (h : InvG s) {b : Nat} (hb : b < 6) {x : Int} (hx : 0 ≤ x ∧ x ≤ 199) : InvG (upd1 s (7 + b) x) := h.up (by omega) (Or.inr (Or.inr (Or.inl ⟨b, hb, rfl, hx⟩)))
theorem InvG.quarter {s : Nat → Int} (h : InvG s) {b : Nat} (hb : b < 6) {x : Int} (hx : 0 ≤ x ∧ x ≤ 3) : InvG (upd1 s (13 + b) x) := h.up (by omega) (Or.inr (Or.inr (Or.inr (Or.inl ⟨b, hb, rfl, hx⟩))))
theorem InvG.do {s : Nat → Int} (h : InvG s) {w : Int} {b g : Nat} (h1 : w ≠ 0 → b < 6) (h2 : w = 1 → g < 4) : InvG (doS s w b g) := by
  unfold doS
  by_cases e0 : w = 0
  · rw [if_pos e0]; exact h.go
  · have hb := h1 e0
    rw [if_neg e0]
    by_cases e1 : w = 1
    · rw [if_pos e1]
      split
      · exact h.po hb (h2 e1)
      · exact h
    · rw [if_neg e1]
      split
      · have i3 := (h.1 b hb).2.2.1
        have : (s (13 + b) + 1).tmod 4 = (s (13 + b) + 1) % 4 := Int.tmod_eq_emod_of_nonneg (by omega)
        exact h.quarter hb (by omega)
      · exact h.word hb (by omega)
theorem up_hi {s : Nat → Int} {k j : Nat} {x : Int} (hj : j < 29) (hk : 29 ≤ k) : upd1 s j x k = s k := upd1_ne (by omega)
theorem do_hi {s : Nat → Int} (h : InvG s) {w : Int} {b g k : Nat} (h1 : w ≠ 0 → b < 6) (h2 : w = 1 → g < 4) (hk : 29 ≤ k) : doS s w b g k = s k := by
  have hN := h.2.2.1
  unfold doS
  by_cases e0 : w = 0
  · rw [if_pos e0]; exact goS_hi (by omega) (by omega) hk
  · have hb := h1 e0
    rw [if_neg e0]
    by_cases e1 : w = 1
    · have hg := h2 e1
      rw [if_pos e1]
      split
      · unfold poS brS
        rw [up_hi (by omega) hk, up_hi (by omega) hk]
      · rfl
    · rw [if_neg e1]
      split <;> exact up_hi (by omega) hk
theorem dn_inv {s : Nat → Int} (hA : Inv s) : ∀ n : Nat, (n : Int) ≤ s 32 → InvG (dnN s n) ∧ ∀ k, 29 ≤ k → dnN s n k = s k := by
  intro n
  induction n with
  | zero => intro _; exact ⟨hA.G, fun _ _ => rfl⟩
  | succ n ih =>
    intro hn
    obtain ⟨h1, h2⟩ := ih (by omega)
    obtain ⟨e1, e2, e3, -⟩ := hA.2.2.2.2.2.2.2.1 n (by omega)
    have n29 := hA.2.2.1.1.1
    have n36 := hA.2.2.1.1.2.2.2.2.2.2
    have g1 : s (88 + n) ≠ 0 → (s (96 + n)).toNat < 6 := fun q => by have := e2 q; omega
    have g2 : s (88 + n) = 1 → (s (104 + n)).toNat < 4 := fun q => by have := e3 q; omega
    exact ⟨h1.do g1 g2, fun k hk => (do_hi h1 g1 g2 hk).trans (h2 k hk)⟩
