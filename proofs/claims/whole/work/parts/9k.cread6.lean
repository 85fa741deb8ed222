/-! CLAUSES, read by the class -/
def FrD (a k : Nat) : Prop := FrQ a k ∨ (a = 36 ∧ k = 3) ∨ a = 37
def ClF (c : Nat → Nat → Int) (l : List CLA) : Prop := c 36 3 = (l.length : Int) ∧ SerC (c 37) 0 0 l
theorem ClF.fq {c c2 : Nat → Nat → Int} {l : List CLA} (h : ClF c l) (hE : EqP FrQ c c2) : ClF c2 l := ⟨(hE 36 3 (by unfold FrQ; omega)).trans h.1, by rw [show c2 37 = c 37 from funext fun j => hE 37 j (by unfold FrQ; omega)]; exact h.2⟩
theorem partsC_app {l : List CLA} {x : CLA} : partsC (l ++ [x]) = partsC l ++ x.2.2 := by
  unfold partsC
  rw [List.flatMap_append]
  simp
theorem SerC_app {f : Nat → Int} {x : CLA} : ∀ (l : List CLA) (i n : Nat), SerC f i n (l ++ [x]) ↔ SerC f i n l ∧ (f (3 * (i + l.length)) = x.1 ∧ f (3 * (i + l.length) + 1) = x.2.1 ∧ f (3 * (i + l.length) + 2) = ((n + (partsC l).length + x.2.2.length : Nat) : Int))
  | [], i, n => by
    show (_ ∧ True) ↔ (True ∧ _)
    simp [partsC]
  | y :: l, i, n => by
    rw [List.cons_append, SerC, SerC, SerC_app l (i + 1), List.length_cons, show i + 1 + l.length = i + (l.length + 1) by omega, show (partsC (y :: l)).length = y.2.2.length + (partsC l).length by unfold partsC; rw [List.flatMap_cons, List.length_append], show n + y.2.2.length + (partsC l).length = n + (y.2.2.length + (partsC l).length) by omega]
    simp only [and_assoc]
theorem SerC_fr {f g : Nat → Int} : ∀ (l : List CLA) (i n : Nat), (∀ k, 3 * i ≤ k → k < 3 * (i + l.length) → g k = f k) → SerC f i n l → SerC g i n l
  | [], _, _, _, _ => True.intro
  | p :: r, j, n, e, hs => by
    have e2 : ∀ k, 3 * j ≤ k → k < 3 * (j + (r.length + 1)) → g k = f k := e
    exact ⟨⟨(e2 _ (by omega) (by omega)).trans hs.1.1, (e2 _ (by omega) (by omega)).trans hs.1.2.1, (e2 _ (by omega) (by omega)).trans hs.1.2.2⟩, SerC_fr r (j + 1) _ (fun k hk hk2 => e2 k (by omega) (by omega)) hs.2⟩
theorem c_cadd {d : Nat} {h : Hp} {c : Nat → Nat → Int} (hL : Lay h) (hC : Cc c) {l : List CLA} (hF : ClF c l) (hl : l.length ≤ 9) {w v : Int} {p : List PRT} {z : Int} (hz : z = (((partsC l).length + p.length : Nat) : Int)) : Ok (d) 59 [(1, ((36 : Nat) : Int)), (0, w), (0, v), (0, z)] (wC h c) (fun r h2 => r = some (0, 1) ∧ ∃ c2, h2 = wC h c2 ∧ ClF c2 (l ++ [(w, v, p)]) ∧ EqP (fun a k => (a = 36 ∧ k = 3) ∨ a = 37) c c2) := by
  have h3 := hF.1
  refine (s_add3 (sh36 hL hC) (by decide) (by omega) (by omega)).mono ?_
  rintro r hE ⟨rfl, c2, rfl, e⟩
  rw [if_pos (by omega)] at e
  have hc : c2 = up2 (up2 (up2 (up2 c 37 (3 * l.length) w) 37 (3 * l.length + 1) v) 37 (3 * l.length + 2) z) 36 3 ((l.length : Int) + 1) := by
    rw [e]
    unfold adS
    rw [h3, show ((l.length : Int) * ((3 : Nat) : Int)).toNat = 3 * l.length by omega]
    rfl
  have hEq : EqP (fun a k => (a = 36 ∧ k = 3) ∨ a = 37) c c2 := by
    rw [hc]
    exact (EqP.up (by omega)).trans ((EqP.up (by omega)).trans ((EqP.up (by omega)).trans (EqP.up (by omega))))
  refine ⟨by rw [bI_t (by omega)], c2, rfl, ⟨?_, ?_⟩, hEq⟩
  · rw [hc, up2_same, List.length_append]; rfl
  · rw [SerC_app]
    refine ⟨SerC_fr l 0 0 (fun k _ hk => ?_) hF.2, ?_, ?_, ?_⟩
    · rw [hc, up2_othN (by decide)]
      exact (up2_fldN (by omega)).trans ((up2_fldN (by omega)).trans (up2_fldN (by omega)))
    · rw [hc, up2_othN (by decide), Nat.zero_add]
      exact (up2_fldN (by omega)).trans ((up2_fldN (by omega)).trans up2_same)
    · rw [hc, up2_othN (by decide), Nat.zero_add]
      exact (up2_fldN (by omega)).trans up2_same
    · rw [hc, up2_othN (by decide), Nat.zero_add, Nat.zero_add]
      exact up2_same.trans hz
set_option maxHeartbeats 4000000 in
set_option maxRecDepth 100000 in
theorem c_addCl {d : Nat} {h : Hp} {c : Nat → Nat → Int} (hL : Lay h) (hC : Cc c) {l : List CLA} (hF : ClF c l) (hl : l.length ≤ 9) {w v : Int} {p : List PRT} (hP : PaR c (partsC l ++ p)) : Ok (d + 1) 32 [(1, ((35 : Nat) : Int)), (0, w), (0, v)] (wC h c) (fun r h2 => r = some (0, 1) ∧ ∃ c2, h2 = wC h c2 ∧ ClF c2 (l ++ [(w, v, p)]) ∧ EqP (fun a k => (a = 36 ∧ k = 3) ∨ a = 37) c c2) := by
  show Ex _ none t_X1_addClause 3 0 _ [] (wC h c) _
  refine E_load rfl rfl rfl ?_
  refine E_getr (c := 2) (r := 36) rfl (hL.lt 35 rfl) (hL.k 35 rfl) rfl (hC.g 35 1 36 (by decide)) ?_
  refine E_load rfl rfl rfl ?_
  refine E_load rfl rfl rfl ?_
  refine E_load rfl rfl rfl ?_
  refine E_getr (c := 2) (r := 39) rfl (hL.lt 35 rfl) (hL.k 35 rfl) rfl (hC.g 35 2 39 (by decide)) ?_
  refine E_getf (c := 8) (v := (0, (((partsC l ++ p).length : Nat) : Int))) rfl (hL.lt 39 rfl) (hL.k 39 rfl) rfl (fv hP.1) ?_
  refine E_V3 (q := 36) (c := 8) (y := 59) rfl rfl (hL.lt 36 rfl) (hL.k 36 rfl) rfl rfl rfl rfl (c_cadd (p := p) hL hC hF hl (by rw [List.length_append])) (fun r h2 hq => ?_)
  obtain ⟨rfl, c2, hh, h1, h2⟩ := hq
  subst hh
  refine E_iret rfl (fun _ => by decide) ?_
  exact ⟨rfl, c2, rfl, h1, h2⟩
def KcQ (h : Hp) (c : Nat → Nat → Int) (g : Nat → Int) (n : Nat) (l : List CLA) (q : CR) : Option AV → Hp → Prop := fun r h2 => r = some (0, bI (q.1 = true)) ∧ ∃ c2, h2 = wC h c2 ∧ KS c2 g n q.2.1 ∧ (q.1 = true → ClF c2 (l ++ [q.2.2]) ∧ PaR c2 (partsC (l ++ [q.2.2]))) ∧ EqP FrD c c2
theorem KcQ.no {h : Hp} {c c2 : Nat → Nat → Int} {g : Nat → Int} {n p : Nat} {l : List CLA} {x : CLA} (hK : KS c2 g n p) (hE : EqP FrQ c c2) : KcQ h c g n l (false, p, x) (some (0, 0)) (wC h c2) := ⟨rfl, c2, rfl, hK, fun z => absurd (show false = true from z) (by decide), hE.mono fun a k e => Or.inl e⟩
theorem KcQ.yes {h : Hp} {c c1 c2 : Nat → Nat → Int} {g : Nat → Int} {n p : Nat} {l : List CLA} {w v : Int} {q : List PRT} (hK : KS c1 g n p) (hP : PaR c1 (partsC l ++ q)) (hE : EqP FrQ c c1) (hF : ClF c2 (l ++ [(w, v, q)])) (h2 : EqP (fun a k => (a = 36 ∧ k = 3) ∨ a = 37) c1 c2) : KcQ h c g n l (true, p, (w, v, q)) (some (0, 1)) (wC h c2) := by
  refine ⟨rfl, c2, rfl, ⟨hK.1.of fun e he => h2 _ _ ?_, ⟨(h2 1 3 (by omega)).trans hK.2.1.1, fun j hj => (h2 2 j (by omega)).trans (hK.2.1.2 j hj)⟩, (h2 35 3 (by omega)).trans hK.2.2⟩, fun _ => ⟨hF, ?_⟩, (hE.mono fun a k e => Or.inl e).trans (h2.mono fun a k e => Or.inr e)⟩
  · have : ∀ e ∈ CT, (e.1 ≠ 36 ∨ e.2.1 < 3) ∧ e.1 ≠ 37 := by decide
    have := this e he
    omega
  · rw [partsC_app]
    exact hP.of (h2 39 3 (by omega)) (funext fun j => h2 40 j (by omega))
