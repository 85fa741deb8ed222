/-! CELLARS, as lists of clauses: word, n, parts -/
abbrev PRT : Type := Int × Int × Int
abbrev CLA : Type := Int × Int × List PRT
def ltP (x : Int) : Nat := if x = 98 then 0 else if x = 107 then 1 else if x = 118 then 2 else if x = 121 then 3 else if x = 113 then 4 else 5
def hwP (x : Int) : Int := if x = 60 then 0 else if x = 61 then 1 else 2
def encP (p : PRT) : Int := if p.1 = 33 then -1 else if p.1 = 38 then -2 else if p.1 = 124 then -3 else (ltP p.1 : Int) + 8 * hwP p.2.1 + 32 * p.2.2
def tstP (e : Nat → Int) (p : PRT) : Bool := if p.2.1 = 60 then decide (e (ltP p.1) < p.2.2) else if p.2.1 = 62 then decide (p.2.2 < e (ltP p.1)) else decide (e (ltP p.1) = p.2.2)
def isT (p : PRT) : Prop := (p.1 = 98 ∨ p.1 = 107 ∨ p.1 = 118 ∨ p.1 = 121 ∨ p.1 = 113 ∨ p.1 = 119) ∧ (p.2.1 = 60 ∨ p.2.1 = 61 ∨ p.2.1 = 62) ∧ (0 ≤ p.2.2 ∧ p.2.2 ≤ 99)
def vP (p : PRT) : Prop := p.1 = 33 ∨ p.1 = 38 ∨ p.1 = 124 ∨ isT p
theorem ltP_lt (x : Int) : ltP x < 6 := by unfold ltP; (repeat' split) <;> omega
theorem hwP_in (x : Int) : 0 ≤ hwP x ∧ hwP x ≤ 2 := by unfold hwP; (repeat' split) <;> omega
theorem encT {p : PRT} (h : isT p) : encP p = (ltP p.1 : Int) + 8 * hwP p.2.1 + 32 * p.2.2 := by
  unfold encP
  rw [if_neg (by have := h.1; omega), if_neg (by have := h.1; omega), if_neg (by have := h.1; omega)]
theorem tstK_enc {e : Nat → Int} {p : PRT} (h : isT p) : tstK e (encP p) = tstP e p := by
  have h1 := ltP_lt p.1
  have h2 := hwP_in p.2.1
  have h3 := h.2.2
  have h0 : 0 ≤ encP p := by rw [encT h]; omega
  have q1 : (encP p).tmod 8 = encP p % 8 := Int.tmod_eq_emod_of_nonneg h0
  have q2 : (encP p).tdiv 8 = encP p / 8 := Int.tdiv_eq_ediv_of_nonneg h0
  have q3 : (encP p / 8).tmod 4 = encP p / 8 % 4 := Int.tmod_eq_emod_of_nonneg (by omega)
  have q4 : (encP p).tdiv 32 = encP p / 32 := Int.tdiv_eq_ediv_of_nonneg h0
  have e1 : encP p % 8 = (ltP p.1 : Int) := by rw [encT h]; omega
  have e2 : encP p / 8 % 4 = hwP p.2.1 := by rw [encT h]; omega
  have e3 : encP p / 32 = p.2.2 := by rw [encT h]; omega
  unfold tstK tstP
  simp only [q1, q2, q3, q4, e1, e2, e3, Int.toNat_natCast]
  unfold hwP
  rcases h.2.1 with e | e | e <;> rw [e] <;> rfl
/-- how many truths wait -/
def dqS (n : Option Nat) (p : PRT) : Option Nat := match n with
  | none => none
  | some n => if p.1 = 33 then (if 1 ≤ n then some n else none)
    else if p.1 = 38 ∨ p.1 = 124 then (if 2 ≤ n then some (n - 1) else none)
    else if n < 28 then some (n + 1) else none
def dqL (n : Nat) (l : List PRT) : Option Nat := l.foldl dqS (some n)
theorem dq_none (l : List PRT) : l.foldl dqS none = none := by
  induction l with
  | nil => rfl
  | cons x l ih => exact ih
theorem dq_cons {p : PRT} {l : List PRT} {n m : Nat} (hv : vP p) (h : dqL n (p :: l) = some m) : (p.1 = 33 ∧ 1 ≤ n ∧ dqL n l = some m) ∨ ((p.1 = 38 ∨ p.1 = 124) ∧ 2 ≤ n ∧ dqL (n - 1) l = some m) ∨ (isT p ∧ n < 28 ∧ dqL (n + 1) l = some m) := by
  have hn : ∀ l : List PRT, (l.foldl dqS none = some m) → False := fun l hl => by rw [dq_none] at hl; cases hl
  unfold dqL at h ⊢
  rw [List.foldl_cons] at h
  by_cases h1 : p.1 = 33
  · have e : dqS (some n) p = if 1 ≤ n then some n else none := if_pos h1
    rw [e] at h
    by_cases h2 : 1 ≤ n
    · rw [if_pos h2] at h; exact Or.inl ⟨h1, h2, h⟩
    · rw [if_neg h2] at h; exact (hn l h).elim
  · by_cases h3 : p.1 = 38 ∨ p.1 = 124
    · have e : dqS (some n) p = if 2 ≤ n then some (n - 1) else none := (if_neg h1).trans (if_pos h3)
      rw [e] at h
      by_cases h2 : 2 ≤ n
      · rw [if_pos h2] at h; exact Or.inr (Or.inl ⟨h3, h2, h⟩)
      · rw [if_neg h2] at h; exact (hn l h).elim
    · have e : dqS (some n) p = if n < 28 then some (n + 1) else none := (if_neg h1).trans (if_neg h3)
      rw [e] at h
      have ht : isT p := by
        rcases hv with z | z | z | z
        · exact absurd z h1
        · exact absurd (Or.inl z) h3
        · exact absurd (Or.inr z) h3
        · exact z
      by_cases h2 : n < 28
      · rw [if_pos h2] at h; exact Or.inr (Or.inr ⟨ht, h2, h⟩)
      · rw [if_neg h2] at h; exact (hn l h).elim
/-- the truths behind a row of parts -/
def evP (e : Nat → Int) (st : List Bool) (p : PRT) : List Bool :=
  if p.1 = 33 then (match st with | t :: r => (!t) :: r | [] => [])
  else if p.1 = 38 then (match st with | t :: u :: r => (u && t) :: r | r => r)
  else if p.1 = 124 then (match st with | t :: u :: r => (u || t) :: r | r => r)
  else tstP e p :: st
theorem evS_enc {e : Nat → Int} {p : PRT} (hv : vP p) (st : List Bool) (sum : Int) : evS e (st, sum) (encP p) = (evP e st p, sum) := by
  rcases hv with z | z | z | z
  · unfold encP evP; rw [if_pos z, if_pos z]; cases st <;> rfl
  · unfold encP evP; rw [if_neg (by omega), if_pos z, if_neg (by omega), if_pos z]
    match st with
    | [] => rfl
    | [t] => rfl
    | t :: u :: r => rfl
  · unfold encP evP; rw [if_neg (by omega), if_neg (by omega), if_pos z, if_neg (by omega), if_neg (by omega), if_pos z]
    match st with
    | [] => rfl
    | [t] => rfl
    | t :: u :: r => rfl
  · have h1 := ltP_lt p.1
    have h2 := hwP_in p.2.1
    have h3 := z.2.2
    have h0 : 0 ≤ encP p := by rw [encT z]; omega
    have e1 : evS e (st, sum) (encP p) = (tstK e (encP p) :: st, sum) := if_pos h0
    rw [e1, tstK_enc z]
    unfold evP
    rw [if_neg (by have := z.1; omega), if_neg (by have := z.1; omega), if_neg (by have := z.1; omega)]
theorem evP_len {e : Nat → Int} : ∀ (l : List PRT) (st : List Bool) (m : Nat), (∀ p ∈ l, vP p) → dqL st.length l = some m → (l.foldl (evP e) st).length = m
  | [], st, m, _, h => by
    have : some st.length = some m := h
    exact Option.some.inj this
  | p :: l, st, m, hv, h => by
    have hvl : ∀ p ∈ l, vP p := fun q hq => hv q (List.mem_cons_of_mem _ hq)
    rw [List.foldl_cons]
    rcases dq_cons (hv p List.mem_cons_self) h with ⟨h1, h2, h3⟩ | ⟨h1, h2, h3⟩ | ⟨h1, h2, h3⟩
    · obtain ⟨t, r, rfl⟩ : ∃ t r, st = t :: r := by
        cases st with
        | nil => simp at h2
        | cons t r => exact ⟨t, r, rfl⟩
      have e1 : evP e (t :: r) p = (!t) :: r := if_pos h1
      rw [e1]
      exact evP_len l _ m hvl h3
    · obtain ⟨t, u, r, rfl⟩ : ∃ t u r, st = t :: u :: r := by
        match st, h2 with
        | t :: u :: r, _ => exact ⟨t, u, r, rfl⟩
      have e1 : ∃ b, evP e (t :: u :: r) p = b :: r := by
        unfold evP
        rcases h1 with h1 | h1
        · exact ⟨_, by rw [if_neg (by omega), if_pos h1]⟩
        · exact ⟨_, by rw [if_neg (by omega), if_neg (by omega), if_pos h1]⟩
      obtain ⟨b, e1⟩ := e1
      rw [e1]
      exact evP_len l _ m hvl (by simpa using h3)
    · have e1 : evP e st p = tstP e p :: st := by
        unfold evP
        rw [if_neg (by have := h1.1; omega), if_neg (by have := h1.1; omega), if_neg (by have := h1.1; omega)]
      rw [e1]
      exact evP_len l _ m hvl (by simpa using h3)
theorem evS_parts {e : Nat → Int} : ∀ (l : List PRT) (st : List Bool) (sum : Int), (∀ p ∈ l, vP p) → (l.map encP).foldl (evS e) (st, sum) = (l.foldl (evP e) st, sum)
  | [], _, _, _ => rfl
  | p :: l, st, sum, hv => by
    rw [List.map_cons, List.foldl_cons, evS_enc (hv p List.mem_cons_self), List.foldl_cons]
    exact evS_parts l _ _ fun q hq => hv q (List.mem_cons_of_mem _ hq)
def okC (x : CLA) : Prop := (0 ≤ x.1 ∧ x.1 ≤ 3) ∧ (0 ≤ x.2.1 ∧ x.2.1 ≤ 99) ∧ (∀ p ∈ x.2.2, vP p) ∧ (2 ≤ x.1 → dqL 0 x.2.2 = some 1) ∧ (x.1 < 2 → x.2.2 = [])
def hdP (e : Nat → Int) (l : List PRT) : Bool := (l.foldl (evP e) []).headD false
def stepC (x : CLA) : List Int := if 2 ≤ x.1 then x.2.2.map encP ++ [if x.1 = 2 then -10 - x.2.1 else -200 - x.2.1] else []
def stepsC (l : List CLA) : List Int := l.flatMap stepC
def addC (e : Nat → Int) (x : CLA) : Int := if 2 ≤ x.1 ∧ hdP e x.2.2 = true then (if x.1 = 2 then x.2.1 else -x.2.1) else 0
def rtC (e : Nat → Int) : List CLA → Int
  | [] => 0
  | x :: l => addC e x + rtC e l
theorem evS_step {e : Nat → Int} {x : CLA} (h : okC x) (sum : Int) : (stepC x).foldl (evS e) ([], sum) = ([], sum + addC e x) := by
  obtain ⟨h1, h2, h3, h4, h5⟩ := h
  unfold stepC addC
  by_cases hw : 2 ≤ x.1
  · rw [if_pos hw, List.foldl_append, evS_parts _ _ _ h3]
    have hl := evP_len (e := e) x.2.2 [] 1 h3 (h4 hw)
    unfold hdP
    obtain ⟨t, ht⟩ : ∃ t, x.2.2.foldl (evP e) [] = [t] := by
      match hx : x.2.2.foldl (evP e) [] with
      | [] => rw [hx] at hl; simp at hl
      | [t] => exact ⟨t, rfl⟩
      | t :: u :: r => rw [hx] at hl; simp at hl
    rw [ht, List.foldl_cons, List.foldl_nil]
    have hx : (if x.1 = 2 then -10 - x.2.1 else -200 - x.2.1) ≤ -10 := by split <;> omega
    unfold evS
    rw [if_neg (by omega), if_neg (by omega), if_neg (by omega)]
    refine Prod.ext rfl ?_
    show sum + (if t = true then (if -200 < (if x.1 = 2 then -10 - x.2.1 else -200 - x.2.1) then -10 - (if x.1 = 2 then -10 - x.2.1 else -200 - x.2.1) else 200 + (if x.1 = 2 then -10 - x.2.1 else -200 - x.2.1)) else 0) = sum + (if 2 ≤ x.1 ∧ t = true then (if x.1 = 2 then x.2.1 else -x.2.1) else 0)
    cases t
    · simp
    · by_cases h6 : x.1 = 2
      · rw [if_pos rfl, if_pos h6, if_pos (by omega), if_pos ⟨hw, rfl⟩, if_pos h6]; omega
      · rw [if_pos rfl, if_neg h6, if_neg (by omega), if_pos ⟨hw, rfl⟩, if_neg h6]; omega
  · rw [if_neg hw, if_neg (fun z => hw z.1), Int.add_zero]
    rfl
theorem evS_steps {e : Nat → Int} : ∀ (l : List CLA) (sum : Int), (∀ x ∈ l, okC x) → (stepsC l).foldl (evS e) ([], sum) = ([], sum + rtC e l)
  | [], sum, _ => by show ([], sum) = ([], sum + 0); rw [Int.add_zero]
  | x :: l, sum, h => by
    show (stepC x ++ stepsC l).foldl (evS e) ([], sum) = _
    rw [List.foldl_append, evS_step (h x List.mem_cons_self), evS_steps l _ fun y hy => h y (List.mem_cons_of_mem _ hy), rtC, Int.add_assoc]
theorem lk_steps {e : Nat → Int} {l : List CLA} (h : ∀ x ∈ l, okC x) : (lkL e (stepsC l)).2 = rtC e l := by
  unfold lkL
  rw [evS_steps l 0 h, Int.zero_add]
theorem rtC_in {e : Nat → Int} : ∀ l : List CLA, (∀ x ∈ l, okC x) → -99 * (l.length : Int) ≤ rtC e l ∧ rtC e l ≤ 99 * (l.length : Int)
  | [], _ => ⟨Int.le_refl _, Int.le_refl _⟩
  | x :: l, h => by
    have h1 := rtC_in (e := e) l fun y hy => h y (List.mem_cons_of_mem _ hy)
    have h2 := (h x List.mem_cons_self).2.1
    have h3 : -99 ≤ addC e x ∧ addC e x ≤ 99 := by unfold addC; split <;> (try split) <;> omega
    rw [rtC, List.length_cons, Int.natCast_add, Int.natCast_one]
    omega
/-- the last n of a word -/
def laC (w : Int) : Int → List CLA → Int
  | d, [] => d
  | d, x :: l => laC w (if x.1 = w then x.2.1 else d) l
def partsC (l : List CLA) : List PRT := l.flatMap fun x => x.2.2
def SerP (f : Nat → Int) : Nat → List PRT → Prop
  | _, [] => True
  | j, p :: r => (f (3 * j) = p.1 ∧ f (3 * j + 1) = p.2.1 ∧ f (3 * j + 2) = p.2.2) ∧ SerP f (j + 1) r
def SerC (f : Nat → Int) : Nat → Nat → List CLA → Prop
  | _, _, [] => True
  | i, n, x :: r => (f (3 * i) = x.1 ∧ f (3 * i + 1) = x.2.1 ∧ f (3 * i + 2) = ((n + x.2.2.length : Nat) : Int)) ∧ SerC f (i + 1) (n + x.2.2.length) r
def HoldC (nc : Int) (cl : Nat → Int) (np : Int) (pa : Nat → Int) (l : List CLA) : Prop := nc = (l.length : Int) ∧ np = ((partsC l).length : Int) ∧ SerC cl 0 0 l ∧ SerP pa 0 (partsC l) ∧ (l.length ≤ 10 ∧ (partsC l).length ≤ 100) ∧ ∀ x ∈ l, okC x
/-- the same cellar in the reference's row -/
def HoldS (s : Nat → Int) (l : List CLA) : Prop := stL s = stepsC l ∧ tlI s 228 0 = laC 0 0 l ∧ tlI s 233 5 = laC 1 5 l
theorem SerP_app {f : Nat → Int} : ∀ (a b : List PRT) (j : Nat), SerP f j (a ++ b) ↔ SerP f j a ∧ SerP f (j + a.length) b
  | [], b, j => by simp [SerP]
  | p :: a, b, j => by
    rw [List.cons_append, SerP, SerP, SerP_app a b (j + 1), List.length_cons, show j + 1 + a.length = j + (a.length + 1) by omega]
    simp only [and_assoc]
theorem SerP_get {f : Nat → Int} : ∀ (l : List PRT) (j : Nat), SerP f j l → ∀ i, (h : i < l.length) → f (3 * (j + i)) = l[i].1 ∧ f (3 * (j + i) + 1) = l[i].2.1 ∧ f (3 * (j + i) + 2) = l[i].2.2
  | [], _, _, i, h => absurd h (Nat.not_lt_zero i)
  | p :: l, j, hs, 0, _ => hs.1
  | p :: l, j, hs, i + 1, h => by
    have := SerP_get l (j + 1) hs.2 i (by simpa using h)
    rw [show j + (i + 1) = j + 1 + i by omega]
    exact this
theorem atS_of {c : Nat → Nat → Int} {a w : Nat} {i k : Nat} {x : Int} (hr : (i : Int) < c a 3) (hk : k < w) (h : c (a + 1) (i * w + k) = x) : atS c a w (i : Int) (k : Int) = x := by
  unfold atS
  rw [if_pos (by omega), ← h]
  congr 1
