/-! WHAT THE REFERENCE COMPUTES, as functions of its row s -/
/-- a row's steps: a test's truth, and what a step does to the truths and the sum -/
def tstK (e : Nat → Int) (x : Int) : Bool :=
  let y := e (x.tmod 8).toNat
  let v := x.tdiv 32
  let o := (x.tdiv 8).tmod 4
  if o = 0 then decide (y < v) else if o = 1 then decide (y = v) else decide (v < y)
def evS (e : Nat → Int) (q : List Bool × Int) (x : Int) : List Bool × Int :=
  if 0 ≤ x then (tstK e x :: q.1, q.2)
  else if x = -1 then (match q.1 with
    | t :: r => ((!t) :: r, q.2)
    | [] => ([], q.2))
  else if -10 < x then (match q.1 with
    | t :: u :: r => ((if x = -2 then u && t else u || t) :: r, q.2)
    | r => (r, q.2))
  else ([], q.2 + (if q.1.getLastD false then (if -200 < x then -10 - x else 200 + x) else 0))
def lkL (e : Nat → Int) (l : List Int) : List Bool × Int := l.foldl (evS e) ([], 0)
/-- how many truths wait; none: no such row of steps -/
def dpS (n : Option Nat) (x : Int) : Option Nat := match n with
  | none => none
  | some n => if 0 ≤ x then (if x < 3200 ∧ x.tmod 8 < 6 ∧ n < 60 then some (n + 1) else none)
    else if x = -1 then (if 1 ≤ n then some n else none)
    else if -10 < x then (if 2 ≤ n ∧ (x = -2 ∨ x = -3) then some (n - 1) else none)
    else if n = 1 ∧ -300 < x ∧ (x ≤ -200 ∨ -110 < x) then some 0 else none
def dpL (l : List Int) : Option Nat := l.foldl dpS (some 0)
/-- the steps of the cellar that holds -/
def stL (s : Nat → Int) : List Int := if s 35 = -1 then [] else (List.range (s (238 + s 35).toNat).toNat).map fun (i : Nat) => s (243 + 140 * s 35 + (i : Int)).toNat
def tlI (s : Nat → Int) (w no : Int) : Int := if s 35 = -1 then no else s (w + s 35).toNat
def envK (b k v word years quarter : Int) (i : Nat) : Int := if i = 0 then b else if i = 1 then k else if i = 2 then v else if i = 3 then years.tdiv 10 else if i = 4 then quarter else (szI word).tdiv 10
def softK (lk : Int) (years : Int) : Int := if 10 + lk < 0 then 0 else (years * (10 + lk)).tdiv 20
def sayK (kind v word years quarter tel soft : Int) : Int :=
  if kind = 1 then nrI word (soft.tdiv 2) else if kind = 2 then nrI word (2 * soft) else if kind = 3 then nrI word soft * (if quarter.tmod 2 = 1 then -1 else 1)
  else if kind = 4 then nrI word (soft.tdiv 2) - (if 40 < years then v else 0) else if kind = 5 then nrI word (2 * soft) - (if 0 < word ∧ 30 < years then v else 0)
  else if kind = 6 then nrI word soft * (if quarter.tmod 2 = 1 then -1 else 1) + tel else nrI word soft
def envS (s : Nat → Int) (b : Nat) : Nat → Int := envK b (s (37 + b)) (s (43 + b)) (s (1 + b)) (s (7 + b)) (s (13 + b))
def lkS (s : Nat → Int) (b : Nat) : Int := (lkL (envS s b) (stL s)).2
def sfS (s : Nat → Int) (b : Nat) : Int := softK (lkS s b) (s (7 + b))
def syS (s : Nat → Int) (b : Nat) : Int := sayK (s (37 + b)) (s (43 + b)) (s (1 + b)) (s (7 + b)) (s (13 + b)) (s (49 + 4 * b + (s (13 + b)).toNat)) (sfS s b)
/-- ranges that always hold -/
def InvB (s : Nat → Int) : Prop := ∀ b : Nat, b < 6 → (-99 ≤ s (1 + b) ∧ s (1 + b) ≤ 99) ∧ (0 ≤ s (7 + b) ∧ s (7 + b) ≤ 199) ∧ (0 ≤ s (13 + b) ∧ s (13 + b) ≤ 3) ∧ (s (19 + b) = 0 ∨ s (19 + b) = 1) ∧ (0 ≤ s (37 + b) ∧ s (37 + b) ≤ 6) ∧ (0 ≤ s (43 + b) ∧ s (43 + b) ≤ 9) ∧ ∀ k : Nat, k < 4 → 0 ≤ s (49 + 4 * b + k) ∧ s (49 + 4 * b + k) ≤ 9
def InvH (s : Nat → Int) : Prop := s 35 = -1 ∨ ((0 ≤ s 35 ∧ s 35 ≤ 4) ∧ (0 ≤ s (228 + s 35).toNat ∧ s (228 + s 35).toNat ≤ 99) ∧ (0 ≤ s (233 + s 35).toNat ∧ s (233 + s 35).toNat ≤ 99) ∧ (0 ≤ s (238 + s 35).toNat ∧ s (238 + s 35).toNat ≤ 140) ∧ (dpL (stL s)).isSome = true)
/-- the scratch rows of looks -/
def scr (h : Hp) (f g : Nat → Int) : Hp := setC (setC h 47 f) 48 g
theorem scr_scr (h : Hp) (f g f' g' : Nat → Int) : scr (scr h f g) f' g' = scr h f' g' := by
  refine Prod.ext rfl (Prod.ext rfl (Prod.ext rfl (Prod.ext rfl ?_)))
  funext b j
  show (if b = 48 then g' j else if b = 47 then f' j else if b = 48 then g j else if b = 47 then f j else mC h b j) = if b = 48 then g' j else if b = 47 then f' j else mC h b j
  by_cases h8 : b = 48
  · simp [h8]
  · by_cases h7 : b = 47 <;> simp [h7, h8]
theorem scr_self (h : Hp) : scr h (mC h 47) (mC h 48) = h := by
  refine Prod.ext rfl (Prod.ext rfl (Prod.ext rfl (Prod.ext rfl ?_)))
  funext b j
  show (if b = 48 then mC h 48 j else if b = 47 then mC h 47 j else mC h b j) = mC h b j
  by_cases h8 : b = 48
  · simp [h8]
  · by_cases h7 : b = 47 <;> simp [h7, h8]
theorem nrI_in {v y : Int} (h1 : -1000 ≤ v ∧ v ≤ 1000) (h2 : 0 ≤ y) : (-1000 ≤ nrI v y ∧ nrI v y ≤ 1000) ∧ (0 ≤ v → 0 ≤ nrI v y ∧ nrI v y ≤ v) ∧ (v ≤ 0 → v ≤ nrI v y ∧ nrI v y ≤ 0) := by
  unfold nrI szI
  split <;> split <;> (try split) <;> omega

theorem m_keeps_loop {d : Nat} {h : Hp} (hL : Lay h) (hM : MC h) : ∀ (n i : Nat), i + n = 29 → ∀ (x : Int), x = i → ∀ F : Nat → Int, (∀ k, k < i → F k = mC h 44 k) → (∀ k, 29 ≤ k → F k = mC h 46 k) → Ex d none t_X11_keeps 0 2 [(1, ((43 : Nat) : Int)), (0, x)] [] (setC h 46 F) (fun r h2 => r = none ∧ ∃ G, h2 = setC h 46 G ∧ (∀ k, k < 29 → G k = mC h 44 k) ∧ ∀ k, 29 ≤ k → G k = mC h 46 k) := by
  intro n
  induction n with
  | zero =>
    intro i hi x hx F hF hF2
    refine E_load rfl rfl rfl ?_
    refine E_const rfl ?_
    refine E_cmp3 rfl (by omega) (fun c1 => ?_) (fun c1 => ?_)
    · refine E_vret rfl ?_
      exact ⟨rfl, F, rfl, fun k hk => hF k (by omega), hF2⟩
    · omega
  | succ n ih =>
    intro i hi x hx F hF hF2
    refine E_load rfl rfl rfl ?_
    refine E_const rfl ?_
    refine E_cmp3 rfl (by omega) (fun c1 => ?_) (fun c1 => ?_)
    · omega
    · refine E_load rfl rfl rfl ?_
      refine E_getr (c := 12) (r := 46) rfl (hL.lt 43 rfl) (hL.k 43 rfl) rfl (hM.c3) ?_
      refine E_load rfl rfl rfl ?_
      refine E_load rfl rfl rfl ?_
      refine E_getr (c := 12) (r := 44) rfl (hL.lt 43 rfl) (hL.k 43 rfl) rfl (hM.c1) ?_
      refine E_load rfl rfl rfl ?_
      refine E_ialn (n := 943) rfl (hL.lt 44 rfl) (hL.k 44 rfl) (hL.l 44 rfl) (by omega) rfl ?_
      refine E_iasn (n := 29) rfl (hL.lt 46 rfl) (hL.k 46 rfl) (hL.l 46 rfl) (by omega) ?_
      refine E_iinc rfl rfl rfl ?_
      refine E_goto rfl ?_
      subst hx
      rw [mPut_setC, mC_setC, setC_setC]
      refine ih (i + 1) (by omega) _ (by omega) _ (fun k hk => ?_) (fun k hk => ?_)
      · unfold upd1
        by_cases e : k = (i : Int).toNat
        · rw [if_pos e, e]
          rfl
        · rw [if_neg e]
          exact hF k (by omega)
      · unfold upd1
        rw [if_neg (by omega)]
        exact hF2 k hk
theorem m_keeps {d : Nat} {h : Hp} (hL : Lay h) (hM : MC h) : Ok (d) 147 [(1, ((43 : Nat) : Int))] h (fun r h2 => r = none ∧ ∃ G, h2 = setC h 46 G ∧ (∀ k, k < 29 → G k = mC h 44 k) ∧ ∀ k, 29 ≤ k → G k = mC h 46 k) := by
  show Ex _ none t_X11_keeps 0 0 _ [] _ _
  refine E_const rfl ?_
  refine E_store rfl rfl rfl ?_
  have k := m_keeps_loop (d := d) hL hM 29 0 rfl 0 rfl (mC h 46) (fun k hk => absurd hk (by omega)) (fun k hk => rfl)
  rw [setC_self] at k
  exact k
theorem m_goesBack_loop {d : Nat} {h : Hp} (hL : Lay h) (hM : MC h) : ∀ (n i : Nat), i + n = 29 → ∀ (x : Int), x = i → ∀ F : Nat → Int, (∀ k, k < i → F k = mC h 46 k) → (∀ k, 29 ≤ k → F k = mC h 44 k) → Ex d none t_X11_goesBack 0 2 [(1, ((43 : Nat) : Int)), (0, x)] [] (setC h 44 F) (fun r h2 => r = none ∧ ∃ G, h2 = setC h 44 G ∧ (∀ k, k < 29 → G k = mC h 46 k) ∧ ∀ k, 29 ≤ k → G k = mC h 44 k) := by
  intro n
  induction n with
  | zero =>
    intro i hi x hx F hF hF2
    refine E_load rfl rfl rfl ?_
    refine E_const rfl ?_
    refine E_cmp3 rfl (by omega) (fun c1 => ?_) (fun c1 => ?_)
    · refine E_vret rfl ?_
      exact ⟨rfl, F, rfl, fun k hk => hF k (by omega), hF2⟩
    · omega
  | succ n ih =>
    intro i hi x hx F hF hF2
    refine E_load rfl rfl rfl ?_
    refine E_const rfl ?_
    refine E_cmp3 rfl (by omega) (fun c1 => ?_) (fun c1 => ?_)
    · omega
    · refine E_load rfl rfl rfl ?_
      refine E_getr (c := 12) (r := 44) rfl (hL.lt 43 rfl) (hL.k 43 rfl) rfl (hM.c1) ?_
      refine E_load rfl rfl rfl ?_
      refine E_load rfl rfl rfl ?_
      refine E_getr (c := 12) (r := 46) rfl (hL.lt 43 rfl) (hL.k 43 rfl) rfl (hM.c3) ?_
      refine E_load rfl rfl rfl ?_
      refine E_ialn (n := 29) rfl (hL.lt 46 rfl) (hL.k 46 rfl) (hL.l 46 rfl) (by omega) rfl ?_
      refine E_iasn (n := 943) rfl (hL.lt 44 rfl) (hL.k 44 rfl) (hL.l 44 rfl) (by omega) ?_
      refine E_iinc rfl rfl rfl ?_
      refine E_goto rfl ?_
      subst hx
      rw [mPut_setC, mC_setC, setC_setC]
      refine ih (i + 1) (by omega) _ (by omega) _ (fun k hk => ?_) (fun k hk => ?_)
      · unfold upd1
        by_cases e : k = (i : Int).toNat
        · rw [if_pos e, e]
          rfl
        · rw [if_neg e]
          exact hF k (by omega)
      · unfold upd1
        rw [if_neg (by omega)]
        exact hF2 k hk
theorem m_goesBack {d : Nat} {h : Hp} (hL : Lay h) (hM : MC h) : Ok (d) 148 [(1, ((43 : Nat) : Int))] h (fun r h2 => r = none ∧ ∃ G, h2 = setC h 44 G ∧ (∀ k, k < 29 → G k = mC h 46 k) ∧ ∀ k, 29 ≤ k → G k = mC h 44 k) := by
  show Ex _ none t_X11_goesBack 0 0 _ [] _ _
  refine E_const rfl ?_
  refine E_store rfl rfl rfl ?_
  have k := m_goesBack_loop (d := d) hL hM 29 0 rfl 0 rfl (mC h 44) (fun k hk => absurd hk (by omega)) (fun k hk => rfl)
  rw [setC_self] at k
  exact k
theorem m_tellsOf {d : Nat} {h : Hp} (hL : Lay h) (hM : MC h) {w no : Int} (hw : 228 ≤ w ∧ w ≤ 238) (h35 : -1 ≤ mC h 44 35 ∧ mC h 44 35 ≤ 4) : Ok (d) 164 [(1, ((43 : Nat) : Int)), (0, w), (0, no)] h (fun r h2 => r = some (0, tlI (mC h 44) w no) ∧ h2 = h) := by
  show Ex _ none t_X11_tellsOf 0 0 _ [] _ _
  refine E_load rfl rfl rfl ?_
  refine E_getr (c := 12) (r := 44) rfl (hL.lt 43 rfl) (hL.k 43 rfl) rfl (hM.c1) ?_
  refine E_const rfl ?_
  refine E_ialj (n := 943) (j := 35) rfl (hL.lt 44 rfl) (hL.k 44 rfl) (hL.l 44 rfl) (by omega) (rfl) ?_
  refine E_const rfl ?_
  refine E_cmp1 rfl (by omega) (fun c1 => ?_) (fun c1 => ?_)
  · refine E_load rfl rfl rfl ?_
    refine E_getr (c := 12) (r := 44) rfl (hL.lt 43 rfl) (hL.k 43 rfl) rfl (hM.c1) ?_
    refine E_load rfl rfl rfl ?_
    refine E_load rfl rfl rfl ?_
    refine E_getr (c := 12) (r := 44) rfl (hL.lt 43 rfl) (hL.k 43 rfl) rfl (hM.c1) ?_
    refine E_const rfl ?_
    refine E_ialj (n := 943) (j := 35) rfl (hL.lt 44 rfl) (hL.k 44 rfl) (hL.l 44 rfl) (by omega) (rfl) ?_
    refine E_add rfl ?_
    refine E_ialn (n := 943) rfl (hL.lt 44 rfl) (hL.k 44 rfl) (hL.l 44 rfl) (by omega) rfl ?_
    refine E_iret rfl (fun h => absurd h (by decide)) ?_
    exact ⟨by unfold tlI; rw [if_neg c1], rfl⟩
  · refine E_load rfl rfl rfl ?_
    refine E_goto rfl ?_
    refine E_iret rfl (fun h => absurd h (by decide)) ?_
    exact ⟨by unfold tlI; rw [if_pos c1], rfl⟩
