/-! THE FIXED CELLS, and the reference's methods -/
def K0 : List Nat := [11, 8, 20, 20, 8, 20, 20, 8, 20, 20, 8, 20, 20, 8, 20, 20, 8, 20, 20, 8, 20, 20, 8, 20, 20, 8, 20, 20, 2, 8, 20, 20, 8, 20, 20, 2, 8, 20, 20, 8, 20, 20, 0, 12, 20, 20, 20, 20, 21, 20, 20, 20, 20, 20, 20]
def L0 : List Nat := [17, 5, 100, 100, 5, 4, 4, 5, 4, 4, 5, 15, 15, 5, 24, 24, 5, 16, 16, 5, 20, 20, 5, 6, 6, 5, 64, 64, 5, 5, 30, 30, 5, 300, 300, 5, 5, 30, 30, 5, 300, 300, 3, 24, 943, 943, 29, 6, 64, 6, 6, 6, 6, 6, 20]
/-- the cells that both constructors make stand as they were made -/
def Lay (h : Hp) : Prop := 55 ≤ mN h ∧ ∀ a, a < 55 → mK h a = K0.getD a 0 ∧ mL h a = L0.getD a 0
theorem Lay.lt {h : Hp} (hL : Lay h) (a : Nat) (ha : Nat.blt a 55 = true) : a < mN h := Nat.lt_of_lt_of_le (Nat.le_of_ble_eq_true ha) hL.1
theorem Lay.k {h : Hp} (hL : Lay h) (a : Nat) (ha : Nat.blt a 55 = true) : mK h a = K0.getD a 0 := (hL.2 a (Nat.le_of_ble_eq_true ha)).1
theorem Lay.l {h : Hp} (hL : Lay h) (a : Nat) (ha : Nat.blt a 55 = true) : mL h a = L0.getD a 0 := (hL.2 a (Nat.le_of_ble_eq_true ha)).2
/-- the reference's own arrays -/
def MC (h : Hp) : Prop := mC h 43 1 = ((44 : Nat) : Int) ∧ mC h 43 2 = ((45 : Nat) : Int) ∧ mC h 43 3 = ((46 : Nat) : Int) ∧ mC h 43 10 = ((47 : Nat) : Int) ∧ mC h 43 11 = ((48 : Nat) : Int) ∧ mC h 43 12 = ((49 : Nat) : Int) ∧ mC h 43 13 = ((50 : Nat) : Int) ∧ mC h 43 14 = ((51 : Nat) : Int) ∧ mC h 43 16 = ((52 : Nat) : Int) ∧ mC h 43 17 = ((53 : Nat) : Int) ∧ mC h 43 19 = ((54 : Nat) : Int)
theorem MC.c1 {h : Hp} (hM : MC h) : mC h 43 1 = ((44 : Nat) : Int) := hM.1
theorem MC.c2 {h : Hp} (hM : MC h) : mC h 43 2 = ((45 : Nat) : Int) := hM.2.1
theorem MC.c3 {h : Hp} (hM : MC h) : mC h 43 3 = ((46 : Nat) : Int) := hM.2.2.1
theorem MC.c10 {h : Hp} (hM : MC h) : mC h 43 10 = ((47 : Nat) : Int) := hM.2.2.2.1
theorem MC.c11 {h : Hp} (hM : MC h) : mC h 43 11 = ((48 : Nat) : Int) := hM.2.2.2.2.1
theorem MC.c12 {h : Hp} (hM : MC h) : mC h 43 12 = ((49 : Nat) : Int) := hM.2.2.2.2.2.1
theorem MC.c13 {h : Hp} (hM : MC h) : mC h 43 13 = ((50 : Nat) : Int) := hM.2.2.2.2.2.2.1
theorem MC.c14 {h : Hp} (hM : MC h) : mC h 43 14 = ((51 : Nat) : Int) := hM.2.2.2.2.2.2.2.1
theorem MC.c16 {h : Hp} (hM : MC h) : mC h 43 16 = ((52 : Nat) : Int) := hM.2.2.2.2.2.2.2.2.1
theorem MC.c17 {h : Hp} (hM : MC h) : mC h 43 17 = ((53 : Nat) : Int) := hM.2.2.2.2.2.2.2.2.2.1
theorem MC.c19 {h : Hp} (hM : MC h) : mC h 43 19 = ((54 : Nat) : Int) := hM.2.2.2.2.2.2.2.2.2.2
/-- cell a's places become f -/
def setC (h : Hp) (a : Nat) (f : Nat → Int) : Hp := (h.1, h.2.1, h.2.2.1, h.2.2.2.1, fun b j => if b = a then f j else mC h b j)
def upd1 (f : Nat → Int) (k : Nat) (x : Int) : Nat → Int := fun j => if j = k then x else f j
theorem mPut_setC (h : Hp) (a k : Nat) (x : Int) : mPut h a k x = setC h a (upd1 (mC h a) k x) := by
  refine Prod.ext rfl (Prod.ext rfl (Prod.ext rfl (Prod.ext rfl ?_)))
  funext b j
  show (if b = a ∧ j = k then x else mC h b j) = if b = a then (if j = k then x else mC h a j) else mC h b j
  by_cases hb : b = a
  · subst hb
    by_cases hj : j = k <;> simp [hj]
  · simp [hb]
theorem mC_setC (h : Hp) (a : Nat) (f : Nat → Int) : mC (setC h a f) a = f := by
  funext j
  show (if a = a then f j else mC h a j) = f j
  simp
theorem setC_setC (h : Hp) (a : Nat) (f g : Nat → Int) : setC (setC h a f) a g = setC h a g := by
  refine Prod.ext rfl (Prod.ext rfl (Prod.ext rfl (Prod.ext rfl ?_)))
  funext b j
  show (if b = a then g j else (if b = a then f j else mC h b j)) = if b = a then g j else mC h b j
  by_cases hb : b = a <;> simp [hb]
theorem setC_self (h : Hp) (a : Nat) : setC h a (mC h a) = h := by
  refine Prod.ext rfl (Prod.ext rfl (Prod.ext rfl (Prod.ext rfl ?_)))
  funext b j
  show (if b = a then mC h a j else mC h b j) = mC h b j
  by_cases hb : b = a <;> simp [hb]
def bI (p : Prop) [Decidable p] : Int := if p then 1 else 0
theorem bI_t {p : Prop} [Decidable p] (h : p) : bI p = 1 := if_pos h
theorem bI_f {p : Prop} [Decidable p] (h : ¬ p) : bI p = 0 := if_neg h
theorem bI_c {p q : Prop} [Decidable p] [Decidable q] (h : p ↔ q) : bI p = bI q := by
  unfold bI
  by_cases hp : p
  · rw [if_pos hp, if_pos (h.mp hp)]
  · rw [if_neg hp, if_neg (fun z => hp (h.mpr z))]
theorem bI_01 (p : Prop) [Decidable p] : bI p = 0 ∨ bI p = 1 := by unfold bI; by_cases h : p <;> simp [h]
/-- |v| and what is nearer to 0 -/
def szI (v : Int) : Int := if v < 0 then -v else v
def nrI (v y : Int) : Int := if szI v ≤ y then 0 else if 0 < v then v - y else v + y
def clI (v lo hi : Int) : Int := if v < lo then lo else if hi < v then hi else v

theorem m_in {d : Nat} {v lo hi : Int} {h : Hp} (h1 : inR v) (h2 : inR lo) (h3 : inR hi) : Ok (d) 139 [(0, v), (0, lo), (0, hi)] h (fun r h2 => r = some (0, bI (lo ≤ v ∧ v ≤ hi)) ∧ h2 = h) := by
  show Ex _ none t_X11_in 3 0 _ [] _ _
  refine E_load rfl rfl rfl ?_
  refine E_load rfl rfl rfl ?_
  refine E_cmp2 rfl (by omega) (fun c1 => ?_) (fun c1 => ?_)
  · refine E_const rfl ?_
    refine E_iret rfl (fun _ => by decide) ?_
    exact ⟨by first | (rw [bI_t (by omega)]) | (rw [bI_f (by omega)]), rfl⟩
  · refine E_load rfl rfl rfl ?_
    refine E_load rfl rfl rfl ?_
    refine E_cmp4 rfl (by omega) (fun c2 => ?_) (fun c2 => ?_)
    · refine E_const rfl ?_
      refine E_iret rfl (fun _ => by decide) ?_
      exact ⟨by first | (rw [bI_t (by omega)]) | (rw [bI_f (by omega)]), rfl⟩
    · refine E_const rfl ?_
      refine E_goto rfl ?_
      refine E_iret rfl (fun _ => by decide) ?_
      exact ⟨by first | (rw [bI_t (by omega)]) | (rw [bI_f (by omega)]), rfl⟩
theorem m_within {d : Nat} {v lo hi : Int} {h : Hp} (h1 : inR v) (h2 : inR lo) (h3 : inR hi) : Ok (d) 140 [(0, v), (0, lo), (0, hi)] h (fun r h2 => r = some (0, clI v lo hi) ∧ h2 = h) := by
  show Ex _ none t_X11_within 0 0 _ [] _ _
  refine E_load rfl rfl rfl ?_
  refine E_load rfl rfl rfl ?_
  refine E_cmp3 rfl (by omega) (fun c1 => ?_) (fun c1 => ?_)
  · refine E_load rfl rfl rfl ?_
    refine E_load rfl rfl rfl ?_
    refine E_cmp5 rfl (by omega) (fun c2 => ?_) (fun c2 => ?_)
    · refine E_load rfl rfl rfl ?_
      refine E_iret rfl (fun h => absurd h (by decide)) ?_
      exact ⟨by unfold clI; simp only [Option.some.injEq, Prod.mk.injEq, true_and]; split <;> (try split) <;> omega, rfl⟩
    · refine E_load rfl rfl rfl ?_
      refine E_goto rfl ?_
      refine E_iret rfl (fun h => absurd h (by decide)) ?_
      exact ⟨by unfold clI; simp only [Option.some.injEq, Prod.mk.injEq, true_and]; split <;> (try split) <;> omega, rfl⟩
  · refine E_load rfl rfl rfl ?_
    refine E_goto rfl ?_
    refine E_iret rfl (fun h => absurd h (by decide)) ?_
    exact ⟨by unfold clI; simp only [Option.some.injEq, Prod.mk.injEq, true_and]; split <;> (try split) <;> omega, rfl⟩
theorem m_size {d : Nat} {v : Int} {h : Hp} (h1 : inR v) : Ok (d) 141 [(0, v)] h (fun r h2 => r = some (0, szI v) ∧ h2 = h) := by
  show Ex _ none t_X11_size 0 0 _ [] _ _
  refine E_load rfl rfl rfl ?_
  refine E_if3 rfl (by omega) (fun c1 => ?_) (fun c1 => ?_)
  · refine E_load rfl rfl rfl ?_
    refine E_iret rfl (fun h => absurd h (by decide)) ?_
    exact ⟨by unfold szI; simp only [Option.some.injEq, Prod.mk.injEq, true_and]; split <;> omega, rfl⟩
  · refine E_load rfl rfl rfl ?_
    refine E_neg rfl ?_
    refine E_goto rfl ?_
    refine E_iret rfl (fun h => absurd h (by decide)) ?_
    exact ⟨by unfold szI; simp only [Option.some.injEq, Prod.mk.injEq, true_and]; split <;> omega, rfl⟩
theorem m_nearer {d : Nat} {v y : Int} {h : Hp} (h1 : inR v) (h0 : v ≠ -2147483648) (h2 : inR y) : Ok (d + 1) 142 [(0, v), (0, y)] h (fun r h2 => r = some (0, nrI v y) ∧ h2 = h) := by
  show Ex _ none t_X11_nearer 0 0 _ [] _ _
  have hs : inR (szI v) := by unfold szI; split <;> omega
  refine E_load rfl rfl rfl ?_
  refine E_cS (as := [(0, v)]) (rest := []) rfl rfl rfl rfl rfl rfl (m_size h1) (fun r h2 hq => ?_)
  obtain ⟨rfl, rfl⟩ := hq
  refine E_load rfl rfl rfl ?_
  refine E_cmp4 rfl (by omega) (fun c1 => ?_) (fun c1 => ?_)
  · refine E_load rfl rfl rfl ?_
    refine E_if5 rfl (by omega) (fun c2 => ?_) (fun c2 => ?_)
    · refine E_load rfl rfl rfl ?_
      refine E_load rfl rfl rfl ?_
      refine E_add rfl ?_
      refine E_iret rfl (fun h => absurd h (by decide)) ?_
      exact ⟨by unfold nrI; simp only [Option.some.injEq, Prod.mk.injEq, true_and]; split <;> (try split) <;> omega, rfl⟩
    · refine E_load rfl rfl rfl ?_
      refine E_load rfl rfl rfl ?_
      refine E_sub rfl ?_
      refine E_goto rfl ?_
      refine E_iret rfl (fun h => absurd h (by decide)) ?_
      exact ⟨by unfold nrI; simp only [Option.some.injEq, Prod.mk.injEq, true_and]; split <;> (try split) <;> omega, rfl⟩
  · refine E_const rfl ?_
    refine E_goto rfl ?_
    refine E_iret rfl (fun h => absurd h (by decide)) ?_
    exact ⟨by unfold nrI; simp only [Option.some.injEq, Prod.mk.injEq, true_and]; split <;> (try split) <;> omega, rfl⟩
theorem m_isBottle {d : Nat} {h : Hp} (hL : Lay h) (hM : MC h) {x : Int} (h1 : inR x) (hs : 0 ≤ mC h 44 29 ∧ mC h 44 29 ≤ 100) : Ok (d + 1) 143 [(1, ((43 : Nat) : Int)), (0, x)] h (fun r h2 => r = some (0, bI (0 ≤ x ∧ x < mC h 44 29)) ∧ h2 = h) := by
  show Ex _ none t_X11_isBottle 3 0 _ [] _ _
  refine E_load rfl rfl rfl ?_
  refine E_const rfl ?_
  refine E_load rfl rfl rfl ?_
  refine E_getr (c := 12) (r := 44) rfl (hL.lt 43 rfl) (hL.k 43 rfl) rfl (hM.c1) ?_
  refine E_const rfl ?_
  refine E_ialj (n := 943) (j := 29) rfl (hL.lt 44 rfl) (hL.k 44 rfl) (hL.l 44 rfl) (by omega) (rfl) ?_
  refine E_const rfl ?_
  refine E_sub rfl ?_
  refine E_cS (as := [(0, x), (0, 0), (0, mC h 44 29 - 1)]) (rest := []) rfl rfl rfl rfl rfl rfl (m_in h1 (by omega) (show inR (mC h 44 29 - 1) by omega)) (fun r h2 hq => ?_)
  obtain ⟨rfl, rfl⟩ := hq
  refine E_iret rfl (fun _ => bI_01 _) ?_
  exact ⟨by congr 2; exact bI_c ⟨fun q => by omega, fun q => by omega⟩, rfl⟩
theorem m_isGuest {d : Nat} {h : Hp} (hL : Lay h) (hM : MC h) {x : Int} (h1 : inR x) (hs : 0 ≤ mC h 44 36 ∧ mC h 44 36 ≤ 100) : Ok (d + 1) 144 [(1, ((43 : Nat) : Int)), (0, x)] h (fun r h2 => r = some (0, bI (0 ≤ x ∧ x < mC h 44 36)) ∧ h2 = h) := by
  show Ex _ none t_X11_isGuest 3 0 _ [] _ _
  refine E_load rfl rfl rfl ?_
  refine E_const rfl ?_
  refine E_load rfl rfl rfl ?_
  refine E_getr (c := 12) (r := 44) rfl (hL.lt 43 rfl) (hL.k 43 rfl) rfl (hM.c1) ?_
  refine E_const rfl ?_
  refine E_ialj (n := 943) (j := 36) rfl (hL.lt 44 rfl) (hL.k 44 rfl) (hL.l 44 rfl) (by omega) (rfl) ?_
  refine E_const rfl ?_
  refine E_sub rfl ?_
  refine E_cS (as := [(0, x), (0, 0), (0, mC h 44 36 - 1)]) (rest := []) rfl rfl rfl rfl rfl rfl (m_in h1 (by omega) (show inR (mC h 44 36 - 1) by omega)) (fun r h2 hq => ?_)
  obtain ⟨rfl, rfl⟩ := hq
  refine E_iret rfl (fun _ => bI_01 _) ?_
  exact ⟨by congr 2; exact bI_c ⟨fun q => by omega, fun q => by omega⟩, rfl⟩
theorem m_isMood {d : Nat} {x : Int} {h : Hp} (h1 : inR x) : Ok (d + 1) 145 [(0, x)] h (fun r h2 => r = some (0, bI (-99 ≤ x ∧ x ≤ 99)) ∧ h2 = h) := by
  show Ex _ none t_X11_isMood 3 0 _ [] _ _
  refine E_load rfl rfl rfl ?_
  refine E_const rfl ?_
  refine E_const rfl ?_
  refine E_cS (as := [(0, x), (0, -99), (0, 99)]) (rest := []) rfl rfl rfl rfl rfl rfl (m_in h1 (by omega) (by omega)) (fun r h2 hq => ?_)
  obtain ⟨rfl, rfl⟩ := hq
  refine E_iret rfl (fun _ => bI_01 _) ?_
  exact ⟨rfl, rfl⟩
theorem m_isSaying {d : Nat} {x : Int} {h : Hp} (h1 : inR x) : Ok (d + 1) 146 [(0, x)] h (fun r h2 => r = some (0, bI (-999 ≤ x ∧ x ≤ 999)) ∧ h2 = h) := by
  show Ex _ none t_X11_isSaying 3 0 _ [] _ _
  refine E_load rfl rfl rfl ?_
  refine E_const rfl ?_
  refine E_const rfl ?_
  refine E_cS (as := [(0, x), (0, -999), (0, 999)]) (rest := []) rfl rfl rfl rfl rfl rfl (m_in h1 (by omega) (by omega)) (fun r h2 hq => ?_)
  obtain ⟨rfl, rfl⟩ := hq
  refine E_iret rfl (fun _ => bI_01 _) ?_
  exact ⟨rfl, rfl⟩
