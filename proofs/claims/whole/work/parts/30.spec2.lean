/-! WHAT EACH CALL ANSWERS AND LEAVES, as functions of s -/
theorem bI_R (p : Prop) [Decidable p] : inR (bI p) := by unfold bI; split <;> omega
theorem bI_nz {p : Prop} [Decidable p] (h : bI p ≠ 0) : p := by
  by_cases hp : p
  · exact hp
  · exact absurd (bI_f hp) h
theorem bI_z {p : Prop} [Decidable p] (h : bI p = 0) : ¬ p := fun hp => by rw [bI_t hp] at h; cases h
abbrev AS : Type := Int × (Nat → Int)
theorem mutl {h : Hp} {c c2 : Nat → Nat → Int} {P : Nat → Nat → Bool} {F : AS} {v : Int} {s' : Nat → Int} (e : F = (v, s')) (hs : c2 44 = s') (fr : Eqk P c c2) : some ((0, v) : AV) = some (0, F.1) ∧ ∃ c3, wC h c2 = wC h c3 ∧ c3 44 = F.2 ∧ Eqk P c c3 := by
  subst e
  exact ⟨rfl, c2, rfl, hs, fr⟩
theorem qryl {h : Hp} {c c2 : Nat → Nat → Int} {P : Nat → Nat → Bool} {F v : Int} (e : F = v) (fr : Eqk P c c2) : some ((0, v) : AV) = some (0, F) ∧ ∃ c3, wC h c2 = wC h c3 ∧ Eqk P c c3 := by
  subst e
  exact ⟨rfl, c2, rfl, fr⟩
theorem qrylL {h : Hp} {c c2 : Nat → Nat → Int} {P : Nat → Nat → Bool} {F v : Int} (e : F = v) (fr : Eqk P c c2) : some ((2, v) : AV) = some (2, F) ∧ ∃ c3, wC h c2 = wC h c3 ∧ Eqk P c c3 := by
  subst e
  exact ⟨rfl, c2, rfl, fr⟩
abbrev isB (s : Nat → Int) (x : Int) : Prop := 0 ≤ x ∧ x < s 29
abbrev isG (s : Nat → Int) (x : Int) : Prop := 0 ≤ x ∧ x < s 36
abbrev btw (a x b : Int) : Prop := a ≤ x ∧ x ≤ b
def InvX (s : Nat → Int) : Prop := (0 ≤ s 0 ∧ s 0 ≤ 9999) ∧ s 35 = s 30 - 1 ∧ (∀ k : Nat, k < 100 → 0 ≤ s (128 + k) ∧ s (128 + k) ≤ 127)
  ∧ (∀ k : Nat, (k : Int) < s 31 → (0 ≤ s (73 + k) ∧ s (73 + k) < s 29) ∧ (-999 ≤ s (78 + k) ∧ s (78 + k) ≤ 999) ∧ (0 ≤ s (83 + k) ∧ s (83 + k) ≤ 20))
  ∧ (∀ k : Nat, (k : Int) < s 32 → (0 ≤ s (88 + k) ∧ s (88 + k) ≤ 3) ∧ (s (88 + k) ≠ 0 → 0 ≤ s (96 + k) ∧ s (96 + k) < s 29) ∧ (s (88 + k) = 1 → 0 ≤ s (104 + k) ∧ s (104 + k) < s 36) ∧ inR (s (96 + k)))
  ∧ (∀ k : Nat, (k : Int) < s 33 → (0 ≤ s (112 + k) ∧ s (112 + k) < s 29) ∧ (-999 ≤ s (120 + k) ∧ s (120 + k) ≤ 999))
def Inv (s : Nat → Int) : Prop := InvB s ∧ InvH s ∧ InvN s ∧ InvX s
def f_feed (s : Nat → Int) (x : Int) : AS := if ¬ btw 0 x 127 then (-2, s) else if s 34 = 100 then (-4, s) else (s 34 + 1, upd1 (upd1 s (128 + (s 34).toNat) x) 34 (s 34 + 1))
def f_guest (s : Nat → Int) (m : Int) : AS := if ¬ btw (-99) m 99 then (-2, s) else if s 36 = 4 then (-4, s) else (s 36 + 1 - 1, upd1 (upd1 s (25 + (s 36).toNat) m) 36 (s 36 + 1))
def a_of (s : Nat → Int) (x w : Int) : Int := if ¬ isB s x ∨ ¬ btw 0 w 7 then -10001 else if w = 0 then s (37 + x.toNat) else if w = 1 then s (43 + x.toNat) else if w = 6 then sfS s x.toNat else if w = 7 then syS s x.toNat else s (1 + 6 * (w - 2).toNat + x.toNat)
def f_row (s : Nat → Int) (x k n : Int) : AS := if ¬ isB s x ∨ ¬ btw 0 k 3 then (-1, s) else if ¬ btw 0 n 9 then (-2, s) else if s (37 + x.toNat) ≠ 6 then (-3, s) else (s (49 + 4 * x.toNat + k.toNat), upd1 s (49 + 4 * x.toNat + k.toNat) n)
def f_set (s : Nat → Int) (x w n : Int) : AS := if ¬ isB s x ∨ ¬ btw 0 w 1 then (-1, s) else if ¬ btw 0 n (if w = 0 then 199 else 3) then (-2, s) else (s (7 + 6 * w.toNat + x.toNat), upd1 s (7 + 6 * w.toNat + x.toNat) n)
def a_mood (s : Nat → Int) (g : Int) : Int := if isG s g then s (25 + g.toNat) else -10001
def orL (p : Nat → Bool) : Nat → Int
  | 0 => 0
  | n + 1 => if p n then mBit 6 (orL p n) (mBit 8 1 n) else orL p n
def fuS (s : Nat → Int) : Int := orL (fun b => decide (s (19 + b) = 0)) (s 29).toNat
def a_told (s : Nat → Int) (w : Int) : Int := if w = 0 then s 0 else if w = 1 then tlI s 228 0 else if w = 2 then tlI s 233 5 else if w = 3 then fuS s else if w = 4 then alS s else if w = 5 then amS s else -10001
def brS (s : Nat → Int) (g : Nat) (more : Int) : Nat → Int := upd1 s (25 + g) (clI (s (25 + g) + more) (-99) 99)
def poS (s : Nat → Int) (b g : Nat) : Nat → Int := upd1 (brS s g (syS s b)) (19 + b) 1
def f_pour (s : Nat → Int) (x g : Int) : AS := if ¬ isB s x ∨ ¬ isG s g then (-10001, s) else if s (19 + x.toNat) = 1 then (-10003, s) else (poS s x.toNat g.toNat (25 + g.toNat), poS s x.toNat g.toNat)
def f_both (s : Nat → Int) (x y g : Int) : AS := if ¬ isB s x ∨ ¬ isB s y ∨ ¬ isG s g then (-10001, s) else if x = y then (-10002, s) else if 0 < s (19 + x.toNat) + s (19 + y.toNat) then (-10003, s) else (brS s g.toNat ((syS s x.toNat + syS s y.toNat).tdiv 2) (25 + g.toNat), upd1 (upd1 (brS s g.toNat ((syS s x.toNat + syS s y.toNat).tdiv 2)) (19 + x.toNat) 1) (19 + y.toNat) 1)
def goS (s : Nat → Int) : Nat → Int := fun k => if k = 0 then s 0 + 1 else if 7 ≤ k ∧ k < 7 + (s 29).toNat then (if s (12 + k) = 0 ∧ s k < 199 then s k + 1 else s k) else if 25 ≤ k ∧ k < 25 + (s 36).toNat then nrI (s k) (tlI s 228 0) else s k
def goN (s : Nat → Int) : Nat → Nat → Int
  | 0 => s
  | n + 1 => goS (goN s n)
def f_pass (s : Nat → Int) (n : Int) : AS := if ¬ btw 0 n 60 then (-2, s) else if 9999 < s 0 + n then (-3, s) else (goN s n.toNat 0, goN s n.toNat)
def a_on (s : Nat → Int) (n w : Int) : Int := if ¬ btw 0 w 1 ∧ ¬ isB s (w - 10) ∧ ¬ isG s (w - 20) then -10001 else if ¬ btw 0 n 60 then -10002 else if w = 0 then alS (goN s n.toNat) else if w = 1 then amS (goN s n.toNat) else if w < 20 then syS (goN s n.toNat) (w - 10).toNat else goN s n.toNat (25 + (w - 20).toNat)
def whL (s : Nat → Int) (b : Nat) : Nat → Int × Int
  | 0 => (0, -1000000)
  | n + 1 => if (whL s b n).2 < syS (goN s n) b then ((n : Int), syS (goN s n) b) else whL s b n
def a_when (s : Nat → Int) (x w : Int) : Int := if ¬ isB s x ∨ ¬ btw 0 w 1 then -10001 else if w = 0 then (whL s x.toNat 61).1 else (whL s x.toNat 61).2
def rpF (s : Nat → Int) (b : Nat) (n : Nat) : Nat → Int
  | 0 => -5
  | k + 1 => if 0 ≤ syS (goN s n) b then (n : Int) else rpF s b (n + 1) k
def a_ripe (s : Nat → Int) (x : Int) : Int := if ¬ isB s x then -1 else rpF s x.toNat 0 61
def liL (s : Nat → Int) (b : Nat) : Nat → Int × Int
  | 0 => (0, -1000000)
  | n + 1 => if (liL s b n).2 < syS (upd1 s (13 + b) n) b then ((n : Int), syS (upd1 s (13 + b) n) b) else liL s b n
def a_lies (s : Nat → Int) (x : Int) : Int := if ¬ isB s x then -1 else (liL s x.toNat 4).1
def sgS (s : Nat → Int) (g : Nat → Int) (set : Int) : Nat → Int
  | 0 => 0
  | n + 1 => if mBit 5 (mBit 9 set n) 1 = 1 then sgS s g set n + g n else sgS s g set n
def wdL (s : Nat → Int) (b : Nat) (says : Int) : Nat → Int × Int
  | 0 => (0, -10005)
  | n + 1 => if syS (upd1 s (1 + b) (99 - (n : Int))) b = says then ((wdL s b says n).1 + 1, 99 - (n : Int)) else wdL s b says n
def a_words (s : Nat → Int) (x says w : Int) : Int := if ¬ isB s x ∨ ¬ btw 0 w 1 then -10001 else if ¬ btw (-999) says 999 then -10002 else if w = 0 then (wdL s x.toNat says 199).1 else (wdL s x.toNat says 199).2
def f_see (s : Nat → Int) (x y n : Int) : AS := if x = -1 then (0, upd1 s 31 0) else if ¬ isB s x then (-1, s) else if ¬ btw (-999) y 999 ∨ ¬ btw 0 n 20 then (-2, s) else if s 31 = 5 then (-4, s) else (s 31 + 1, upd1 (upd1 (upd1 (upd1 s (73 + (s 31).toNat) x) (78 + (s 31).toNat) y) (83 + (s 31).toNat) n) 31 (s 31 + 1))
def f_book (s : Nat → Int) (x y : Int) : AS := if x = -1 then (0, upd1 s 33 0) else if ¬ isB s x then (-1, s) else if ¬ btw (-999) y 999 then (-2, s) else if s 33 = 8 then (-4, s) else (s 33 + 1, upd1 (upd1 (upd1 s (112 + (s 33).toNat) x) (120 + (s 33).toNat) y) 33 (s 33 + 1))
def f_evening (s : Nat → Int) (w x g : Int) : AS := if w = -1 then (0, upd1 s 32 0) else if ¬ btw 0 w 3 ∨ (0 < w ∧ ¬ isB s x) ∨ (w = 1 ∧ ¬ isG s g) then (-1, s) else if s 32 = 8 then (-4, s) else (s 32 + 1, upd1 (upd1 (upd1 (upd1 s (88 + (s 32).toNat) w) (96 + (s 32).toNat) x) (104 + (s 32).toNat) g) 32 (s 32 + 1))
def a_count (s : Nat → Int) (ran w : Int) : Int := if w = 6 then ran else if w = 7 then s 36 else if btw 0 w 5 then s (29 + w.toNat) else -1
abbrev isUn (kind k : Int) : Prop := k = 0 ∨ k = kind ∨ (0 < k ∧ k < 4 ∧ kind = k + 3)
def a_as (s : Nat → Int) (x k : Int) : Int := if ¬ isB s x ∨ ¬ btw 0 k 6 then -1 else if isUn (s (37 + x.toNat)) k then s (43 + x.toNat) else -6
