/-! PLACES c over a fixed shape h: frames, and the reference's methods said so -/
theorem mC_wC (h : Hp) (c : Nat → Nat → Int) : mC (wC h c) = c := rfl
def Eqk (P : Nat → Nat → Bool) (c c2 : Nat → Nat → Int) : Prop := ∀ a k, P a k = false → c2 a k = c a k
section EQK
variable {P Q : Nat → Nat → Bool} {c c1 c2 : Nat → Nat → Int} {a b k j : Nat} {x : Int}
theorem Eqk.nil : Eqk P c c := fun _ _ _ => rfl
theorem Eqk.trans (h1 : Eqk P c c1) (h2 : Eqk P c1 c2) : Eqk P c c2 := fun a k e => (h2 a k e).trans (h1 a k e)
theorem Eqk.mono (h : Eqk P c c2) (hs : ∀ a k, Q a k = false → P a k = false) : Eqk Q c c2 := fun a k e => h a k (hs a k e)
theorem Eqk.row (h : Eqk P c c2) (a : Nat) (hP : ∀ k, P a k = false) : c2 a = c a := funext fun k => h a k (hP k)
theorem Eqk.up (h : P a k = true) : Eqk P c (up2 c a k x) := by
  intro b j e
  show (if b = a ∧ j = k then x else c b j) = c b j
  rw [if_neg]
  rintro ⟨rfl, rfl⟩
  rw [h] at e
  cases e
theorem up2_same : up2 c a k x a k = x := if_pos ⟨rfl, rfl⟩
theorem up2_row : up2 c a k x a = upd1 (c a) k x := by
  funext j
  show (if a = a ∧ j = k then x else c a j) = if j = k then x else c a j
  by_cases e : j = k <;> simp [e]
theorem up2_rowS {s : Nat → Int} (hs : c a = s) : up2 c a k x a = upd1 s k x := by rw [up2_row, hs]
theorem up2_oth (e : (b == a) = false) : up2 c a k x b = c b := by
  funext j
  show (if b = a ∧ j = k then x else c b j) = c b j
  rw [if_neg]
  rintro ⟨rfl, -⟩
  simp at e
theorem up2_fld (e : (b == a && j == k) = false) : up2 c a k x b j = c b j := by
  show (if b = a ∧ j = k then x else c b j) = c b j
  rw [if_neg]
  rintro ⟨rfl, rfl⟩
  simp at e
end EQK
theorem upd1_same {f : Nat → Int} {k : Nat} {x : Int} : upd1 f k x k = x := if_pos rfl
theorem upd1_ne {f : Nat → Int} {k j : Nat} {x : Int} (h : j ≠ k) : upd1 f k x j = f j := if_neg h
theorem rdS {h : Hp} {c : Nat → Nat → Int} {q : Nat} {s : Nat → Int} {i : Int} {j : Nat} (hs : c q = s) (e : i.toNat = j) : mC (wC h c) q i.toNat = s j := by rw [mC_wC, hs, e]
theorem fv {t : Nat} {x y : Int} (e : x = y) : ((t, x) : AV) = (t, y) := by rw [e]
/-! a write, its new places named -/
section EG
variable {d : Nat} {sc : Option (Nat × (Nat → Int))} {tb : List ME} {rk pc nx : Nat} {a b : Int} {l : List (Int × Int)} {lv st : List AV} {h : Hp} {c : Nat → Nat → Int} {Q : Option AV → Hp → Prop}
theorem E_iasg {q n j : Nat} {i x : Int} (hat : mAt tb pc = some (nx, 19, a, b, l)) (hq : q < mN h) (hk : mK h q = 20) (hl : mL h q = n) (hi : 0 ≤ i ∧ i < (n : Int) ∧ i < 2147483648) (hij : i.toNat = j) (k : ∀ c2, c2 = up2 c q j x → Ex d sc tb rk nx lv st (wC h c2) Q) : Ex d sc tb rk pc lv ((0, x) :: (0, i) :: (1, (q : Int)) :: st) (wC h c) Q :=
  E_iasj (h := wC h c) hat hq hk hl hi hij (k _ rfl)
theorem E_zasg {q n j : Nat} {i x : Int} (hat : mAt tb pc = some (nx, 21, a, b, l)) (hq : q < mN h) (hk : mK h q = 21) (hl : mL h q = n) (hi : 0 ≤ i ∧ i < (n : Int) ∧ i < 2147483648) (hx : x = 0 ∨ x = 1) (hij : i.toNat = j) (k : ∀ c2, c2 = up2 c q j x → Ex d sc tb rk nx lv st (wC h c2) Q) : Ex d sc tb rk pc lv ((0, x) :: (0, i) :: (1, (q : Int)) :: st) (wC h c) Q :=
  E_zasn (h := wC h c) hat hq hk hl hi hx hij (k _ rfl)
theorem E_putg {q cl : Nat} {t : Nat} {x : Int} (hat : mAt tb pc = some (nx, 17, a, b, l)) (hq : q < mN h) (hk : mK h q = cl) (hc : (Nat.blt cl 13 && mIsa cl b.toNat && Nat.blt a.toNat (mFt cl).length && t == mTag ((mFt cl).getD a.toNat 0) && Nat.blt ((mFt cl).getD a.toNat 0) 3) = true) (k : ∀ c2, c2 = up2 c q a.toNat x → Ex d sc tb rk nx lv st (wC h c2) Q) : Ex d sc tb rk pc lv ((t, x) :: (1, (q : Int)) :: st) (wC h c) Q :=
  E_putf (h := wC h c) hat hq hk hc (k _ rfl)
theorem E_putzg {q cl : Nat} {x : Int} (hat : mAt tb pc = some (nx, 17, a, b, l)) (hq : q < mN h) (hk : mK h q = cl) (hc : (Nat.blt cl 13 && mIsa cl b.toNat && Nat.blt a.toNat (mFt cl).length && 0 == mTag ((mFt cl).getD a.toNat 0)) = true) (hx : x = 0 ∨ x = 1) (k : ∀ c2, c2 = up2 c q a.toNat x → Ex d sc tb rk nx lv st (wC h c2) Q) : Ex d sc tb rk pc lv ((0, x) :: (1, (q : Int)) :: st) (wC h c) Q :=
  E_putz (h := wC h c) hat hq hk hc hx (k _ rfl)
end EG
/-- the reference's constant places -/
def Mc (c : Nat → Nat → Int) : Prop := MC ((0, 0, fun _ => 0, fun _ => 0, c) : Hp)
def cstM (k : Nat) : Bool := k == 1 || k == 2 || k == 3 || k == 10 || k == 11 || k == 12 || k == 13 || k == 14 || k == 16 || k == 17 || k == 19
theorem Mc.c1 {c : Nat → Nat → Int} (hM : Mc c) : c 43 1 = ((44 : Nat) : Int) := MC.c1 hM
theorem Mc.c2 {c : Nat → Nat → Int} (hM : Mc c) : c 43 2 = ((45 : Nat) : Int) := MC.c2 hM
theorem Mc.c3 {c : Nat → Nat → Int} (hM : Mc c) : c 43 3 = ((46 : Nat) : Int) := MC.c3 hM
theorem Mc.c10 {c : Nat → Nat → Int} (hM : Mc c) : c 43 10 = ((47 : Nat) : Int) := MC.c10 hM
theorem Mc.c11 {c : Nat → Nat → Int} (hM : Mc c) : c 43 11 = ((48 : Nat) : Int) := MC.c11 hM
theorem Mc.c12 {c : Nat → Nat → Int} (hM : Mc c) : c 43 12 = ((49 : Nat) : Int) := MC.c12 hM
theorem Mc.c13 {c : Nat → Nat → Int} (hM : Mc c) : c 43 13 = ((50 : Nat) : Int) := MC.c13 hM
theorem Mc.c14 {c : Nat → Nat → Int} (hM : Mc c) : c 43 14 = ((51 : Nat) : Int) := MC.c14 hM
theorem Mc.c16 {c : Nat → Nat → Int} (hM : Mc c) : c 43 16 = ((52 : Nat) : Int) := MC.c16 hM
theorem Mc.c17 {c : Nat → Nat → Int} (hM : Mc c) : c 43 17 = ((53 : Nat) : Int) := MC.c17 hM
theorem Mc.c19 {c : Nat → Nat → Int} (hM : Mc c) : c 43 19 = ((54 : Nat) : Int) := MC.c19 hM
theorem Mc.ofk {c c2 : Nat → Nat → Int} (hM : Mc c) (e : ∀ k, cstM k = true → c2 43 k = c 43 k) : Mc c2 :=
  ⟨(e 1 rfl).trans hM.c1, (e 2 rfl).trans hM.c2, (e 3 rfl).trans hM.c3, (e 10 rfl).trans hM.c10, (e 11 rfl).trans hM.c11, (e 12 rfl).trans hM.c12, (e 13 rfl).trans hM.c13, (e 14 rfl).trans hM.c14, (e 16 rfl).trans hM.c16, (e 17 rfl).trans hM.c17, (e 19 rfl).trans hM.c19⟩
theorem Mc.of {c c2 : Nat → Nat → Int} (hM : Mc c) (e : c2 43 = c 43) : Mc c2 := hM.ofk fun k _ => by rw [e]
theorem Mc.upo {c : Nat → Nat → Int} (hM : Mc c) {a k : Nat} {x : Int} (e : (43 == a) = false) : Mc (up2 c a k x) := hM.of (up2_oth e)
theorem Mc.up43 {c : Nat → Nat → Int} (hM : Mc c) {k : Nat} {x : Int} (e : cstM k = false) : Mc (up2 c 43 k x) := hM.ofk fun j hj => by
  refine up2_fld ?_
  by_cases h : j = k
  · subst h
    rw [hj] at e
    cases e
  · simp [h]
/-- what may change: the scratch rows of looks; these and s; all scratch; the frame too -/
def P47 (a _k : Nat) : Bool := a == 47 || a == 48
def P44 (a _k : Nat) : Bool := a == 44 || (a == 47 || a == 48)
def P46 (a _k : Nat) : Bool := a == 46
def PQ (a k : Nat) : Bool := a == 46 || (a == 47 || (a == 48 || (a == 49 || (a == 50 || (a == 51 || (a == 52 || (a == 53 || (a == 43 && (k == 0 || k == 5 || k == 6 || k == 7 || k == 8 || k == 9 || k == 15 || k == 18 || k == 21 || k == 22 || k == 23)))))))))
def PS (a k : Nat) : Bool := a == 44 || PQ a k
theorem P47_P47 : ∀ a k, P47 a k = false → P47 a k = false := fun _ _ h => h
theorem P47_P44 : ∀ a k, P44 a k = false → P47 a k = false := by
  intro a k h
  simp only [P44, P47, Bool.or_eq_false_iff] at h ⊢
  exact h.2
theorem P47_PQ : ∀ a k, PQ a k = false → P47 a k = false := by
  intro a k h
  simp only [PQ, P47, Bool.or_eq_false_iff] at h ⊢
  exact ⟨h.2.1, h.2.2.1⟩
theorem P46_PQ : ∀ a k, PQ a k = false → P46 a k = false := by
  intro a k h
  simp only [PQ, P46, Bool.or_eq_false_iff] at h ⊢
  exact h.1
theorem PQ_PS : ∀ a k, PS a k = false → PQ a k = false := by
  intro a k h
  simp only [PS, Bool.or_eq_false_iff] at h
  exact h.2
theorem P47_PS : ∀ a k, PS a k = false → P47 a k = false := fun a k h => P47_PQ a k (PQ_PS a k h)
theorem P46_PS : ∀ a k, PS a k = false → P46 a k = false := fun a k h => P46_PQ a k (PQ_PS a k h)
theorem P44_PS : ∀ a k, PS a k = false → P44 a k = false := by
  intro a k h
  have h2 := P47_PS a k h
  simp only [PS, P44, P47, Bool.or_eq_false_iff] at h h2 ⊢
  exact ⟨h.1, h2⟩
/-- s changed and set back -/
theorem Eqk.PQ_of {c c2 : Nat → Nat → Int} (h : Eqk PS c c2) (e : c2 44 = c 44) : Eqk PQ c c2 := by
  intro a k hp
  by_cases ha : a = 44
  · subst ha
    rw [e]
  · refine h a k ?_
    unfold PS
    rw [hp]
    simp [ha]
section NEWM
variable {d : Nat} {h : Hp} {c : Nat → Nat → Int} {s : Nat → Int}
theorem n_isBottle (hL : Lay h) (hM : Mc c) (hs : c 44 = s) {x : Int} (h1 : inR x) (hb : 0 ≤ s 29 ∧ s 29 ≤ 100) : Ok (d + 1) 143 [(1, ((43 : Nat) : Int)), (0, x)] (wC h c) (fun r h2 => r = some (0, bI (0 ≤ x ∧ x < s 29)) ∧ h2 = wC h c) := by
  subst hs
  exact m_isBottle (h := wC h c) hL hM h1 hb
theorem n_isGuest (hL : Lay h) (hM : Mc c) (hs : c 44 = s) {x : Int} (h1 : inR x) (hb : 0 ≤ s 36 ∧ s 36 ≤ 100) : Ok (d + 1) 144 [(1, ((43 : Nat) : Int)), (0, x)] (wC h c) (fun r h2 => r = some (0, bI (0 ≤ x ∧ x < s 36)) ∧ h2 = wC h c) := by
  subst hs
  exact m_isGuest (h := wC h c) hL hM h1 hb
theorem n_tellsOf (hL : Lay h) (hM : Mc c) (hs : c 44 = s) {w no : Int} (hw : 228 ≤ w ∧ w ≤ 238) (hH : InvH s) : Ok (d) 164 [(1, ((43 : Nat) : Int)), (0, w), (0, no)] (wC h c) (fun r h2 => r = some (0, tlI s w no) ∧ h2 = wC h c) := by
  subst hs
  exact m_tellsOf (h := wC h c) hL hM hw hH.h35
theorem n_keeps (hL : Lay h) (hM : Mc c) (hs : c 44 = s) : Ok (d) 147 [(1, ((43 : Nat) : Int))] (wC h c) (fun r h2 => r = none ∧ ∃ c2, h2 = wC h c2 ∧ (∀ k, k < 29 → c2 46 k = s k) ∧ Eqk P46 c c2) := by
  subst hs
  refine (m_keeps (h := wC h c) hL hM).mono ?_
  rintro r hE ⟨h1, G, rfl, h3, -⟩
  refine ⟨h1, fun b j => if b = 46 then G j else c b j, rfl, fun k hk => (if_pos rfl).trans (h3 k hk), fun a k e => if_neg fun q => ?_⟩
  subst q
  cases e
theorem n_goesBack (hL : Lay h) (hM : Mc c) (hs : c 44 = s) {s0 : Nat → Int} (h46 : ∀ k, k < 29 → c 46 k = s0 k) (hk : ∀ k, 29 ≤ k → s k = s0 k) : Ok (d) 148 [(1, ((43 : Nat) : Int))] (wC h c) (fun r h2 => r = none ∧ ∃ c2, h2 = wC h c2 ∧ c2 44 = s0 ∧ Eqk P44 c c2) := by
  subst hs
  refine (m_goesBack (h := wC h c) hL hM).mono ?_
  rintro r hE ⟨h1, G, rfl, h3, h4⟩
  refine ⟨h1, fun b j => if b = 44 then G j else c b j, rfl, ?_, fun a k e => if_neg fun q => ?_⟩
  · funext k
    show G k = s0 k
    by_cases hc : k < 29
    · rw [h3 k hc]; exact h46 k hc
    · rw [h4 k (by omega)]; exact hk k (by omega)
  · subst q
    cases e
theorem n_softOf (hL : Lay h) (hM : Mc c) (hs : c 44 = s) {b : Nat} (hb : b < 6) (hI : InvB s) (hH : InvH s) : Ok (d + 2) 166 [(1, ((43 : Nat) : Int)), (0, (b : Int))] (wC h c) (fun r h2 => r = some (0, sfS s b) ∧ ∃ c2, h2 = wC h c2 ∧ Eqk P47 c c2) := by
  subst hs
  refine (m_softOf (h := wC h c) hL hM hb hI hH).mono ?_
  rintro r hE ⟨h1, f, g, rfl⟩
  refine ⟨h1, fun b j => if b = 48 then g j else if b = 47 then f j else c b j, rfl, fun a k e => ?_⟩
  simp only [P47, Bool.or_eq_false_iff, beq_eq_false_iff_ne] at e
  show (if a = 48 then g k else if a = 47 then f k else c a k) = c a k
  rw [if_neg e.2, if_neg e.1]
theorem n_saysOf (hL : Lay h) (hM : Mc c) (hs : c 44 = s) {b : Nat} (hb : b < 6) (hI : InvB s) (hH : InvH s) : Ok (d + 3) 167 [(1, ((43 : Nat) : Int)), (0, (b : Int))] (wC h c) (fun r h2 => r = some (0, syS s b) ∧ ∃ c2, h2 = wC h c2 ∧ Eqk P47 c c2) := by
  subst hs
  refine (m_saysOf (h := wC h c) hL hM hb hI hH).mono ?_
  rintro r hE ⟨h1, f, g, rfl⟩
  refine ⟨h1, fun b j => if b = 48 then g j else if b = 47 then f j else c b j, rfl, fun a k e => ?_⟩
  simp only [P47, Bool.or_eq_false_iff, beq_eq_false_iff_ne] at e
  show (if a = 48 then g k else if a = 47 then f k else c a k) = c a k
  rw [if_neg e.2, if_neg e.1]
end NEWM
/-- what a bottle SAYS stays small -/
theorem syS_in {s : Nat → Int} {b : Nat} (hb : b < 6) (hI : InvB s) (hH : InvH s) : -108 ≤ syS s b ∧ syS s b ≤ 108 := by
  obtain ⟨i1, i2, i3, i4, i5, i6, i7⟩ := hI b hb
  have hsf := sfS_in hb hI hH
  have e1 : (sfS s b).tdiv 2 = sfS s b / 2 := Int.tdiv_eq_ediv_of_nonneg hsf.1
  have n1 := nrI_in (v := s (1 + b)) (y := sfS s b) (by omega) (by omega)
  have n2 := nrI_in (v := s (1 + b)) (y := (sfS s b).tdiv 2) (by omega) (by omega)
  have n3 := nrI_in (v := s (1 + b)) (y := 2 * sfS s b) (by omega) (by omega)
  have i8 := i7 (s (13 + b)).toNat (by omega)
  unfold syS sayK
  generalize nrI (s (1 + b)) (sfS s b) = y1 at *
  generalize nrI (s (1 + b)) ((sfS s b).tdiv 2) = y2 at *
  generalize nrI (s (1 + b)) (2 * sfS s b) = y3 at *
  repeat' split
  all_goals omega
/-- further ranges that always hold -/
def InvN (s : Nat → Int) : Prop := ((0 ≤ s 29 ∧ s 29 ≤ 6) ∧ (0 ≤ s 30 ∧ s 30 ≤ 5) ∧ (0 ≤ s 31 ∧ s 31 ≤ 5) ∧ (0 ≤ s 32 ∧ s 32 ≤ 8) ∧ (0 ≤ s 33 ∧ s 33 ≤ 8) ∧ (0 ≤ s 34 ∧ s 34 ≤ 100) ∧ (0 ≤ s 36 ∧ s 36 ≤ 4)) ∧ ∀ k : Nat, k < 4 → -99 ≤ s (25 + k) ∧ s (25 + k) ≤ 99
def sm (g : Nat → Int) : Nat → Int
  | 0 => 0
  | n + 1 => sm g n + g n
def alS (s : Nat → Int) : Int := sm (fun b => if s (19 + b) = 0 then syS s b else 0) (s 29).toNat
def amS (s : Nat → Int) : Int := sm (fun b => s (25 + b)) (s 36).toNat
