/-! THE SMALL MACHINE'S RULES: from here on nothing speaks of the JVM -/
theorem mBody_mono {f : MR} {g : MR} (hfg : ∀ d sc tb rk pc lv st h r, f d sc tb rk pc lv st h = some r → g d sc tb rk pc lv st h = some r) {d : Nat} {sc : Option (Nat × (Nat → Int))} {tb : List ME} {rk pc : Nat} {lv st : List AV} {h : Hp} {r : Option AV × Hp} (e : mBody mt vt txt f d sc tb rk pc lv st h = some r) : mBody mt vt txt g d sc tb rk pc lv st h = some r := by
  unfold mBody at e ⊢
  cases hat : mAt tb pc with
  | none => rw [hat] at e; cases e
  | some en =>
    obtain ⟨nx, op, a, b, l⟩ := en
    rw [hat] at e
    simp only at e ⊢
    by_cases hop : op < 50
    · rw [if_pos hop] at e ⊢
      cases hs : mStep sc op a b l nx lv st h with
      | none => rw [hs] at e; cases e
      | some q =>
        rw [hs] at e
        exact hfg _ _ _ _ _ _ _ _ _ e
    · rw [if_neg hop] at e ⊢
      cases hr : mRet op rk st with
      | some q => rw [hr] at e; exact e
      | none =>
        rw [hr] at e
        cases d with
        | zero => cases e
        | succ d =>
          simp only at e ⊢
          cases ht : mTgt mt vt op a.toNat b.toNat st h with
          | some q =>
            obtain ⟨y, n⟩ := q
            rw [ht] at e
            simp only at e ⊢
            cases hc : f d none (mt y).1 (mt y).2.2.2 0 (mEnt (mt y).2.1 (st.take n).reverse) [] h with
            | none => rw [hc] at e; cases e
            | some q =>
              rw [hc] at e
              rw [hfg _ _ _ _ _ _ _ _ _ hc]
              exact hfg _ _ _ _ _ _ _ _ _ e
          | none =>
            rw [ht] at e
            simp only at e ⊢
            cases hp : mPri txt op a.toNat b.toNat st h with
            | none => rw [hp] at e; cases e
            | some st' =>
              rw [hp] at e
              exact hfg _ _ _ _ _ _ _ _ _ e
theorem mRun_succ (f : Nat) : ∀ d sc tb rk pc lv st h r, mRun mt vt txt f d sc tb rk pc lv st h = some r → mRun mt vt txt (f + 1) d sc tb rk pc lv st h = some r := by
  induction f with
  | zero => intro d sc tb rk pc lv st h r e; cases e
  | succ f ih =>
    intro d sc tb rk pc lv st h r e
    exact mBody_mono ih e
theorem mRun_le {f g : Nat} (hfg : f ≤ g) {d : Nat} {sc : Option (Nat × (Nat → Int))} {tb : List ME} {rk pc : Nat} {lv st : List AV} {h : Hp} {r : Option AV × Hp} (e : mRun mt vt txt f d sc tb rk pc lv st h = some r) : mRun mt vt txt g d sc tb rk pc lv st h = some r := by
  induction hfg with
  | refl => exact e
  | step _ ih => exact mRun_succ _ _ _ _ _ _ _ _ _ _ ih
/-- from here it comes to an end with Q -/
def Ex (d : Nat) (sc : Option (Nat × (Nat → Int))) (tb : List ME) (rk pc : Nat) (lv st : List AV) (h : Hp) (Q : Option AV → Hp → Prop) : Prop := ∃ f r hE, mRun mt vt txt f d sc tb rk pc lv st h = some (r, hE) ∧ Q r hE
/-- method y at arguments as answers with Q -/
def Ok (d y : Nat) (as : List AV) (h : Hp) (Q : Option AV → Hp → Prop) : Prop := Ex d none (mt y).1 (mt y).2.2.2 0 (mEnt (mt y).2.1 as) [] h Q
section EX
variable {d : Nat} {sc : Option (Nat × (Nat → Int))} {tb : List ME} {rk pc nx op : Nat} {a b : Int} {l : List (Int × Int)} {lv st : List AV} {h : Hp} {Q : Option AV → Hp → Prop}
theorem Ex.mono {Q' : Option AV → Hp → Prop} (k : Ex d sc tb rk pc lv st h Q) (hq : ∀ r hE, Q r hE → Q' r hE) : Ex d sc tb rk pc lv st h Q' := by
  obtain ⟨f, r, hE, e, q⟩ := k
  exact ⟨f, r, hE, e, hq _ _ q⟩
theorem Ex.step {pc' : Nat} {lv' st' : List AV} {h' : Hp} (hat : mAt tb pc = some (nx, op, a, b, l)) (hop : Nat.blt op 50 = true) (hs : mStep sc op a b l nx lv st h = some (pc', lv', st', h')) (k : Ex d sc tb rk pc' lv' st' h' Q) : Ex d sc tb rk pc lv st h Q := by
  obtain ⟨f, r, hE, e, q⟩ := k
  refine ⟨f + 1, r, hE, ?_, q⟩
  show mBody mt vt txt (mRun mt vt txt f) d sc tb rk pc lv st h = _
  unfold mBody
  rw [hat]
  simp only
  rw [if_pos (Nat.lt_of_lt_of_le (Nat.lt_of_succ_le (Nat.le_of_ble_eq_true hop)) (Nat.le_refl _)), hs]
  exact e
theorem Ex.ret {r : Option AV} (hat : mAt tb pc = some (nx, op, a, b, l)) (hop : Nat.blt op 50 = false) (hr : mRet op rk st = some r) (k : Q r h) : Ex d sc tb rk pc lv st h Q := by
  refine ⟨1, r, h, ?_, k⟩
  show mBody mt vt txt (mRun mt vt txt 0) d sc tb rk pc lv st h = _
  unfold mBody
  rw [hat]
  simp only
  have hn : ¬ op < 50 := fun g => by
    have : Nat.ble (op + 1) 50 = true := Nat.ble_eq_true_of_le g
    have h2 : Nat.blt op 50 = Nat.ble (op + 1) 50 := rfl
    rw [h2, this] at hop
    cases hop
  rw [if_neg hn, hr]
theorem Ex.call {y n : Nat} {Qc : Option AV → Hp → Prop} (hat : mAt tb pc = some (nx, op, a, b, l)) (hop : Nat.blt op 50 = false) (hr : mRet op rk st = none) (ht : mTgt mt vt op a.toNat b.toNat st h = some (y, n)) (k : Ok d y (st.take n).reverse h Qc) (kk : ∀ r h', Qc r h' → Ex (d + 1) sc tb rk nx lv (r.toList ++ st.drop n) h' Q) : Ex (d + 1) sc tb rk pc lv st h Q := by
  obtain ⟨f, r1, h1, e1, q1⟩ := k
  obtain ⟨g, r, hE, e, q⟩ := kk r1 h1 q1
  refine ⟨max f g + 1, r, hE, ?_, q⟩
  show mBody mt vt txt (mRun mt vt txt (max f g)) (d + 1) sc tb rk pc lv st h = _
  unfold mBody
  rw [hat]
  simp only
  have hn : ¬ op < 50 := fun g => by
    have : Nat.ble (op + 1) 50 = true := Nat.ble_eq_true_of_le g
    have h2 : Nat.blt op 50 = Nat.ble (op + 1) 50 := rfl
    rw [h2, this] at hop
    cases hop
  rw [if_neg hn, hr]
  simp only
  rw [ht]
  simp only
  rw [mRun_le (Nat.le_max_left f g) e1]
  exact mRun_le (Nat.le_max_right f g) e
theorem Ex.pri {st' : List AV} (hat : mAt tb pc = some (nx, op, a, b, l)) (hop : Nat.blt op 50 = false) (hr : mRet op rk st = none) (ht : mTgt mt vt op a.toNat b.toNat st h = none) (hp : mPri txt op a.toNat b.toNat st h = some st') (k : Ex (d + 1) sc tb rk nx lv st' h Q) : Ex (d + 1) sc tb rk pc lv st h Q := by
  obtain ⟨f, r, hE, e, q⟩ := k
  refine ⟨f + 1, r, hE, ?_, q⟩
  show mBody mt vt txt (mRun mt vt txt f) (d + 1) sc tb rk pc lv st h = _
  unfold mBody
  rw [hat]
  simp only
  have hn : ¬ op < 50 := fun g => by
    have : Nat.ble (op + 1) 50 = true := Nat.ble_eq_true_of_le g
    have h2 : Nat.blt op 50 = Nat.ble (op + 1) 50 := rfl
    rw [h2, this] at hop
    cases hop
  rw [if_neg hn, hr]
  simp only
  rw [ht]
  simp only
  rw [hp]
  exact e
end EX
