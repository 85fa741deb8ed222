/-! WHAT A STATE TELLS AT EVERY CALL goes on telling; runs only grow the heap -/
theorem xFw_ok : ∀ q ∈ xFw, q.1.cls ≠ "java/lang/invoke/MethodHandle" ∧ q.1.cls ≠ "java/lang/invoke/VarHandle" := by decide +kernel
theorem xN.warm {z : Nat} {ex : Int → Nat} {aV : Nat → Nat} {s U : State} (hW : s.WarmedH U.vm) (hH : ∀ a : Nat, a < s.heap.size → ¬ xA z a → U.heap[a]? = s.heap[a]?) (h : xN z ex aV s) : xN z ex aV U := by
  obtain ⟨h1, h2, h3, h4, h5, h6, h7, h8, h9, h10, h11⟩ := h
  have hA := hW.alike
  exact ⟨fun q hq => va_Nw.warmM hW (h1 q hq), fun q hq => va_Nw.warmC hW (h2 q hq), fun q hq => va_Fw.moved (xFw_ok q hq) hA (h3 q hq), fun q hq => va_Nw.warmD hW (h4 q hq), va_AO.moved hA h5,
    (va_Z.moved hA h6).kept hH, (va_T.moved hA h7).kept hH, fun q hq => vk_R.warm hW (h8 q hq), (xStr.moved hA h9).kept hH, (va_Z.moved hA h10).kept hH, (va_Zq.moved hA h11).kept hH⟩
theorem mStep_mono {sc : Option (Nat × (Nat → Int))} {op nx pc' : Nat} {a b : Int} {l : List (Int × Int)} {lv st lv' st' : List AV} {h h' : Hp} (hs : mStep sc op a b l nx lv st h = some (pc', lv', st', h')) : mN h ≤ mN h' ∧ mS h ≤ mS h' := by
  unfold mStep at hs
  split at hs
  all_goals (repeat' (split at hs))
  all_goals first
    | (cases hs; done)
    | (simp only [Option.some.injEq, Prod.mk.injEq] at hs
       obtain ⟨-, -, -, rfl⟩ := hs
       first | exact ⟨Nat.le_refl _, Nat.le_refl _⟩ | exact ⟨Nat.le_succ _, Nat.le_add_right _ _⟩)
theorem mRun_mono {mt : MT} {vt : Nat → List (Nat × Nat)} {txt : Nat → List Nat} : ∀ (f d : Nat) (sc : Option (Nat × (Nat → Int))) (tb : List ME) (rk pc : Nat) (lv st : List AV) (h : Hp) (r : Option AV) (hE : Hp), mRun mt vt txt f d sc tb rk pc lv st h = some (r, hE) → mN h ≤ mN hE ∧ mS h ≤ mS hE := by
  intro f
  induction f with
  | zero => intro d sc tb rk pc lv st h r hE e; cases e
  | succ f ih =>
    intro d sc tb rk pc lv st h r hE e
    have e : mBody mt vt txt (mRun mt vt txt f) d sc tb rk pc lv st h = some (r, hE) := e
    unfold mBody at e
    cases hat : mAt tb pc with
    | none => rw [hat] at e; cases e
    | some en =>
      obtain ⟨nx, op, a, b, l⟩ := en
      rw [hat] at e
      simp only at e
      by_cases hop : op < 50
      · rw [if_pos hop] at e
        cases hs : mStep sc op a b l nx lv st h with
        | none => rw [hs] at e; cases e
        | some q =>
          obtain ⟨pc', lv', st', h'⟩ := q
          rw [hs] at e
          have h1 := mStep_mono hs
          have h2 := ih _ _ _ _ _ _ _ _ _ _ e
          exact ⟨Nat.le_trans h1.1 h2.1, Nat.le_trans h1.2 h2.2⟩
      · rw [if_neg hop] at e
        cases hr : mRet op rk st with
        | some q =>
          rw [hr] at e
          cases e
          exact ⟨Nat.le_refl _, Nat.le_refl _⟩
        | none =>
          rw [hr] at e
          cases d with
          | zero => cases e
          | succ d =>
            simp only at e
            cases ht : mTgt mt vt op a.toNat b.toNat st h with
            | some q =>
              obtain ⟨y, n⟩ := q
              rw [ht] at e
              simp only at e
              cases hc : mRun mt vt txt f d none (mt y).1 (mt y).2.2.2 0 (mEnt (mt y).2.1 (st.take n).reverse) [] h with
              | none => rw [hc] at e; cases e
              | some q =>
                obtain ⟨r1, h1⟩ := q
                rw [hc] at e
                have g1 := ih _ _ _ _ _ _ _ _ _ _ hc
                have g2 := ih _ _ _ _ _ _ _ _ _ _ e
                exact ⟨Nat.le_trans g1.1 g2.1, Nat.le_trans g1.2 g2.2⟩
            | none =>
              rw [ht] at e
              simp only at e
              cases hp : mPri txt op a.toNat b.toNat st h with
              | none => rw [hp] at e; cases e
              | some st' =>
                rw [hp] at e
                exact ih _ _ _ _ _ _ _ _ _ _ e
