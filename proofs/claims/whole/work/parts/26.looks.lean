/-! looks: the steps of the cellar that holds, over the truths -/
def TR (g : Nat → Int) : List Bool → Prop
  | [] => True
  | t :: r => g r.length = (if t then 1 else 0) ∧ TR g r
theorem TR_upd {g : Nat → Int} {n : Nat} {x : Int} : ∀ r : List Bool, r.length ≤ n → TR g r → TR (upd1 g n x) r := by
  intro r
  induction r with
  | nil => intro _ _; trivial
  | cons t r ih =>
    intro h1 h2
    refine ⟨?_, ih (by simp at h1; omega) h2.2⟩
    unfold upd1
    rw [if_neg (by simp at h1; omega)]
    exact h2.1
theorem mPut_scr48 (h : Hp) (f g : Nat → Int) (k : Nat) (x : Int) : mPut (scr h f g) 48 k x = scr h f (upd1 g k x) := by
  unfold scr
  rw [mPut_setC, mC_setC, setC_setC]
theorem mPut_scr47 (h : Hp) (f g : Nat → Int) (k : Nat) (x : Int) : mPut (scr h f g) 47 k x = scr h (upd1 f k x) g := by
  refine Prod.ext rfl (Prod.ext rfl (Prod.ext rfl (Prod.ext rfl ?_)))
  funext b j
  show (if b = 47 ∧ j = k then x else if b = 48 then g j else if b = 47 then f j else mC h b j) = if b = 48 then g j else if b = 47 then (if j = k then x else f j) else mC h b j
  by_cases h7 : b = 47
  · subst h7
    by_cases hj : j = k <;> simp [hj]
  · simp [h7]
theorem dp_none (l : List Int) : l.foldl dpS none = none := by
  induction l with
  | nil => rfl
  | cons x l ih => exact ih
/-- a step of the row: one of four -/
theorem dp_cases {x : Int} {l : List Int} {n : Nat} (h : ((x :: l).foldl dpS (some n)).isSome = true) : (0 ≤ x ∧ x < 3200 ∧ x.tmod 8 < 6 ∧ n < 60 ∧ (l.foldl dpS (some (n + 1))).isSome = true) ∨ (x = -1 ∧ 1 ≤ n ∧ (l.foldl dpS (some n)).isSome = true) ∨ ((x = -2 ∨ x = -3) ∧ 2 ≤ n ∧ (l.foldl dpS (some (n - 1))).isSome = true) ∨ (x ≤ -10 ∧ n = 1 ∧ -300 < x ∧ (x ≤ -200 ∨ -110 < x) ∧ (l.foldl dpS (some 0)).isSome = true) := by
  rw [List.foldl_cons] at h
  unfold dpS at h
  simp only at h
  by_cases h0 : 0 ≤ x
  · rw [if_pos h0] at h
    by_cases hc : x < 3200 ∧ x.tmod 8 < 6 ∧ n < 60
    · rw [if_pos hc] at h
      exact Or.inl ⟨h0, hc.1, hc.2.1, hc.2.2, h⟩
    · rw [if_neg hc] at h
      have := dp_none l
      unfold dpS at this
      rw [this] at h
      cases h
  · rw [if_neg h0] at h
    by_cases h1 : x = -1
    · rw [if_pos h1] at h
      by_cases hc : 1 ≤ n
      · rw [if_pos hc] at h
        exact Or.inr (Or.inl ⟨h1, hc, h⟩)
      · rw [if_neg hc] at h
        have := dp_none l
        unfold dpS at this
        rw [this] at h
        cases h
    · rw [if_neg h1] at h
      by_cases h2 : -10 < x
      · rw [if_pos h2] at h
        by_cases hc : 2 ≤ n ∧ (x = -2 ∨ x = -3)
        · rw [if_pos hc] at h
          exact Or.inr (Or.inr (Or.inl ⟨hc.2, hc.1, h⟩))
        · rw [if_neg hc] at h
          have := dp_none l
          unfold dpS at this
          rw [this] at h
          cases h
      · rw [if_neg h2] at h
        by_cases hc : n = 1 ∧ -300 < x ∧ (x ≤ -200 ∨ -110 < x)
        · rw [if_pos hc] at h
          exact Or.inr (Or.inr (Or.inr ⟨by omega, hc.1, hc.2.1, hc.2.2, h⟩))
        · rw [if_neg hc] at h
          have := dp_none l
          unfold dpS at this
          rw [this] at h
          cases h
/-- what the sum may come to -/
theorem lk_in {e : Nat → Int} : ∀ (l : List Int) (st : List Bool) (sum : Int), (l.foldl dpS (some st.length)).isSome = true → sum - 100 * l.length ≤ (l.foldl (evS e) (st, sum)).2 ∧ (l.foldl (evS e) (st, sum)).2 ≤ sum + 100 * l.length := by
  intro l
  induction l with
  | nil => intro st sum _; exact ⟨by simp, by simp⟩
  | cons x l ih =>
    intro st sum h
    rw [List.foldl_cons, List.length_cons]
    rcases dp_cases h with ⟨h0, h1, h2, h3, h4⟩ | ⟨rfl, h1, h4⟩ | ⟨h0, h1, h4⟩ | ⟨h0, h1, h2, h3, h4⟩
    · have e1 : evS e (st, sum) x = (tstK e x :: st, sum) := by unfold evS; rw [if_pos h0]
      rw [e1]
      have := ih (tstK e x :: st) sum h4
      omega
    · match st, h1 with
      | t :: r, _ =>
        have := ih ((!t) :: r) sum h4
        have e1 : evS e (t :: r, sum) (-1) = ((!t) :: r, sum) := rfl
        rw [e1]
        omega
    · match st, h1 with
      | t :: u :: r, _ =>
        have e1 : evS e (t :: u :: r, sum) x = ((if x = -2 then u && t else u || t) :: r, sum) := by
          unfold evS
          rw [if_neg (by omega), if_neg (by omega), if_pos (by omega)]
        rw [e1]
        have := ih ((if x = -2 then u && t else u || t) :: r) sum h4
        omega
    · match st, h1 with
      | [t], _ =>
        have e1 : evS e ([t], sum) x = ([], sum + (if t then (if -200 < x then -10 - x else 200 + x) else 0)) := by
          unfold evS
          rw [if_neg (by omega), if_neg (by omega), if_neg (by omega)]
          rfl
        rw [e1]
        have := ih [] (sum + (if t then (if -200 < x then -10 - x else 200 + x) else 0)) h4
        have h5 : -100 ≤ (if t then (if -200 < x then -10 - x else 200 + x) else 0) ∧ (if t then (if -200 < x then -10 - x else 200 + x) else 0) ≤ 100 := by
          split
          · split <;> omega
          · omega
        omega

set_option maxHeartbeats 4000000 in
set_option maxRecDepth 100000 in
theorem m_looks_loop {d : Nat} {h : Hp} (hL : Lay h) (hM : MC h) {e f : Nat → Int} {b many from_ : Int} (hf : ∀ k, k < 6 → f k = e k) (he : ∀ k, k < 6 → -1000 ≤ e k ∧ e k ≤ 1000) (hfr : 0 ≤ from_ ∧ from_ + many ≤ 943) (hmn : 0 ≤ many ∧ many ≤ 140) : ∀ (l : List Int) (i : Int), 0 ≤ i ∧ from_ ≤ i ∧ i + l.length = from_ + many → (∀ j : Nat, (hj : j < l.length) → mC h 44 (i + (j : Int)).toNat = l[j]) → ∀ (st : List Bool) (sum : Int) (g : Nat → Int) (v7 v8 v9 v10 : AV), TR g st → (l.foldl dpS (some st.length)).isSome = true → ∀ top : Int, top = st.length → st.length ≤ 60 →
    Ex d none t_X11_looks 0 125 [(1, ((43 : Nat) : Int)), (0, b), (0, sum), (0, many), (0, from_), (0, top), (0, i), v7, v8, v9, v10] [] (scr h f g) (fun r h2 => r = some (0, (l.foldl (evS e) (st, sum)).2) ∧ ∃ g', h2 = scr h f g') := by
  intro l
  induction l with
  | nil =>
    intro i hi hs st sum g v7 v8 v9 v10 hT hD top ht hS
    simp only [List.length_nil] at hi
    refine E_load rfl rfl rfl ?_
    refine E_load rfl rfl rfl ?_
    refine E_load rfl rfl rfl ?_
    refine E_add rfl ?_
    refine E_cmp3 rfl (by omega) (fun c1 => ?_) (fun c1 => ?_)
    · refine E_load rfl rfl rfl ?_
      refine E_iret rfl (fun h => absurd h (by decide)) ?_
      exact ⟨rfl, g, rfl⟩
    · exfalso; omega
  | cons x l ih =>
    intro i hi hs st sum g v7 v8 v9 v10 hT hD top ht hS
    simp only [List.length_cons, Int.natCast_add, Int.natCast_one] at hi
    have hx : mC h 44 i.toNat = x := by have := hs 0 (by simp); simpa using this
    have hs' : ∀ j : Nat, (hj : j < l.length) → mC h 44 (i + 1 + (j : Int)).toNat = l[j] := fun j hj => by
      have := hs (j + 1) (by simp; omega)
      rw [show i + 1 + (j : Int) = i + ((j + 1 : Nat) : Int) by omega]
      simpa using this
    have hi' : 0 ≤ i + 1 ∧ from_ ≤ i + 1 ∧ i + 1 + l.length = from_ + many := by omega
    rw [List.foldl_cons]
    rcases dp_cases hD with ⟨h0, h1, h2, h3, h4⟩ | ⟨rfl, h1, h4⟩ | ⟨h0, h1, h4⟩ | ⟨h0, h1, h2, h3, h4⟩
    · have e1 : evS e (st, sum) x = (tstK e x :: st, sum) := by unfold evS; rw [if_pos h0]
      have q1 : x.tmod 8 = x % 8 := Int.tmod_eq_emod_of_nonneg h0
      have q2 : x.tdiv 8 = x / 8 := Int.tdiv_eq_ediv_of_nonneg h0
      have q3 : (x.tdiv 8).tmod 4 = x / 8 % 4 := by rw [q2]; exact Int.tmod_eq_emod_of_nonneg (by omega)
      have q4 : x.tdiv 32 = x / 32 := Int.tdiv_eq_ediv_of_nonneg h0
      have q5 := he (x.tmod 8).toNat (by omega)
      have hjt : top.toNat = st.length := by omega
      have go : ∀ (y : Int) (t : Bool) (v8 v9 v10 : AV), y = (if t then 1 else 0) → t = tstK e x → Ex d none t_X11_looks 0 125 [(1, ((43 : Nat) : Int)), (0, b), (0, sum), (0, many), (0, from_), (0, top + 1), (0, i + 1), (0, x), v8, v9, v10] [] (mPut (scr h f g) 48 st.length y) (fun r h2 => r = some (0, (l.foldl (evS e) (evS e (st, sum) x)).2) ∧ ∃ g', h2 = scr h f g') := by
        intro y t v8 v9 v10 hy htt
        rw [mPut_scr48, e1]
        have hTR : TR (upd1 g st.length y) (tstK e x :: st) := by
          show upd1 g st.length y st.length = _ ∧ _
          refine ⟨?_, TR_upd st (Nat.le_refl _) hT⟩
          unfold upd1
          rw [if_pos rfl, hy, htt]
        exact ih (i + 1) hi' hs' _ _ _ _ _ _ _ hTR h4 (top + 1) (by simp; omega) (by simp; omega)
      refine E_load rfl rfl rfl ?_
      refine E_load rfl rfl rfl ?_
      refine E_load rfl rfl rfl ?_
      refine E_add rfl ?_
      refine E_cmp3 rfl (by omega) (fun c1 => ?_) (fun c1 => ?_)
      · exfalso; omega
      · refine E_load rfl rfl rfl ?_
        refine E_getr (c := 12) (r := 44) rfl (hL.lt 43 rfl) (hL.k 43 rfl) rfl (hM.c1) ?_
        refine E_load rfl rfl rfl ?_
        refine E_ialn (n := 943) (v := x) rfl (hL.lt 44 rfl) (hL.k 44 rfl) (hL.l 44 rfl) (by omega) (hx) ?_
        refine E_store rfl rfl rfl ?_
        refine E_load rfl rfl rfl ?_
        refine E_if2 rfl (by omega) (fun c2 => ?_) (fun c2 => ?_)
        · exfalso; omega
        · refine E_load rfl rfl rfl ?_
          refine E_getr (c := 12) (r := 47) rfl (hL.lt 43 rfl) (hL.k 43 rfl) rfl (hM.c10) ?_
          refine E_load rfl rfl rfl ?_
          refine E_const rfl ?_
          refine E_rem rfl (by omega) (by omega) (by omega) ?_
          refine E_ialn (n := 6) (v := e (x.tmod 8).toNat) rfl (hL.lt 47 rfl) (hL.k 47 rfl) (hL.l 47 rfl) (by omega) (hf _ (by omega)) ?_
          refine E_store rfl rfl rfl ?_
          refine E_load rfl rfl rfl ?_
          refine E_const rfl ?_
          refine E_div rfl (by omega) (by omega) (by omega) ?_
          refine E_const rfl ?_
          refine E_rem rfl (by omega) (by omega) (by omega) ?_
          refine E_store rfl rfl rfl ?_
          refine E_load rfl rfl rfl ?_
          refine E_const rfl ?_
          refine E_div rfl (by omega) (by omega) (by omega) ?_
          refine E_store rfl rfl rfl ?_
          refine E_load rfl rfl rfl ?_
          refine E_getr (c := 12) (r := 48) rfl (hL.lt 43 rfl) (hL.k 43 rfl) rfl (hM.c11) ?_
          refine E_load rfl rfl rfl ?_
          refine E_load rfl rfl rfl ?_
          refine E_if1 rfl (by omega) (fun c3 => ?_) (fun c3 => ?_)
          · refine E_load rfl rfl rfl ?_
            refine E_const rfl ?_
            refine E_cmp1 rfl (by omega) (fun c4 => ?_) (fun c4 => ?_)
            · refine E_load rfl rfl rfl ?_
              refine E_load rfl rfl rfl ?_
              refine E_cmp5 rfl (by omega) (fun c5 => ?_) (fun c5 => ?_)
              · refine E_const rfl ?_
                refine E_zasn (n := 64) (j := st.length) rfl (hL.lt 48 rfl) (hL.k 48 rfl) (hL.l 48 rfl) (by omega) (by decide) (hjt) ?_
                refine E_iinc rfl rfl rfl ?_
                refine E_goto rfl ?_
                refine E_iinc rfl rfl rfl ?_
                refine E_goto rfl ?_
                first | exact go 1 true _ _ _ rfl (by simp only [tstK]; split <;> (try split) <;> first | omega | exact (decide_eq_true (by omega)).symm | exact (decide_eq_false (by omega)).symm) | exact go 0 false _ _ _ rfl (by simp only [tstK]; split <;> (try split) <;> first | omega | exact (decide_eq_true (by omega)).symm | exact (decide_eq_false (by omega)).symm)
              · refine E_const rfl ?_
                refine E_goto rfl ?_
                refine E_zasn (n := 64) (j := st.length) rfl (hL.lt 48 rfl) (hL.k 48 rfl) (hL.l 48 rfl) (by omega) (by decide) (hjt) ?_
                refine E_iinc rfl rfl rfl ?_
                refine E_goto rfl ?_
                refine E_iinc rfl rfl rfl ?_
                refine E_goto rfl ?_
                first | exact go 1 true _ _ _ rfl (by simp only [tstK]; split <;> (try split) <;> first | omega | exact (decide_eq_true (by omega)).symm | exact (decide_eq_false (by omega)).symm) | exact go 0 false _ _ _ rfl (by simp only [tstK]; split <;> (try split) <;> first | omega | exact (decide_eq_true (by omega)).symm | exact (decide_eq_false (by omega)).symm)
            · refine E_load rfl rfl rfl ?_
              refine E_load rfl rfl rfl ?_
              refine E_cmp1 rfl (by omega) (fun c6 => ?_) (fun c6 => ?_)
              · refine E_const rfl ?_
                refine E_goto rfl ?_
                refine E_zasn (n := 64) (j := st.length) rfl (hL.lt 48 rfl) (hL.k 48 rfl) (hL.l 48 rfl) (by omega) (by decide) (hjt) ?_
                refine E_iinc rfl rfl rfl ?_
                refine E_goto rfl ?_
                refine E_iinc rfl rfl rfl ?_
                refine E_goto rfl ?_
                first | exact go 1 true _ _ _ rfl (by simp only [tstK]; split <;> (try split) <;> first | omega | exact (decide_eq_true (by omega)).symm | exact (decide_eq_false (by omega)).symm) | exact go 0 false _ _ _ rfl (by simp only [tstK]; split <;> (try split) <;> first | omega | exact (decide_eq_true (by omega)).symm | exact (decide_eq_false (by omega)).symm)
              · refine E_const rfl ?_
                refine E_goto rfl ?_
                refine E_zasn (n := 64) (j := st.length) rfl (hL.lt 48 rfl) (hL.k 48 rfl) (hL.l 48 rfl) (by omega) (by decide) (hjt) ?_
                refine E_iinc rfl rfl rfl ?_
                refine E_goto rfl ?_
                refine E_iinc rfl rfl rfl ?_
                refine E_goto rfl ?_
                first | exact go 1 true _ _ _ rfl (by simp only [tstK]; split <;> (try split) <;> first | omega | exact (decide_eq_true (by omega)).symm | exact (decide_eq_false (by omega)).symm) | exact go 0 false _ _ _ rfl (by simp only [tstK]; split <;> (try split) <;> first | omega | exact (decide_eq_true (by omega)).symm | exact (decide_eq_false (by omega)).symm)
          · refine E_load rfl rfl rfl ?_
            refine E_load rfl rfl rfl ?_
            refine E_cmp3 rfl (by omega) (fun c7 => ?_) (fun c7 => ?_)
            · refine E_const rfl ?_
              refine E_goto rfl ?_
              refine E_zasn (n := 64) (j := st.length) rfl (hL.lt 48 rfl) (hL.k 48 rfl) (hL.l 48 rfl) (by omega) (by decide) (hjt) ?_
              refine E_iinc rfl rfl rfl ?_
              refine E_goto rfl ?_
              refine E_iinc rfl rfl rfl ?_
              refine E_goto rfl ?_
              first | exact go 1 true _ _ _ rfl (by simp only [tstK]; split <;> (try split) <;> first | omega | exact (decide_eq_true (by omega)).symm | exact (decide_eq_false (by omega)).symm) | exact go 0 false _ _ _ rfl (by simp only [tstK]; split <;> (try split) <;> first | omega | exact (decide_eq_true (by omega)).symm | exact (decide_eq_false (by omega)).symm)
            · refine E_const rfl ?_
              refine E_goto rfl ?_
              refine E_zasn (n := 64) (j := st.length) rfl (hL.lt 48 rfl) (hL.k 48 rfl) (hL.l 48 rfl) (by omega) (by decide) (hjt) ?_
              refine E_iinc rfl rfl rfl ?_
              refine E_goto rfl ?_
              refine E_iinc rfl rfl rfl ?_
              refine E_goto rfl ?_
              first | exact go 1 true _ _ _ rfl (by simp only [tstK]; split <;> (try split) <;> first | omega | exact (decide_eq_true (by omega)).symm | exact (decide_eq_false (by omega)).symm) | exact go 0 false _ _ _ rfl (by simp only [tstK]; split <;> (try split) <;> first | omega | exact (decide_eq_true (by omega)).symm | exact (decide_eq_false (by omega)).symm)
    · obtain ⟨t, r, rfl⟩ : ∃ t r, st = t :: r := by
        cases st with
        | nil => simp at h1
        | cons t r => exact ⟨t, r, rfl⟩
      obtain rfl : top = (r.length : Int) + 1 := by simp at ht; exact ht
      have hS2 : r.length + 1 ≤ 60 := by simpa using hS
      obtain ⟨x, hxe⟩ : ∃ x : Int, x = -1 := ⟨_, rfl⟩
      rw [← hxe] at hx ⊢
      have e1 : evS e (t :: r, sum) x = ((!t) :: r, sum) := by rw [hxe]; rfl
      have hg : g ((r.length : Int) + 1 - 1).toNat = (if t then 1 else 0) := by rw [show ((r.length : Int) + 1 - 1).toNat = r.length by omega]; exact hT.1
      have go : ∀ (y : Int) (w : Bool) (z : List Bool × Int) (v8 v9 v10 : AV), y = (if w then 1 else 0) → z = (w :: r, sum) → Ex d none t_X11_looks 0 125 [(1, ((43 : Nat) : Int)), (0, b), (0, sum), (0, many), (0, from_), (0, (r.length : Int) + 1), (0, i + 1), (0, x), v8, v9, v10] [] (mPut (scr h f g) 48 r.length y) (fun r h2 => r = some (0, (l.foldl (evS e) z).2) ∧ ∃ g', h2 = scr h f g') := by
        intro y w z v8 v9 v10 hy hz
        rw [mPut_scr48, hz]
        have hTR : TR (upd1 g r.length y) (w :: r) := by
          show upd1 g r.length y r.length = _ ∧ _
          refine ⟨?_, TR_upd r (Nat.le_refl _) hT.2⟩
          unfold upd1
          rw [if_pos rfl, hy]
        exact ih (i + 1) hi' hs' _ _ _ _ _ _ _ hTR h4 _ (by simp) (by simp; omega)
      refine E_load rfl rfl rfl ?_
      refine E_load rfl rfl rfl ?_
      refine E_load rfl rfl rfl ?_
      refine E_add rfl ?_
      refine E_cmp3 rfl (by omega) (fun c1 => ?_) (fun c1 => ?_)
      · exfalso; omega
      · refine E_load rfl rfl rfl ?_
        refine E_getr (c := 12) (r := 44) rfl (hL.lt 43 rfl) (hL.k 43 rfl) rfl (hM.c1) ?_
        refine E_load rfl rfl rfl ?_
        refine E_ialn (n := 943) (v := x) rfl (hL.lt 44 rfl) (hL.k 44 rfl) (hL.l 44 rfl) (by omega) (hx) ?_
        refine E_store rfl rfl rfl ?_
        refine E_load rfl rfl rfl ?_
        refine E_if2 rfl (by omega) (fun c2 => ?_) (fun c2 => ?_)
        · refine E_load rfl rfl rfl ?_
          refine E_const rfl ?_
          refine E_cmp1 rfl (by omega) (fun c3 => ?_) (fun c3 => ?_)
          · exfalso; omega
          · refine E_load rfl rfl rfl ?_
            refine E_getr (c := 12) (r := 48) rfl (hL.lt 43 rfl) (hL.k 43 rfl) rfl (hM.c11) ?_
            refine E_load rfl rfl rfl ?_
            refine E_const rfl ?_
            refine E_sub rfl ?_
            refine E_load rfl rfl rfl ?_
            refine E_getr (c := 12) (r := 48) rfl (hL.lt 43 rfl) (hL.k 43 rfl) rfl (hM.c11) ?_
            refine E_load rfl rfl rfl ?_
            refine E_const rfl ?_
            refine E_sub rfl ?_
            refine E_zaln (n := 64) (v := (if t then 1 else 0)) rfl (hL.lt 48 rfl) (hL.k 48 rfl) (hL.l 48 rfl) (by omega) (hg) ?_
            refine E_if1 rfl (by cases t <;> decide) (fun c4 => ?_) (fun c4 => ?_)
            · refine E_const rfl ?_
              refine E_zasn (n := 64) (j := r.length) rfl (hL.lt 48 rfl) (hL.k 48 rfl) (hL.l 48 rfl) (by omega) (by decide) (by omega) ?_
              refine E_goto rfl ?_
              refine E_iinc rfl rfl rfl ?_
              refine E_goto rfl ?_
              cases t
              · first | exact absurd rfl c3 | exact absurd c3 (by decide) | exact absurd rfl c4 | exact absurd c4 (by decide) | exact absurd rfl c5 | exact absurd c5 (by decide) | exact absurd rfl c6 | exact absurd c6 (by decide) | exact absurd rfl c7 | exact absurd c7 (by decide) | exact absurd rfl c8 | exact absurd c8 (by decide) | exact absurd rfl c9 | exact absurd c9 (by decide) | exact absurd rfl c10 | exact absurd c10 (by decide) | exact go 1 true _ _ _ _ rfl e1
              · first | exact absurd rfl c3 | exact absurd c3 (by decide) | exact absurd rfl c4 | exact absurd c4 (by decide) | exact absurd rfl c5 | exact absurd c5 (by decide) | exact absurd rfl c6 | exact absurd c6 (by decide) | exact absurd rfl c7 | exact absurd c7 (by decide) | exact absurd rfl c8 | exact absurd c8 (by decide) | exact absurd rfl c9 | exact absurd c9 (by decide) | exact absurd rfl c10 | exact absurd c10 (by decide) | exact go 0 false _ _ _ _ rfl e1
            · refine E_const rfl ?_
              refine E_goto rfl ?_
              refine E_zasn (n := 64) (j := r.length) rfl (hL.lt 48 rfl) (hL.k 48 rfl) (hL.l 48 rfl) (by omega) (by decide) (by omega) ?_
              refine E_goto rfl ?_
              refine E_iinc rfl rfl rfl ?_
              refine E_goto rfl ?_
              cases t
              · first | exact absurd rfl c3 | exact absurd c3 (by decide) | exact absurd rfl c4 | exact absurd c4 (by decide) | exact absurd rfl c5 | exact absurd c5 (by decide) | exact absurd rfl c6 | exact absurd c6 (by decide) | exact absurd rfl c7 | exact absurd c7 (by decide) | exact absurd rfl c8 | exact absurd c8 (by decide) | exact absurd rfl c9 | exact absurd c9 (by decide) | exact absurd rfl c10 | exact absurd c10 (by decide) | exact go 1 true _ _ _ _ rfl e1
              · first | exact absurd rfl c3 | exact absurd c3 (by decide) | exact absurd rfl c4 | exact absurd c4 (by decide) | exact absurd rfl c5 | exact absurd c5 (by decide) | exact absurd rfl c6 | exact absurd c6 (by decide) | exact absurd rfl c7 | exact absurd c7 (by decide) | exact absurd rfl c8 | exact absurd c8 (by decide) | exact absurd rfl c9 | exact absurd c9 (by decide) | exact absurd rfl c10 | exact absurd c10 (by decide) | exact go 0 false _ _ _ _ rfl e1
        · exfalso; omega
    · obtain ⟨t, u, r, rfl⟩ : ∃ t u r, st = t :: u :: r := by
        match st, h1 with
        | t :: u :: r, _ => exact ⟨t, u, r, rfl⟩
      obtain rfl : top = (r.length : Int) + 1 + 1 := by simp at ht; omega
      have hS2 : r.length + 2 ≤ 60 := by simpa using hS
      have e1 : evS e (t :: u :: r, sum) x = ((if x = -2 then u && t else u || t) :: r, sum) := by
        unfold evS
        rw [if_neg (by omega), if_neg (by omega), if_pos (by omega)]
      have hgu : g ((r.length : Int) + 1 + 1 + -1 - 1).toNat = (if u then 1 else 0) := by rw [show ((r.length : Int) + 1 + 1 + -1 - 1).toNat = r.length by omega]; exact hT.2.1
      have hgt : g ((r.length : Int) + 1 + 1 + -1).toNat = (if t then 1 else 0) := by rw [show ((r.length : Int) + 1 + 1 + -1).toNat = r.length + 1 by omega]; exact hT.1
      have etop : (r.length : Int) + 1 + 1 + -1 = (r.length : Int) + 1 := by omega
      have go : ∀ (y : Int) (w : Bool) (z : List Bool × Int) (v8 v9 v10 : AV), y = (if w then 1 else 0) → z = (w :: r, sum) → Ex d none t_X11_looks 0 125 [(1, ((43 : Nat) : Int)), (0, b), (0, sum), (0, many), (0, from_), (0, (r.length : Int) + 1), (0, i + 1), (0, x), v8, v9, v10] [] (mPut (scr h f g) 48 r.length y) (fun r h2 => r = some (0, (l.foldl (evS e) z).2) ∧ ∃ g', h2 = scr h f g') := by
        intro y w z v8 v9 v10 hy hz
        rw [mPut_scr48, hz]
        have hTR : TR (upd1 g r.length y) (w :: r) := by
          show upd1 g r.length y r.length = _ ∧ _
          refine ⟨?_, TR_upd r (Nat.le_refl _) hT.2.2⟩
          unfold upd1
          rw [if_pos rfl, hy]
        exact ih (i + 1) hi' hs' _ _ _ _ _ _ _ hTR h4 _ (by simp) (by simp; omega)
      refine E_load rfl rfl rfl ?_
      refine E_load rfl rfl rfl ?_
      refine E_load rfl rfl rfl ?_
      refine E_add rfl ?_
      refine E_cmp3 rfl (by omega) (fun c1 => ?_) (fun c1 => ?_)
      · exfalso; omega
      · refine E_load rfl rfl rfl ?_
        refine E_getr (c := 12) (r := 44) rfl (hL.lt 43 rfl) (hL.k 43 rfl) rfl (hM.c1) ?_
        refine E_load rfl rfl rfl ?_
        refine E_ialn (n := 943) (v := x) rfl (hL.lt 44 rfl) (hL.k 44 rfl) (hL.l 44 rfl) (by omega) (hx) ?_
        refine E_store rfl rfl rfl ?_
        refine E_load rfl rfl rfl ?_
        refine E_if2 rfl (by omega) (fun c2 => ?_) (fun c2 => ?_)
        · refine E_load rfl rfl rfl ?_
          refine E_const rfl ?_
          refine E_cmp1 rfl (by omega) (fun c3 => ?_) (fun c3 => ?_)
          · refine E_load rfl rfl rfl ?_
            refine E_const rfl ?_
            refine E_cmp5 rfl (by omega) (fun c4 => ?_) (fun c4 => ?_)
            · exfalso; omega
            · refine E_iinc rfl rfl rfl ?_
              refine E_load rfl rfl rfl ?_
              refine E_getr (c := 12) (r := 48) rfl (hL.lt 43 rfl) (hL.k 43 rfl) rfl (hM.c11) ?_
              refine E_load rfl rfl rfl ?_
              refine E_const rfl ?_
              refine E_sub rfl ?_
              refine E_load rfl rfl rfl ?_
              refine E_const rfl ?_
              refine E_cmp1 rfl (by omega) (fun c5 => ?_) (fun c5 => ?_)
              · refine E_load rfl rfl rfl ?_
                refine E_getr (c := 12) (r := 48) rfl (hL.lt 43 rfl) (hL.k 43 rfl) rfl (hM.c11) ?_
                refine E_load rfl rfl rfl ?_
                refine E_const rfl ?_
                refine E_sub rfl ?_
                refine E_zaln (n := 64) (v := (if u then 1 else 0)) rfl (hL.lt 48 rfl) (hL.k 48 rfl) (hL.l 48 rfl) (by omega) (hgu) ?_
                refine E_if1 rfl (by cases u <;> decide) (fun c6 => ?_) (fun c6 => ?_)
                · refine E_const rfl ?_
                  refine E_goto rfl ?_
                  refine E_zasn (n := 64) (j := r.length) rfl (hL.lt 48 rfl) (hL.k 48 rfl) (hL.l 48 rfl) (by omega) (by decide) (by omega) ?_
                  refine E_goto rfl ?_
                  refine E_iinc rfl rfl rfl ?_
                  refine E_goto rfl ?_
                  rw [etop]
                  cases t <;> cases u <;> first | exact absurd rfl c3 | exact absurd c3 (by decide) | exact absurd rfl c4 | exact absurd c4 (by decide) | exact absurd rfl c5 | exact absurd c5 (by decide) | exact absurd rfl c6 | exact absurd c6 (by decide) | exact absurd rfl c7 | exact absurd c7 (by decide) | exact absurd rfl c8 | exact absurd c8 (by decide) | exact absurd rfl c9 | exact absurd c9 (by decide) | exact absurd rfl c10 | exact absurd c10 (by decide) | (exact go 1 true _ _ _ _ rfl (by rw [e1]; simp [*])) | (exact go 0 false _ _ _ _ rfl (by rw [e1]; simp [*]))
                · refine E_load rfl rfl rfl ?_
                  refine E_getr (c := 12) (r := 48) rfl (hL.lt 43 rfl) (hL.k 43 rfl) rfl (hM.c11) ?_
                  refine E_load rfl rfl rfl ?_
                  refine E_zaln (n := 64) (v := (if t then 1 else 0)) rfl (hL.lt 48 rfl) (hL.k 48 rfl) (hL.l 48 rfl) (by omega) (hgt) ?_
                  refine E_if0 rfl (by cases t <;> decide) (fun c7 => ?_) (fun c7 => ?_)
                  · refine E_const rfl ?_
                    refine E_zasn (n := 64) (j := r.length) rfl (hL.lt 48 rfl) (hL.k 48 rfl) (hL.l 48 rfl) (by omega) (by decide) (by omega) ?_
                    refine E_goto rfl ?_
                    refine E_iinc rfl rfl rfl ?_
                    refine E_goto rfl ?_
                    rw [etop]
                    cases t <;> cases u <;> first | exact absurd rfl c3 | exact absurd c3 (by decide) | exact absurd rfl c4 | exact absurd c4 (by decide) | exact absurd rfl c5 | exact absurd c5 (by decide) | exact absurd rfl c6 | exact absurd c6 (by decide) | exact absurd rfl c7 | exact absurd c7 (by decide) | exact absurd rfl c8 | exact absurd c8 (by decide) | exact absurd rfl c9 | exact absurd c9 (by decide) | exact absurd rfl c10 | exact absurd c10 (by decide) | (exact go 1 true _ _ _ _ rfl (by rw [e1]; simp [*])) | (exact go 0 false _ _ _ _ rfl (by rw [e1]; simp [*]))
                  · refine E_const rfl ?_
                    refine E_goto rfl ?_
                    refine E_zasn (n := 64) (j := r.length) rfl (hL.lt 48 rfl) (hL.k 48 rfl) (hL.l 48 rfl) (by omega) (by decide) (by omega) ?_
                    refine E_goto rfl ?_
                    refine E_iinc rfl rfl rfl ?_
                    refine E_goto rfl ?_
                    rw [etop]
                    cases t <;> cases u <;> first | exact absurd rfl c3 | exact absurd c3 (by decide) | exact absurd rfl c4 | exact absurd c4 (by decide) | exact absurd rfl c5 | exact absurd c5 (by decide) | exact absurd rfl c6 | exact absurd c6 (by decide) | exact absurd rfl c7 | exact absurd c7 (by decide) | exact absurd rfl c8 | exact absurd c8 (by decide) | exact absurd rfl c9 | exact absurd c9 (by decide) | exact absurd rfl c10 | exact absurd c10 (by decide) | (exact go 1 true _ _ _ _ rfl (by rw [e1]; simp [*])) | (exact go 0 false _ _ _ _ rfl (by rw [e1]; simp [*]))
              · refine E_load rfl rfl rfl ?_
                refine E_getr (c := 12) (r := 48) rfl (hL.lt 43 rfl) (hL.k 43 rfl) rfl (hM.c11) ?_
                refine E_load rfl rfl rfl ?_
                refine E_const rfl ?_
                refine E_sub rfl ?_
                refine E_zaln (n := 64) (v := (if u then 1 else 0)) rfl (hL.lt 48 rfl) (hL.k 48 rfl) (hL.l 48 rfl) (by omega) (hgu) ?_
                refine E_if0 rfl (by cases u <;> decide) (fun c8 => ?_) (fun c8 => ?_)
                · refine E_const rfl ?_
                  refine E_goto rfl ?_
                  refine E_zasn (n := 64) (j := r.length) rfl (hL.lt 48 rfl) (hL.k 48 rfl) (hL.l 48 rfl) (by omega) (by decide) (by omega) ?_
                  refine E_goto rfl ?_
                  refine E_iinc rfl rfl rfl ?_
                  refine E_goto rfl ?_
                  rw [etop]
                  cases t <;> cases u <;> first | exact absurd rfl c3 | exact absurd c3 (by decide) | exact absurd rfl c4 | exact absurd c4 (by decide) | exact absurd rfl c5 | exact absurd c5 (by decide) | exact absurd rfl c6 | exact absurd c6 (by decide) | exact absurd rfl c7 | exact absurd c7 (by decide) | exact absurd rfl c8 | exact absurd c8 (by decide) | exact absurd rfl c9 | exact absurd c9 (by decide) | exact absurd rfl c10 | exact absurd c10 (by decide) | (exact go 1 true _ _ _ _ rfl (by rw [e1]; simp [*])) | (exact go 0 false _ _ _ _ rfl (by rw [e1]; simp [*]))
                · refine E_load rfl rfl rfl ?_
                  refine E_getr (c := 12) (r := 48) rfl (hL.lt 43 rfl) (hL.k 43 rfl) rfl (hM.c11) ?_
                  refine E_load rfl rfl rfl ?_
                  refine E_zaln (n := 64) (v := (if t then 1 else 0)) rfl (hL.lt 48 rfl) (hL.k 48 rfl) (hL.l 48 rfl) (by omega) (hgt) ?_
                  refine E_if0 rfl (by cases t <;> decide) (fun c9 => ?_) (fun c9 => ?_)
                  · refine E_const rfl ?_
                    refine E_goto rfl ?_
                    refine E_zasn (n := 64) (j := r.length) rfl (hL.lt 48 rfl) (hL.k 48 rfl) (hL.l 48 rfl) (by omega) (by decide) (by omega) ?_
                    refine E_goto rfl ?_
                    refine E_iinc rfl rfl rfl ?_
                    refine E_goto rfl ?_
                    rw [etop]
                    cases t <;> cases u <;> first | exact absurd rfl c3 | exact absurd c3 (by decide) | exact absurd rfl c4 | exact absurd c4 (by decide) | exact absurd rfl c5 | exact absurd c5 (by decide) | exact absurd rfl c6 | exact absurd c6 (by decide) | exact absurd rfl c7 | exact absurd c7 (by decide) | exact absurd rfl c8 | exact absurd c8 (by decide) | exact absurd rfl c9 | exact absurd c9 (by decide) | exact absurd rfl c10 | exact absurd c10 (by decide) | (exact go 1 true _ _ _ _ rfl (by rw [e1]; simp [*])) | (exact go 0 false _ _ _ _ rfl (by rw [e1]; simp [*]))
                  · refine E_const rfl ?_
                    refine E_goto rfl ?_
                    refine E_zasn (n := 64) (j := r.length) rfl (hL.lt 48 rfl) (hL.k 48 rfl) (hL.l 48 rfl) (by omega) (by decide) (by omega) ?_
                    refine E_goto rfl ?_
                    refine E_iinc rfl rfl rfl ?_
                    refine E_goto rfl ?_
                    rw [etop]
                    cases t <;> cases u <;> first | exact absurd rfl c3 | exact absurd c3 (by decide) | exact absurd rfl c4 | exact absurd c4 (by decide) | exact absurd rfl c5 | exact absurd c5 (by decide) | exact absurd rfl c6 | exact absurd c6 (by decide) | exact absurd rfl c7 | exact absurd c7 (by decide) | exact absurd rfl c8 | exact absurd c8 (by decide) | exact absurd rfl c9 | exact absurd c9 (by decide) | exact absurd rfl c10 | exact absurd c10 (by decide) | (exact go 1 true _ _ _ _ rfl (by rw [e1]; simp [*])) | (exact go 0 false _ _ _ _ rfl (by rw [e1]; simp [*]))
          · exfalso; omega
        · exfalso; omega
    · obtain ⟨t, rfl⟩ : ∃ t, st = [t] := by
        match st, h1 with
        | [t], _ => exact ⟨t, rfl⟩
      have e1 : evS e ([t], sum) x = ([], sum + (if t then (if -200 < x then -10 - x else 200 + x) else 0)) := by
        unfold evS
        rw [if_neg (by omega), if_neg (by omega), if_neg (by omega)]
        rfl
      have hg : g 0 = (if t then 1 else 0) := hT.1
      have go : ∀ (y : Int) (z : List Bool × Int) (v8 v9 v10 : AV), z = ([], y) → Ex d none t_X11_looks 0 125 [(1, ((43 : Nat) : Int)), (0, b), (0, y), (0, many), (0, from_), (0, 0), (0, i + 1), (0, x), v8, v9, v10] [] (scr h f g) (fun r h2 => r = some (0, (l.foldl (evS e) z).2) ∧ ∃ g', h2 = scr h f g') := by
        intro y z v8 v9 v10 hz
        rw [hz]
        exact ih (i + 1) hi' hs' [] _ _ _ _ _ _ trivial h4 0 rfl (by simp)
      refine E_load rfl rfl rfl ?_
      refine E_load rfl rfl rfl ?_
      refine E_load rfl rfl rfl ?_
      refine E_add rfl ?_
      refine E_cmp3 rfl (by omega) (fun c1 => ?_) (fun c1 => ?_)
      · exfalso; omega
      · refine E_load rfl rfl rfl ?_
        refine E_getr (c := 12) (r := 44) rfl (hL.lt 43 rfl) (hL.k 43 rfl) rfl (hM.c1) ?_
        refine E_load rfl rfl rfl ?_
        refine E_ialn (n := 943) (v := x) rfl (hL.lt 44 rfl) (hL.k 44 rfl) (hL.l 44 rfl) (by omega) (hx) ?_
        refine E_store rfl rfl rfl ?_
        refine E_load rfl rfl rfl ?_
        refine E_if2 rfl (by omega) (fun c2 => ?_) (fun c2 => ?_)
        · refine E_load rfl rfl rfl ?_
          refine E_const rfl ?_
          refine E_cmp1 rfl (by omega) (fun c3 => ?_) (fun c3 => ?_)
          · refine E_load rfl rfl rfl ?_
            refine E_const rfl ?_
            refine E_cmp5 rfl (by omega) (fun c4 => ?_) (fun c4 => ?_)
            · refine E_const rfl ?_
              refine E_store rfl rfl rfl ?_
              refine E_load rfl rfl rfl ?_
              refine E_getr (c := 12) (r := 48) rfl (hL.lt 43 rfl) (hL.k 43 rfl) rfl (hM.c11) ?_
              refine E_const rfl ?_
              refine E_zaln (n := 64) (v := (if t then 1 else 0)) rfl (hL.lt 48 rfl) (hL.k 48 rfl) (hL.l 48 rfl) (by omega) (hg) ?_
              refine E_store rfl rfl rfl ?_
              refine E_load rfl rfl rfl ?_
              refine E_load rfl rfl rfl ?_
              refine E_if0 rfl (by cases t <;> decide) (fun c5 => ?_) (fun c5 => ?_)
              · refine E_const rfl ?_
                refine E_add rfl ?_
                refine E_store rfl rfl rfl ?_
                refine E_load rfl rfl rfl ?_
                refine E_load rfl rfl rfl ?_
                refine E_if0 rfl (by cases t <;> decide) (fun c6 => ?_) (fun c6 => ?_)
                · refine E_const rfl ?_
                  refine E_sub rfl ?_
                  refine E_store rfl rfl rfl ?_
                  refine E_iinc rfl rfl rfl ?_
                  refine E_goto rfl ?_
                  cases t <;> first | exact absurd rfl c3 | exact absurd c3 (by decide) | exact absurd rfl c4 | exact absurd c4 (by decide) | exact absurd rfl c5 | exact absurd c5 (by decide) | exact absurd rfl c6 | exact absurd c6 (by decide) | exact absurd rfl c7 | exact absurd c7 (by decide) | exact absurd rfl c8 | exact absurd c8 (by decide) | exact absurd rfl c9 | exact absurd c9 (by decide) | exact absurd rfl c10 | exact absurd c10 (by decide) | (refine go _ _ _ _ _ ?_; rw [e1]; simp only [Bool.false_eq_true, if_true, if_false]; congr 1; first | omega | (split <;> omega))
                · refine E_load rfl rfl rfl ?_
                  refine E_const rfl ?_
                  refine E_cmp4 rfl (by omega) (fun c7 => ?_) (fun c7 => ?_)
                  · refine E_const rfl ?_
                    refine E_sub rfl ?_
                    refine E_store rfl rfl rfl ?_
                    refine E_iinc rfl rfl rfl ?_
                    refine E_goto rfl ?_
                    cases t <;> first | exact absurd rfl c3 | exact absurd c3 (by decide) | exact absurd rfl c4 | exact absurd c4 (by decide) | exact absurd rfl c5 | exact absurd c5 (by decide) | exact absurd rfl c6 | exact absurd c6 (by decide) | exact absurd rfl c7 | exact absurd c7 (by decide) | exact absurd rfl c8 | exact absurd c8 (by decide) | exact absurd rfl c9 | exact absurd c9 (by decide) | exact absurd rfl c10 | exact absurd c10 (by decide) | (refine go _ _ _ _ _ ?_; rw [e1]; simp only [Bool.false_eq_true, if_true, if_false]; congr 1; first | omega | (split <;> omega))
                  · refine E_const rfl ?_
                    refine E_load rfl rfl rfl ?_
                    refine E_sub rfl ?_
                    refine E_goto rfl ?_
                    refine E_sub rfl ?_
                    refine E_store rfl rfl rfl ?_
                    refine E_iinc rfl rfl rfl ?_
                    refine E_goto rfl ?_
                    cases t <;> first | exact absurd rfl c3 | exact absurd c3 (by decide) | exact absurd rfl c4 | exact absurd c4 (by decide) | exact absurd rfl c5 | exact absurd c5 (by decide) | exact absurd rfl c6 | exact absurd c6 (by decide) | exact absurd rfl c7 | exact absurd c7 (by decide) | exact absurd rfl c8 | exact absurd c8 (by decide) | exact absurd rfl c9 | exact absurd c9 (by decide) | exact absurd rfl c10 | exact absurd c10 (by decide) | (refine go _ _ _ _ _ ?_; rw [e1]; simp only [Bool.false_eq_true, if_true, if_false]; congr 1; first | omega | (split <;> omega))
              · refine E_load rfl rfl rfl ?_
                refine E_const rfl ?_
                refine E_cmp5 rfl (by omega) (fun c8 => ?_) (fun c8 => ?_)
                · refine E_const rfl ?_
                  refine E_add rfl ?_
                  refine E_store rfl rfl rfl ?_
                  refine E_load rfl rfl rfl ?_
                  refine E_load rfl rfl rfl ?_
                  refine E_if0 rfl (by cases t <;> decide) (fun c9 => ?_) (fun c9 => ?_)
                  · refine E_const rfl ?_
                    refine E_sub rfl ?_
                    refine E_store rfl rfl rfl ?_
                    refine E_iinc rfl rfl rfl ?_
                    refine E_goto rfl ?_
                    cases t <;> first | exact absurd rfl c3 | exact absurd c3 (by decide) | exact absurd rfl c4 | exact absurd c4 (by decide) | exact absurd rfl c5 | exact absurd c5 (by decide) | exact absurd rfl c6 | exact absurd c6 (by decide) | exact absurd rfl c7 | exact absurd c7 (by decide) | exact absurd rfl c8 | exact absurd c8 (by decide) | exact absurd rfl c9 | exact absurd c9 (by decide) | exact absurd rfl c10 | exact absurd c10 (by decide) | (refine go _ _ _ _ _ ?_; rw [e1]; simp only [Bool.false_eq_true, if_true, if_false]; congr 1; first | omega | (split <;> omega))
                  · refine E_load rfl rfl rfl ?_
                    refine E_const rfl ?_
                    refine E_cmp4 rfl (by omega) (fun c10 => ?_) (fun c10 => ?_)
                    · refine E_const rfl ?_
                      refine E_sub rfl ?_
                      refine E_store rfl rfl rfl ?_
                      refine E_iinc rfl rfl rfl ?_
                      refine E_goto rfl ?_
                      cases t <;> first | exact absurd rfl c3 | exact absurd c3 (by decide) | exact absurd rfl c4 | exact absurd c4 (by decide) | exact absurd rfl c5 | exact absurd c5 (by decide) | exact absurd rfl c6 | exact absurd c6 (by decide) | exact absurd rfl c7 | exact absurd c7 (by decide) | exact absurd rfl c8 | exact absurd c8 (by decide) | exact absurd rfl c9 | exact absurd c9 (by decide) | exact absurd rfl c10 | exact absurd c10 (by decide) | (refine go _ _ _ _ _ ?_; rw [e1]; simp only [Bool.false_eq_true, if_true, if_false]; congr 1; first | omega | (split <;> omega))
                    · refine E_const rfl ?_
                      refine E_load rfl rfl rfl ?_
                      refine E_sub rfl ?_
                      refine E_goto rfl ?_
                      refine E_sub rfl ?_
                      refine E_store rfl rfl rfl ?_
                      refine E_iinc rfl rfl rfl ?_
                      refine E_goto rfl ?_
                      cases t <;> first | exact absurd rfl c3 | exact absurd c3 (by decide) | exact absurd rfl c4 | exact absurd c4 (by decide) | exact absurd rfl c5 | exact absurd c5 (by decide) | exact absurd rfl c6 | exact absurd c6 (by decide) | exact absurd rfl c7 | exact absurd c7 (by decide) | exact absurd rfl c8 | exact absurd c8 (by decide) | exact absurd rfl c9 | exact absurd c9 (by decide) | exact absurd rfl c10 | exact absurd c10 (by decide) | (refine go _ _ _ _ _ ?_; rw [e1]; simp only [Bool.false_eq_true, if_true, if_false]; congr 1; first | omega | (split <;> omega))
                · refine E_const rfl ?_
                  refine E_load rfl rfl rfl ?_
                  refine E_sub rfl ?_
                  refine E_goto rfl ?_
                  refine E_add rfl ?_
                  refine E_store rfl rfl rfl ?_
                  refine E_load rfl rfl rfl ?_
                  refine E_load rfl rfl rfl ?_
                  refine E_if0 rfl (by cases t <;> decide) (fun c11 => ?_) (fun c11 => ?_)
                  · refine E_const rfl ?_
                    refine E_sub rfl ?_
                    refine E_store rfl rfl rfl ?_
                    refine E_iinc rfl rfl rfl ?_
                    refine E_goto rfl ?_
                    cases t <;> first | exact absurd rfl c3 | exact absurd c3 (by decide) | exact absurd rfl c4 | exact absurd c4 (by decide) | exact absurd rfl c5 | exact absurd c5 (by decide) | exact absurd rfl c6 | exact absurd c6 (by decide) | exact absurd rfl c7 | exact absurd c7 (by decide) | exact absurd rfl c8 | exact absurd c8 (by decide) | exact absurd rfl c9 | exact absurd c9 (by decide) | exact absurd rfl c10 | exact absurd c10 (by decide) | (refine go _ _ _ _ _ ?_; rw [e1]; simp only [Bool.false_eq_true, if_true, if_false]; congr 1; first | omega | (split <;> omega))
                  · refine E_load rfl rfl rfl ?_
                    refine E_const rfl ?_
                    refine E_cmp4 rfl (by omega) (fun c12 => ?_) (fun c12 => ?_)
                    · refine E_const rfl ?_
                      refine E_sub rfl ?_
                      refine E_store rfl rfl rfl ?_
                      refine E_iinc rfl rfl rfl ?_
                      refine E_goto rfl ?_
                      cases t <;> first | exact absurd rfl c3 | exact absurd c3 (by decide) | exact absurd rfl c4 | exact absurd c4 (by decide) | exact absurd rfl c5 | exact absurd c5 (by decide) | exact absurd rfl c6 | exact absurd c6 (by decide) | exact absurd rfl c7 | exact absurd c7 (by decide) | exact absurd rfl c8 | exact absurd c8 (by decide) | exact absurd rfl c9 | exact absurd c9 (by decide) | exact absurd rfl c10 | exact absurd c10 (by decide) | (refine go _ _ _ _ _ ?_; rw [e1]; simp only [Bool.false_eq_true, if_true, if_false]; congr 1; first | omega | (split <;> omega))
                    · refine E_const rfl ?_
                      refine E_load rfl rfl rfl ?_
                      refine E_sub rfl ?_
                      refine E_goto rfl ?_
                      refine E_sub rfl ?_
                      refine E_store rfl rfl rfl ?_
                      refine E_iinc rfl rfl rfl ?_
                      refine E_goto rfl ?_
                      cases t <;> first | exact absurd rfl c3 | exact absurd c3 (by decide) | exact absurd rfl c4 | exact absurd c4 (by decide) | exact absurd rfl c5 | exact absurd c5 (by decide) | exact absurd rfl c6 | exact absurd c6 (by decide) | exact absurd rfl c7 | exact absurd c7 (by decide) | exact absurd rfl c8 | exact absurd c8 (by decide) | exact absurd rfl c9 | exact absurd c9 (by decide) | exact absurd rfl c10 | exact absurd c10 (by decide) | (refine go _ _ _ _ _ ?_; rw [e1]; simp only [Bool.false_eq_true, if_true, if_false]; congr 1; first | omega | (split <;> omega))
            · exfalso; omega
          · exfalso; omega
        · exfalso; omega
