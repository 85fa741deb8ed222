/-! THE SMALL MACHINE'S STATE AS A WORLD: own cell a stands at z + a; reading one instruction -/
def xR (z : Nat) (ex : Int → Nat) (x : Int) : Option Nat := if x = -1 then none else some (if 0 ≤ x then z + x.toNat else ex x)
def xV (z : Nat) (ex : Int → Nat) (v : AV) : Value := if v.1 = 1 then va_rf (xR z ex v.2) else if v.1 = 2 then .long (Int64.ofInt v.2) else .int (Int32.ofInt v.2)
def xF (z : Nat) (ex : Int → Nat) (h : Hp) (a : Nat) : List Value := (List.range (mFt (mK h a)).length).map fun k => xV z ex (mTag ((mFt (mK h a)).getD k 0), mC h a k)
def xC (z : Nat) (ex : Int → Nat) (cA : Nat → ClassId) (h : Hp) (a : Nat) : va_E :=
  if mK h a = 20 then .inl (cA 0, mL h a, .inl fun k => Int32.ofInt (mC h a k))
  else if mK h a = 21 then .inl (cA 1, mL h a, .inl fun k => Int32.ofInt (mC h a k))
  else if mK h a = 22 then .inl (cA 2, mL h a, .inr (.inr (.inr (.inr fun k => xR z ex (mC h a k)))))
  else .inr (mK h a, xF z ex h a)
/-- the heap H is the small machine's h, from z on; below z it is HB -/
def xP (D : va_G) (z : Nat) (ex : Int → Nat) (cA : Nat → ClassId) (HB : Heap) (h : Hp) (H : Heap) : Prop :=
  (∀ a, a < mN h → va_at D vwCl (z + a, xC z ex cA h a) H) ∧ H.size = z + mN h ∧ ∀ q : Nat, q < z → H[q]? = HB[q]?
theorem xV_int (z : Nat) (ex : Int → Nat) (x : Int) : xV z ex (0, x) = .int (Int32.ofInt x) := rfl
theorem xV_ref (z : Nat) (ex : Int → Nat) (x : Int) : xV z ex (1, x) = va_rf (xR z ex x) := rfl
theorem xV_long (z : Nat) (ex : Int → Nat) (x : Int) : xV z ex (2, x) = .long (Int64.ofInt x) := rfl
theorem xR_null (z : Nat) (ex : Int → Nat) : xR z ex (-1) = none := rfl
theorem xR_own {z : Nat} {ex : Int → Nat} {x : Int} (h : 0 ≤ x) : xR z ex x = some (z + x.toNat) := by
  unfold xR
  rw [if_neg (by omega), if_pos h]
theorem xR_ex {z : Nat} {ex : Int → Nat} {x : Int} (h : x < -1) : xR z ex x = some (ex x) := by
  unfold xR
  rw [if_neg (by omega), if_neg (by omega)]
theorem xV_cat {z : Nat} {ex : Int → Nat} {v : AV} (h : v.1 ≠ 2) : (xV z ex v).category = 1 := by
  unfold xV
  by_cases h1 : v.1 = 1
  · rw [if_pos h1]
    cases xR z ex v.2 <;> rfl
  · rw [if_neg h1, if_neg h]
    rfl
theorem xV_cats {z : Nat} {ex : Int → Nat} (st : List AV) : (st.map (xV z ex)).map (fun v => v.category) = st.map mCat := by
  rw [List.map_map]
  apply List.map_congr_left
  intro v _
  show (xV z ex v).category = mCat v
  by_cases h : v.1 = 2
  · obtain ⟨t, x⟩ := v
    subst h
    rfl
  · rw [xV_cat h]
    simp [mCat, h]
/-- the locals -/
def xLs (z : Nat) (ex : Int → Nat) (lv : List AV) : List (Nat × Value) := (List.range lv.length).filterMap fun i => match lv[i]? with
  | some v => if v.1 = 9 then none else some (i, xV z ex v)
  | none => none
def xAL (z : Nat) (ex : Int → Nat) (ls : Array Slot) (nL : Nat) (lv : List AV) : Prop := lv_has ls nL (xLs z ex lv) ∧ lv.length = nL
theorem xLs_mem {z : Nat} {ex : Int → Nat} {lv : List AV} {q : Nat × Value} : q ∈ xLs z ex lv ↔ ∃ v, lv[q.1]? = some v ∧ v.1 ≠ 9 ∧ q.2 = xV z ex v := by
  unfold xLs
  rw [List.mem_filterMap]
  constructor
  · rintro ⟨i, hi, h⟩
    cases hv : lv[i]? with
    | none => rw [hv] at h; cases h
    | some v =>
      rw [hv] at h
      by_cases h9 : v.1 = 9
      · simp [h9] at h
      · simp [h9] at h
        subst h
        exact ⟨v, hv, h9, rfl⟩
  · rintro ⟨v, h1, h2, h3⟩
    refine ⟨q.1, List.mem_range.mpr (List.getElem?_eq_some_iff.mp h1).1, ?_⟩
    rw [h1]
    simp [h2, ← h3]
theorem xAL.at {z : Nat} {ex : Int → Nat} {ls : Array Slot} {nL : Nat} {lv : List AV} (h : xAL z ex ls nL lv) {i : Nat} {v : AV} (hv : lv[i]? = some v) (h9 : v.1 ≠ 9) : ls[i]? = some (.val (xV z ex v)) :=
  h.1.2.2 (i, xV z ex v) (xLs_mem.mpr ⟨v, hv, h9, rfl⟩)
theorem mSet_spec {lv lv' : List AV} {i : Nat} {v : AV} (h : mSet lv i v = some lv') : i < lv.length ∧ (i = 0 ∨ (lv.getD (i - 1) (9, 0)).1 ≠ 2) ∧ ((v.1 = 2 ∧ i + 1 < lv.length ∧ lv' = (lv.set i v).set (i + 1) (9, 0)) ∨ (v.1 ≠ 2 ∧ lv' = lv.set i v)) := by
  unfold mSet at h
  split at h
  · rename_i h1
    refine ⟨h1.1, h1.2, ?_⟩
    split at h
    · rename_i h2
      split at h
      · rename_i h3
        exact Or.inl ⟨h2, h3, (Option.some.inj h).symm⟩
      · cases h
    · rename_i h2
      exact Or.inr ⟨h2, (Option.some.inj h).symm⟩
  · cases h
theorem xAL.set1 {z : Nat} {ex : Int → Nat} {ls' : Array Slot} {nL : Nat} {lv lv' : List AV} {i : Nat} {v : AV} (hl : lv.length = nL) (hm : mSet lv i v = some lv') (h2 : v.1 ≠ 2)
    (h : lv_has ls' nL ((i, xV z ex v) :: (xLs z ex lv).filter (fun q => !(q.1 == i) && !(q.1 + 1 == i && q.2.category == 2)))) : xAL z ex ls' nL lv' := by
  obtain ⟨h1, hp, hc⟩ := mSet_spec hm
  have e : lv' = lv.set i v := by
    rcases hc with ⟨c, -⟩ | ⟨-, c⟩
    · exact absurd c h2
    · exact c
  subst e
  refine ⟨⟨h.1, h.2.1, fun q hq => ?_⟩, by rw [List.length_set]; exact hl⟩
  obtain ⟨w, g1, g2, g3⟩ := xLs_mem.mp hq
  refine h.2.2 q ?_
  by_cases hi : q.1 = i
  · rw [hi, List.getElem?_set_self h1] at g1
    cases g1
    exact List.mem_cons.mpr (Or.inl (Prod.ext hi g3))
  · rw [List.getElem?_set_ne (Ne.symm hi)] at g1
    refine List.mem_cons.mpr (Or.inr (List.mem_filter.mpr ⟨xLs_mem.mpr ⟨w, g1, g2, g3⟩, ?_⟩))
    have hcat : q.1 + 1 = i → q.2.category = 1 := by
      intro e
      rcases hp with hp | hp
      · omega
      · rw [show i - 1 = q.1 by omega, List.getD_eq_getElem?_getD, g1] at hp
        rw [g3]
        exact xV_cat hp
    by_cases e : q.1 + 1 = i
    · simp [hi, hcat e]
    · simp [hi, e]
theorem xAL.set2 {z : Nat} {ex : Int → Nat} {ls' : Array Slot} {nL : Nat} {lv lv' : List AV} {i : Nat} {v : AV} (hl : lv.length = nL) (hm : mSet lv i v = some lv') (h2 : v.1 = 2)
    (h : lv_has ls' nL ((i, xV z ex v) :: (xLs z ex lv).filter (fun q => !(q.1 == i) && (!(q.1 == i + 1) && !(q.1 + 1 == i && q.2.category == 2))))) : xAL z ex ls' nL lv' := by
  obtain ⟨h1, hp, hc⟩ := mSet_spec hm
  obtain ⟨hi1, e⟩ : i + 1 < lv.length ∧ lv' = (lv.set i v).set (i + 1) (9, 0) := by
    rcases hc with ⟨-, c⟩ | ⟨c, -⟩
    · exact c
    · exact absurd h2 c
  subst e
  refine ⟨⟨h.1, h.2.1, fun q hq => ?_⟩, by rw [List.length_set, List.length_set]; exact hl⟩
  obtain ⟨w, g1, g2, g3⟩ := xLs_mem.mp hq
  refine h.2.2 q ?_
  by_cases hj : q.1 = i + 1
  · rw [hj, List.getElem?_set_self (by rw [List.length_set]; exact hi1)] at g1
    cases g1
    exact absurd rfl g2
  · rw [List.getElem?_set_ne (Ne.symm hj)] at g1
    by_cases hi : q.1 = i
    · rw [hi, List.getElem?_set_self h1] at g1
      cases g1
      exact List.mem_cons.mpr (Or.inl (Prod.ext hi g3))
    · rw [List.getElem?_set_ne (Ne.symm hi)] at g1
      refine List.mem_cons.mpr (Or.inr (List.mem_filter.mpr ⟨xLs_mem.mpr ⟨w, g1, g2, g3⟩, ?_⟩))
      have hcat : q.1 + 1 = i → q.2.category = 1 := by
        intro e
        rcases hp with hp | hp
        · omega
        · rw [show i - 1 = q.1 by omega, List.getD_eq_getElem?_getD, g1] at hp
          rw [g3]
          exact xV_cat hp
      by_cases e : q.1 + 1 = i
      · simp [hi, hj, hcat e]
      · simp [hi, hj, e]
/-- the heap's parts -/
theorem mK_put (h : Hp) (a k : Nat) (x : Int) (b : Nat) : mK (mPut h a k x) b = mK h b := rfl
theorem mL_put (h : Hp) (a k : Nat) (x : Int) (b : Nat) : mL (mPut h a k x) b = mL h b := rfl
theorem mN_put (h : Hp) (a k : Nat) (x : Int) : mN (mPut h a k x) = mN h := rfl
theorem mS_put (h : Hp) (a k : Nat) (x : Int) : mS (mPut h a k x) = mS h := rfl
theorem mC_put (h : Hp) (a k : Nat) (x : Int) (b j : Nat) : mC (mPut h a k x) b j = if b = a ∧ j = k then x else mC h b j := rfl
theorem mC_put_ne {h : Hp} {a k : Nat} {x : Int} {b : Nat} (hb : b ≠ a) (j : Nat) : mC (mPut h a k x) b j = mC h b j := by rw [mC_put, if_neg (fun q => hb q.1)]
theorem mN_new (h : Hp) (kd ln : Nat) (v : Nat → Int) : mN (mNew h kd ln v) = mN h + 1 := rfl
theorem mS_new (h : Hp) (kd ln : Nat) (v : Nat → Int) : mS (mNew h kd ln v) = mS h + ln := rfl
theorem mK_new (h : Hp) (kd ln : Nat) (v : Nat → Int) (b : Nat) : mK (mNew h kd ln v) b = if b = mN h then kd else mK h b := rfl
theorem mL_new (h : Hp) (kd ln : Nat) (v : Nat → Int) (b : Nat) : mL (mNew h kd ln v) b = if b = mN h then ln else mL h b := rfl
theorem mC_new (h : Hp) (kd ln : Nat) (v : Nat → Int) (b j : Nat) : mC (mNew h kd ln v) b j = if b = mN h then v j else mC h b j := rfl
theorem xC_put_ne {z : Nat} {ex : Int → Nat} {cA : Nat → ClassId} {h : Hp} {a k : Nat} {x : Int} {b : Nat} (hb : b ≠ a) : xC z ex cA (mPut h a k x) b = xC z ex cA h b := by
  simp only [xC, xF, mK_put, mL_put, mC_put_ne hb]
theorem xC_new_ne {z : Nat} {ex : Int → Nat} {cA : Nat → ClassId} {h : Hp} {kd ln : Nat} {v : Nat → Int} {b : Nat} (hb : b ≠ mN h) : xC z ex cA (mNew h kd ln v) b = xC z ex cA h b := by
  simp only [xC, xF, mK_new, mL_new, mC_new, if_neg hb]
theorem xP.put {D : va_G} {z : Nat} {ex : Int → Nat} {cA : Nat → ClassId} {HB : Heap} {h : Hp} {H H' : Heap} {a k : Nat} {x : Int} (hP : xP D z ex cA HB h H) (hz : H'.size = H.size) (ho : ∀ q, q ≠ z + a → H'[q]? = H[q]?)
    (hc : va_at D vwCl (z + a, xC z ex cA (mPut h a k x) a) H') : xP D z ex cA HB (mPut h a k x) H' := by
  obtain ⟨h1, h2, h3⟩ := hP
  refine ⟨fun b hb => ?_, by rw [hz, mN_put]; exact h2, fun q hq => by rw [ho q (by omega)]; exact h3 q hq⟩
  by_cases e : b = a
  · subst e
    exact hc
  · rw [xC_put_ne e]
    exact (h1 b hb).kept (ho _ (by show z + b ≠ z + a; omega))
theorem xP.new {D : va_G} {z : Nat} {ex : Int → Nat} {cA : Nat → ClassId} {HB : Heap} {h : Hp} {H H' : Heap} {kd ln : Nat} {v : Nat → Int} (hP : xP D z ex cA HB h H) (hz : H'.size = H.size + 1) (ho : ∀ q, q < H.size → H'[q]? = H[q]?)
    (hc : va_at D vwCl (z + mN h, xC z ex cA (mNew h kd ln v) (mN h)) H') : xP D z ex cA HB (mNew h kd ln v) H' := by
  obtain ⟨h1, h2, h3⟩ := hP
  refine ⟨fun b hb => ?_, by rw [hz, mN_new, h2]; rfl, fun q hq => by rw [ho q (by omega)]; exact h3 q hq⟩
  by_cases e : b = mN h
  · subst e
    exact hc
  · rw [xC_new_ne e]
    rw [mN_new] at hb
    exact (h1 b (by omega)).kept (ho _ (by show z + b < H.size; omega))
theorem xC_obj {z : Nat} {ex : Int → Nat} {cA : Nat → ClassId} {h : Hp} {a : Nat} (hk : mK h a < 13) : xC z ex cA h a = .inr (mK h a, xF z ex h a) := by
  unfold xC
  rw [if_neg (by omega), if_neg (by omega), if_neg (by omega)]
theorem xF_len {z : Nat} {ex : Int → Nat} {h : Hp} {a : Nat} : (xF z ex h a).length = (mFt (mK h a)).length := by simp [xF]
theorem xF_at {z : Nat} {ex : Int → Nat} {h : Hp} {a k : Nat} (hk : k < (mFt (mK h a)).length) : (xF z ex h a)[k]? = some (xV z ex (mTag ((mFt (mK h a)).getD k 0), mC h a k)) := by
  simp [xF, hk]
theorem xF_put {z : Nat} {ex : Int → Nat} {h : Hp} {a k : Nat} {x : Int} : xF z ex (mPut h a k x) a = (xF z ex h a).set k (xV z ex (mTag ((mFt (mK h a)).getD k 0), x)) := by
  apply List.ext_getElem?
  intro j
  rw [List.getElem?_set]
  by_cases e : k = j
  · subst e
    by_cases hk : k < (mFt (mK h a)).length
    · rw [xF_at (by rw [mK_put]; exact hk), if_pos rfl, if_pos (by rw [xF_len]; exact hk), mC_put, if_pos ⟨rfl, rfl⟩, mK_put]
    · rw [if_pos rfl, if_neg (by rw [xF_len]; exact hk), List.getElem?_eq_none (by rw [xF_len, mK_put]; omega)]
  · rw [if_neg e]
    by_cases hk : j < (mFt (mK h a)).length
    · rw [xF_at (by rw [mK_put]; exact hk), xF_at hk, mC_put, if_neg (fun q => e q.2.symm), mK_put]
    · rw [List.getElem?_eq_none (by rw [xF_len, mK_put]; omega), List.getElem?_eq_none (by rw [xF_len]; omega)]
theorem mAd_spec {h : Hp} {x : Int} {q : Nat} (e : mAd h x = some q) : 0 ≤ x ∧ q = x.toNat ∧ q < mN h := by
  unfold mAd at e
  split at e
  · rename_i h1
    cases e
    exact ⟨h1.1, rfl, h1.2⟩
  · cases e
theorem xR_ad {z : Nat} {ex : Int → Nat} {h : Hp} {x : Int} {q : Nat} (e : mAd h x = some q) : xR z ex x = some (z + q) := by
  obtain ⟨h1, h2, -⟩ := mAd_spec e
  rw [xR_own h1, h2]
theorem va_P1 {D : va_G} {cl : List vw_C} {q : Nat × va_E} {H : Heap} (h : va_at D cl q H) : va_P D cl [q] H := by
  intro k p hk
  have hz : k < 1 := (List.getElem?_eq_some_iff.mp hk).1
  rw [show k = 0 by omega] at hk
  cases hk
  exact h
theorem lookup_mem {α β : Type} [BEq α] [LawfulBEq α] {l : List (α × β)} {a : α} {b : β} (h : l.lookup a = some b) : (a, b) ∈ l := by
  induction l with
  | nil => cases h
  | cons p l ih =>
    obtain ⟨c, d⟩ := p
    rw [List.lookup_cons] at h
    split at h
    · rename_i e
      cases h
      rw [show a = c from eq_of_beq e]
      exact List.mem_cons_self
    · exact List.mem_cons_of_mem _ (ih h)
theorem ofInt_inj {x y : Int} (hx : inR x) (hy : inR y) : Int32.ofInt x = Int32.ofInt y ↔ x = y := by
  constructor
  · intro h
    have h2 := congrArg Int32.toInt h
    rwa [Int32.toInt_ofInt_of_le (by omega) (by omega), Int32.toInt_ofInt_of_le (by omega) (by omega)] at h2
  · intro h
    rw [h]
theorem ofInt_lt {x y : Int} (hx : inR x) (hy : inR y) : Int32.ofInt x < Int32.ofInt y ↔ x < y := by
  rw [Int32.lt_iff_toInt_lt, Int32.toInt_ofInt_of_le (by omega) (by omega), Int32.toInt_ofInt_of_le (by omega) (by omega)]
theorem ofInt_le {x y : Int} (hx : inR x) (hy : inR y) : Int32.ofInt x ≤ Int32.ofInt y ↔ x ≤ y := by
  rw [Int32.le_iff_toInt_le, Int32.toInt_ofInt_of_le (by omega) (by omega), Int32.toInt_ofInt_of_le (by omega) (by omega)]
theorem ofInt_in {i : Int} {n : Nat} (h0 : 0 ≤ i) (hn : i.toNat < n) (hi : i < 2147483648) : vp_in (Int32.ofInt i) n ∧ (Int32.ofInt i).toNatClampNeg = i.toNat := by
  have e : (Int32.ofInt i).toNatClampNeg = i.toNat := Int32.toNatClampNeg_ofInt_of_le (by omega) (by omega)
  refine ⟨?_, e⟩
  unfold vp_in
  rw [e]
  intro q
  rcases q with q | q
  · rw [show (0 : Int32) = Int32.ofInt 0 from rfl, ofInt_lt (by omega) (by omega)] at q
    omega
  · omega
