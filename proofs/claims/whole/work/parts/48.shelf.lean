/-! THE CLASS: frames for any address; its shelves -/
def EqP (P : Nat → Nat → Prop) (c c2 : Nat → Nat → Int) : Prop := ∀ a k, ¬ P a k → c2 a k = c a k
section EQP
variable {P Q : Nat → Nat → Prop} {c c1 c2 : Nat → Nat → Int} {a b k j : Nat} {x : Int}
theorem EqP.nil : EqP P c c := fun _ _ _ => rfl
theorem EqP.trans (h1 : EqP P c c1) (h2 : EqP P c1 c2) : EqP P c c2 := fun a k e => (h2 a k e).trans (h1 a k e)
theorem EqP.mono (h : EqP P c c2) (hs : ∀ a k, P a k → Q a k) : EqP Q c c2 := fun a k e => h a k (fun z => e (hs a k z))
theorem EqP.row (h : EqP P c c2) (a : Nat) (hP : ∀ k, ¬ P a k) : c2 a = c a := funext fun k => h a k (hP k)
theorem up2_fldN (e : b ≠ a ∨ j ≠ k) : up2 c a k x b j = c b j := if_neg (by omega)
theorem up2_othN (e : b ≠ a) : up2 c a k x b = c b := funext fun j => if_neg (by omega)
theorem EqP.up (h : P a k) : EqP P c (up2 c a k x) := by
  intro b j e
  refine up2_fldN ?_
  by_cases hb : b = a
  · right
    intro hj
    subst hb; subst hj
    exact e h
  · exact Or.inl hb
end EQP
def Sh (h : Hp) (c : Nat → Nat → Int) (a w m : Nat) : Prop := a + 2 < mN h ∧ mK h a = 8 ∧ mK h (a + 1) = 20 ∧ mK h (a + 2) = 20 ∧ mL h (a + 1) = m ∧ mL h (a + 2) = m ∧ c a 0 = (w : Int) ∧ c a 1 = ((a + 1 : Nat) : Int) ∧ c a 2 = ((a + 2 : Nat) : Int)
/-- what a shelf holds -/
def atS (c : Nat → Nat → Int) (a w : Nat) (row col : Int) : Int := if (0 ≤ row ∧ row < c a 3) ∧ (0 ≤ col ∧ col < w) then c (a + 1) (row * w + col).toNat else 0
theorem mulw {R x : Int} {w m : Nat} (hw : 0 < w ∧ w ≤ 3) (h0 : 0 ≤ x) (h1 : x < R) (h2 : R * (w : Int) ≤ m) : 0 ≤ x * (w : Int) ∧ x * (w : Int) + w ≤ m := by
  rcases (show w = 1 ∨ w = 2 ∨ w = 3 by omega) with rfl | rfl | rfl <;> omega
theorem k20 {h : Hp} {a : Nat} (e : mK h a = 20) : 20 ≤ mK h a ∧ mK h a < 23 := by omega
/-- the integer is what stands in the place -/
theorem rdC {h : Hp} {c : Nat → Nat → Int} {q : Nat} {i : Int} {j : Nat} (e : i.toNat = j) : mC (wC h c) q i.toNat = c q j := by rw [mC_wC, e]
set_option maxHeartbeats 4000000 in
set_option maxRecDepth 100000 in
theorem s_at {d : Nat} {h : Hp} {c : Nat → Nat → Int} {a w m : Nat} (hS : Sh h c a w m) (hw : 0 < w ∧ w ≤ 3) (hm : m ≤ 400) {row col : Int} (hr : inR row) (hc : inR col) (hR : 0 ≤ c a 3 ∧ c a 3 * (w : Int) ≤ m) (hR2 : c a 3 ≤ 400) : Ok (d) 60 [(1, ((a : Nat) : Int)), (0, row), (0, col)] (wC h c) (fun r h2 => r = some (0, atS c a w row col) ∧ h2 = wC h c) := by
  show Ex _ none t_X7_at 0 0 _ [] (wC h c) _
  obtain ⟨s1, s2, s3, s4, s5, s6, s7, s8, s9⟩ := hS
  refine E_load rfl rfl rfl ?_
  refine E_if2 rfl (by omega) (fun q1 => ?_) (fun q1 => ?_)
  · refine E_const rfl ?_
    refine E_iret rfl (fun h => absurd h (by decide)) ?_
    exact ⟨by unfold atS; rw [if_neg (by omega)], rfl⟩
  · refine E_load rfl rfl rfl ?_
    refine E_load rfl rfl rfl ?_
    refine E_getf (c := 8) (v := (0, (c a 3))) rfl (by omega : a < mN h) s2 rfl (fv (rfl)) ?_
    refine E_cmp3 rfl (by omega) (fun q2 => ?_) (fun q2 => ?_)
    · refine E_const rfl ?_
      refine E_iret rfl (fun h => absurd h (by decide)) ?_
      exact ⟨by unfold atS; rw [if_neg (by omega)], rfl⟩
    · refine E_load rfl rfl rfl ?_
      refine E_if2 rfl (by omega) (fun q3 => ?_) (fun q3 => ?_)
      · refine E_const rfl ?_
        refine E_iret rfl (fun h => absurd h (by decide)) ?_
        exact ⟨by unfold atS; rw [if_neg (by omega)], rfl⟩
      · refine E_load rfl rfl rfl ?_
        refine E_load rfl rfl rfl ?_
        refine E_getf (c := 8) (v := (0, ((w : Nat) : Int))) rfl (by omega : a < mN h) s2 rfl (fv (s7)) ?_
        refine E_cmp2 rfl (by omega) (fun q4 => ?_) (fun q4 => ?_)
        · have hmw := mulw hw (x := row) (by omega) (by omega) hR.2
          refine E_load rfl rfl rfl ?_
          refine E_load rfl rfl rfl ?_
          refine E_getf (c := 8) (v := (0, ((w : Nat) : Int))) rfl (by omega : a < mN h) s2 rfl (fv (s7)) ?_
          refine E_mul rfl ?_
          refine E_load rfl rfl rfl ?_
          refine E_add rfl ?_
          refine E_store rfl rfl rfl ?_
          refine E_load rfl rfl rfl ?_
          refine E_if2 rfl (by omega) (fun q5 => ?_) (fun q5 => ?_)
          · exfalso; omega
          · refine E_load rfl rfl rfl ?_
            refine E_load rfl rfl rfl ?_
            refine E_getr (c := 8) (r := (a + 1)) rfl (by omega : a < mN h) s2 rfl (s8) ?_
            refine E_len (n := m) rfl (by omega : a + 1 < mN h) (k20 s3) s5 ?_
            refine E_cmp3 rfl (by omega) (fun q6 => ?_) (fun q6 => ?_)
            · exfalso; omega
            · refine E_load rfl rfl rfl ?_
              refine E_getr (c := 8) (r := (a + 1)) rfl (by omega : a < mN h) s2 rfl (s8) ?_
              refine E_load rfl rfl rfl ?_
              refine E_ialn (n := m) (v := (c (a + 1) (row * (w : Int) + col).toNat)) rfl (by omega : a + 1 < mN h) s3 s5 (by omega) (rdC rfl) ?_
              refine E_goto rfl ?_
              refine E_iret rfl (fun h => absurd h (by decide)) ?_
              exact ⟨by unfold atS; rw [if_pos (by omega)], rfl⟩
        · refine E_const rfl ?_
          refine E_iret rfl (fun h => absurd h (by decide)) ?_
          exact ⟨by unfold atS; rw [if_neg (by omega)], rfl⟩
set_option maxHeartbeats 4000000 in
set_option maxRecDepth 100000 in
theorem s_put {d : Nat} {h : Hp} {c : Nat → Nat → Int} {a w m : Nat} (hS : Sh h c a w m) (hw : 0 < w ∧ w ≤ 3) (hm : m ≤ 400) {row n : Int} (hr : inR row) (hR : 0 ≤ c a 3 ∧ c a 3 * (w : Int) ≤ m) (hR2 : c a 3 ≤ 400) (hrow : 0 ≤ row ∧ row < c a 3) : Ok (d) 61 [(1, ((a : Nat) : Int)), (0, row), (0, n)] (wC h c) (fun r h2 => r = none ∧ ∃ c2, h2 = wC h c2 ∧ c2 = up2 c (a + 1) (row * (w : Int)).toNat n) := by
  show Ex _ none t_X7_put 0 0 _ [] (wC h c) _
  obtain ⟨s1, s2, s3, s4, s5, s6, s7, s8, s9⟩ := hS
  have hmw := mulw hw (x := row) (by omega) (by omega) hR.2
  refine E_load rfl rfl rfl ?_
  refine E_load rfl rfl rfl ?_
  refine E_getf (c := 8) (v := (0, ((w : Nat) : Int))) rfl (by omega : a < mN h) s2 rfl (fv (s7)) ?_
  refine E_mul rfl ?_
  refine E_store rfl rfl rfl ?_
  refine E_load rfl rfl rfl ?_
  refine E_if2 rfl (by omega) (fun q1 => ?_) (fun q1 => ?_)
  · exfalso; omega
  · refine E_load rfl rfl rfl ?_
    refine E_load rfl rfl rfl ?_
    refine E_getf (c := 8) (v := (0, (c a 3))) rfl (by omega : a < mN h) s2 rfl (fv (rfl)) ?_
    refine E_cmp3 rfl (by omega) (fun q2 => ?_) (fun q2 => ?_)
    · exfalso; omega
    · refine E_load rfl rfl rfl ?_
      refine E_if2 rfl (by omega) (fun q3 => ?_) (fun q3 => ?_)
      · exfalso; omega
      · refine E_load rfl rfl rfl ?_
        refine E_load rfl rfl rfl ?_
        refine E_getr (c := 8) (r := (a + 1)) rfl (by omega : a < mN h) s2 rfl (s8) ?_
        refine E_len (n := m) rfl (by omega : a + 1 < mN h) (k20 s3) s5 ?_
        refine E_cmp3 rfl (by omega) (fun q4 => ?_) (fun q4 => ?_)
        · exfalso; omega
        · refine E_load rfl rfl rfl ?_
          refine E_getr (c := 8) (r := (a + 1)) rfl (by omega : a < mN h) s2 rfl (s8) ?_
          refine E_load rfl rfl rfl ?_
          refine E_load rfl rfl rfl ?_
          refine E_iasg (n := m) (j := ((row * (w : Int)).toNat)) rfl (by omega : a + 1 < mN h) s3 s5 (by omega) (rfl) (fun c_1 hc_1 => ?_)
          have hE_1 : EqP (fun b k => b = a + 1 ∨ (b = a ∧ k = 3)) c c_1 := by rw [hc_1]; exact EqP.up (by omega)
          have hfa_0_1 : c_1 a 0 = ((w : Nat) : Int) := by rw [hc_1]; exact (up2_fldN (by omega)).trans (s7)
          have hfa_1_1 : c_1 a 1 = (((a + 1) : Nat) : Int) := by rw [hc_1]; exact (up2_fldN (by omega)).trans (s8)
          have hfa_2_1 : c_1 a 2 = (((a + 2) : Nat) : Int) := by rw [hc_1]; exact (up2_fldN (by omega)).trans (s9)
          refine E_vret rfl ?_
          exact ⟨rfl, c_1, rfl, hc_1⟩
set_option maxHeartbeats 4000000 in
set_option maxRecDepth 100000 in
theorem s_clear {d : Nat} {h : Hp} {c : Nat → Nat → Int} {a w m : Nat} (hS : Sh h c a w m) (hw : 0 < w ∧ w ≤ 3) (hm : m ≤ 400) : Ok (d) 62 [(1, ((a : Nat) : Int))] (wC h c) (fun r h2 => r = none ∧ ∃ c2, h2 = wC h c2 ∧ c2 = up2 c a 3 0) := by
  show Ex _ none t_X7_clear 0 0 _ [] (wC h c) _
  obtain ⟨s1, s2, s3, s4, s5, s6, s7, s8, s9⟩ := hS
  refine E_load rfl rfl rfl ?_
  refine E_const rfl ?_
  refine E_putg (cl := 8) rfl (by omega : a < mN h) s2 rfl (fun c_1 hc_1 => ?_)
  have hE_1 : EqP (fun b k => b = a + 1 ∨ (b = a ∧ k = 3)) c c_1 := by rw [hc_1]; exact EqP.up (by omega)
  have hfa_0_1 : c_1 a 0 = ((w : Nat) : Int) := by rw [hc_1]; exact (up2_fldN (by omega)).trans (s7)
  have hfa_1_1 : c_1 a 1 = (((a + 1) : Nat) : Int) := by rw [hc_1]; exact (up2_fldN (by omega)).trans (s8)
  have hfa_2_1 : c_1 a 2 = (((a + 2) : Nat) : Int) := by rw [hc_1]; exact (up2_fldN (by omega)).trans (s9)
  have hfa_3_1 : c_1 a 3 = 0 := by rw [hc_1]; exact up2_same
  refine E_vret rfl ?_
  exact ⟨rfl, c_1, rfl, hc_1⟩
/-- a row put behind: w of the three numbers -/
def adS (c : Nat → Nat → Int) (a w : Nat) (x y z : Int) : Nat → Nat → Int :=
  let r := (c a 3 * (w : Int)).toNat
  let c1 := up2 c (a + 1) (r + 0) x
  let c2 := if 1 < w then up2 c1 (a + 1) (r + 1) y else c1
  let c3 := if 2 < w then up2 c2 (a + 1) (r + 2) z else c2
  up2 c3 a 3 (c a 3 + 1)
set_option maxHeartbeats 4000000 in
set_option maxRecDepth 100000 in
theorem s_add1 {d : Nat} {h : Hp} {c : Nat → Nat → Int} {a m : Nat} (hS : Sh h c a 1 m) (hm : m ≤ 400) {x y z : Int} (hR : 0 ≤ c a 3 ∧ c a 3 * 1 ≤ m) (hR2 : c a 3 ≤ 400) : Ok (d) 59 [(1, ((a : Nat) : Int)), (0, x), (0, y), (0, z)] (wC h c) (fun r h2 => r = some (0, bI (c a 3 * 1 + 1 ≤ m)) ∧ ∃ c2, h2 = wC h c2 ∧ c2 = if c a 3 * 1 + 1 ≤ m then adS c a 1 x y z else c) := by
  show Ex _ none t_X7_add 3 0 _ [] (wC h c) _
  obtain ⟨s1, s2, s3, s4, s5, s6, s7, s8, s9⟩ := hS
  obtain ⟨R, hRn⟩ := Int.eq_ofNat_of_zero_le hR.1
  refine E_load rfl rfl rfl ?_
  refine E_getf (c := 8) (v := (0, ((R : Nat) : Int))) rfl (by omega : a < mN h) s2 rfl (fv (hRn)) ?_
  refine E_load rfl rfl rfl ?_
  refine E_getf (c := 8) (v := (0, 1)) rfl (by omega : a < mN h) s2 rfl (fv (s7)) ?_
  refine E_mul rfl ?_
  refine E_store rfl rfl rfl ?_
  refine E_load rfl rfl rfl ?_
  refine E_if2 rfl (by omega) (fun q1 => ?_) (fun q1 => ?_)
  · exfalso; omega
  · refine E_load rfl rfl rfl ?_
    refine E_load rfl rfl rfl ?_
    refine E_getf (c := 8) (v := (0, 1)) rfl (by omega : a < mN h) s2 rfl (fv (s7)) ?_
    refine E_add rfl ?_
    refine E_load rfl rfl rfl ?_
    refine E_getr (c := 8) (r := (a + 1)) rfl (by omega : a < mN h) s2 rfl (s8) ?_
    refine E_len (n := m) rfl (by omega : a + 1 < mN h) (k20 s3) s5 ?_
    refine E_cmp5 rfl (by omega) (fun q2 => ?_) (fun q2 => ?_)
    · refine E_const rfl ?_
      refine E_store rfl rfl rfl ?_
      refine E_load rfl rfl rfl ?_
      refine E_load rfl rfl rfl ?_
      refine E_getf (c := 8) (v := (0, 1)) rfl (by omega : a < mN h) s2 rfl (fv (s7)) ?_
      refine E_cmp3 rfl (by omega) (fun q3 => ?_) (fun q3 => ?_)
      · exfalso; omega
      · refine E_load rfl rfl rfl ?_
        refine E_load rfl rfl rfl ?_
        refine E_add rfl ?_
        refine E_load rfl rfl rfl ?_
        refine E_getr (c := 8) (r := (a + 1)) rfl (by omega : a < mN h) s2 rfl (s8) ?_
        refine E_len (n := m) rfl (by omega : a + 1 < mN h) (k20 s3) s5 ?_
        refine E_cmp3 rfl (by omega) (fun q4 => ?_) (fun q4 => ?_)
        · exfalso; omega
        · refine E_load rfl rfl rfl ?_
          refine E_getr (c := 8) (r := (a + 1)) rfl (by omega : a < mN h) s2 rfl (s8) ?_
          refine E_load rfl rfl rfl ?_
          refine E_load rfl rfl rfl ?_
          refine E_add rfl ?_
          refine E_load rfl rfl rfl ?_
          refine E_if1 rfl (by omega) (fun q5 => ?_) (fun q5 => ?_)
          · exfalso; omega
          · refine E_load rfl rfl rfl ?_
            refine E_goto rfl ?_
            refine E_iasg (n := m) (j := ((R * 1) + 0)) rfl (by omega : a + 1 < mN h) s3 s5 (by omega) (by omega) (fun c_1 hc_1 => ?_)
            have hE_1 : EqP (fun b k => b = a + 1 ∨ (b = a ∧ k = 3)) c c_1 := by rw [hc_1]; exact EqP.up (by omega)
            have hfa_0_1 : c_1 a 0 = 1 := by rw [hc_1]; exact (up2_fldN (by omega)).trans (s7)
            have hfa_1_1 : c_1 a 1 = (((a + 1) : Nat) : Int) := by rw [hc_1]; exact (up2_fldN (by omega)).trans (s8)
            have hfa_2_1 : c_1 a 2 = (((a + 2) : Nat) : Int) := by rw [hc_1]; exact (up2_fldN (by omega)).trans (s9)
            have hfa_3_1 : c_1 a 3 = ((R : Nat) : Int) := by rw [hc_1]; exact (up2_fldN (by omega)).trans (hRn)
            refine E_iinc rfl rfl rfl ?_
            refine E_goto rfl ?_
            refine E_load rfl rfl rfl ?_
            refine E_load rfl rfl rfl ?_
            refine E_getf (c := 8) (v := (0, 1)) rfl (by omega : a < mN h) s2 rfl (fv (hfa_0_1)) ?_
            refine E_cmp3 rfl (by omega) (fun q6 => ?_) (fun q6 => ?_)
            · refine E_load rfl rfl rfl ?_
              refine E_dup rfl rfl ?_
              refine E_getf (c := 8) (v := (0, ((R : Nat) : Int))) rfl (by omega : a < mN h) s2 rfl (fv (hfa_3_1)) ?_
              refine E_const rfl ?_
              refine E_add rfl ?_
              refine E_putg (cl := 8) rfl (by omega : a < mN h) s2 rfl (fun c_2 hc_2 => ?_)
              have hE_2 : EqP (fun b k => b = a + 1 ∨ (b = a ∧ k = 3)) c_1 c_2 := by rw [hc_2]; exact EqP.up (by omega)
              have hfa_0_2 : c_2 a 0 = 1 := by rw [hc_2]; exact (up2_fldN (by omega)).trans (hfa_0_1)
              have hfa_1_2 : c_2 a 1 = (((a + 1) : Nat) : Int) := by rw [hc_2]; exact (up2_fldN (by omega)).trans (hfa_1_1)
              have hfa_2_2 : c_2 a 2 = (((a + 2) : Nat) : Int) := by rw [hc_2]; exact (up2_fldN (by omega)).trans (hfa_2_1)
              have hfa_3_2 : c_2 a 3 = (((R : Nat) : Int) + 1) := by rw [hc_2]; exact up2_same
              refine E_const rfl ?_
              refine E_iret rfl (fun _ => by first | exact Or.inl rfl | exact Or.inr rfl) ?_
              refine ⟨by rw [bI_t (by omega)], c_2, rfl, ?_⟩
              rw [if_pos (by omega)]
              unfold adS
              rw [hRn, show ((R : Int) * ((1 : Nat) : Int)).toNat = R * 1 by omega]
              rw [hc_2, hc_1]
              rfl
            · exfalso; omega
    · refine E_const rfl ?_
      refine E_iret rfl (fun _ => by first | exact Or.inl rfl | exact Or.inr rfl) ?_
      exact ⟨by rw [bI_f (by omega)], c, rfl, by rw [if_neg (by omega)]⟩
set_option maxHeartbeats 4000000 in
set_option maxRecDepth 100000 in
theorem s_add2 {d : Nat} {h : Hp} {c : Nat → Nat → Int} {a m : Nat} (hS : Sh h c a 2 m) (hm : m ≤ 400) {x y z : Int} (hR : 0 ≤ c a 3 ∧ c a 3 * 2 ≤ m) (hR2 : c a 3 ≤ 400) : Ok (d) 59 [(1, ((a : Nat) : Int)), (0, x), (0, y), (0, z)] (wC h c) (fun r h2 => r = some (0, bI (c a 3 * 2 + 2 ≤ m)) ∧ ∃ c2, h2 = wC h c2 ∧ c2 = if c a 3 * 2 + 2 ≤ m then adS c a 2 x y z else c) := by
  show Ex _ none t_X7_add 3 0 _ [] (wC h c) _
  obtain ⟨s1, s2, s3, s4, s5, s6, s7, s8, s9⟩ := hS
  obtain ⟨R, hRn⟩ := Int.eq_ofNat_of_zero_le hR.1
  refine E_load rfl rfl rfl ?_
  refine E_getf (c := 8) (v := (0, ((R : Nat) : Int))) rfl (by omega : a < mN h) s2 rfl (fv (hRn)) ?_
  refine E_load rfl rfl rfl ?_
  refine E_getf (c := 8) (v := (0, 2)) rfl (by omega : a < mN h) s2 rfl (fv (s7)) ?_
  refine E_mul rfl ?_
  refine E_store rfl rfl rfl ?_
  refine E_load rfl rfl rfl ?_
  refine E_if2 rfl (by omega) (fun q1 => ?_) (fun q1 => ?_)
  · exfalso; omega
  · refine E_load rfl rfl rfl ?_
    refine E_load rfl rfl rfl ?_
    refine E_getf (c := 8) (v := (0, 2)) rfl (by omega : a < mN h) s2 rfl (fv (s7)) ?_
    refine E_add rfl ?_
    refine E_load rfl rfl rfl ?_
    refine E_getr (c := 8) (r := (a + 1)) rfl (by omega : a < mN h) s2 rfl (s8) ?_
    refine E_len (n := m) rfl (by omega : a + 1 < mN h) (k20 s3) s5 ?_
    refine E_cmp5 rfl (by omega) (fun q2 => ?_) (fun q2 => ?_)
    · refine E_const rfl ?_
      refine E_store rfl rfl rfl ?_
      refine E_load rfl rfl rfl ?_
      refine E_load rfl rfl rfl ?_
      refine E_getf (c := 8) (v := (0, 2)) rfl (by omega : a < mN h) s2 rfl (fv (s7)) ?_
      refine E_cmp3 rfl (by omega) (fun q3 => ?_) (fun q3 => ?_)
      · exfalso; omega
      · refine E_load rfl rfl rfl ?_
        refine E_load rfl rfl rfl ?_
        refine E_add rfl ?_
        refine E_load rfl rfl rfl ?_
        refine E_getr (c := 8) (r := (a + 1)) rfl (by omega : a < mN h) s2 rfl (s8) ?_
        refine E_len (n := m) rfl (by omega : a + 1 < mN h) (k20 s3) s5 ?_
        refine E_cmp3 rfl (by omega) (fun q4 => ?_) (fun q4 => ?_)
        · exfalso; omega
        · refine E_load rfl rfl rfl ?_
          refine E_getr (c := 8) (r := (a + 1)) rfl (by omega : a < mN h) s2 rfl (s8) ?_
          refine E_load rfl rfl rfl ?_
          refine E_load rfl rfl rfl ?_
          refine E_add rfl ?_
          refine E_load rfl rfl rfl ?_
          refine E_if1 rfl (by omega) (fun q5 => ?_) (fun q5 => ?_)
          · exfalso; omega
          · refine E_load rfl rfl rfl ?_
            refine E_goto rfl ?_
            refine E_iasg (n := m) (j := ((R * 2) + 0)) rfl (by omega : a + 1 < mN h) s3 s5 (by omega) (by omega) (fun c_1 hc_1 => ?_)
            have hE_1 : EqP (fun b k => b = a + 1 ∨ (b = a ∧ k = 3)) c c_1 := by rw [hc_1]; exact EqP.up (by omega)
            have hfa_0_1 : c_1 a 0 = 2 := by rw [hc_1]; exact (up2_fldN (by omega)).trans (s7)
            have hfa_1_1 : c_1 a 1 = (((a + 1) : Nat) : Int) := by rw [hc_1]; exact (up2_fldN (by omega)).trans (s8)
            have hfa_2_1 : c_1 a 2 = (((a + 2) : Nat) : Int) := by rw [hc_1]; exact (up2_fldN (by omega)).trans (s9)
            have hfa_3_1 : c_1 a 3 = ((R : Nat) : Int) := by rw [hc_1]; exact (up2_fldN (by omega)).trans (hRn)
            refine E_iinc rfl rfl rfl ?_
            refine E_goto rfl ?_
            refine E_load rfl rfl rfl ?_
            refine E_load rfl rfl rfl ?_
            refine E_getf (c := 8) (v := (0, 2)) rfl (by omega : a < mN h) s2 rfl (fv (hfa_0_1)) ?_
            refine E_cmp3 rfl (by omega) (fun q6 => ?_) (fun q6 => ?_)
            · exfalso; omega
            · refine E_load rfl rfl rfl ?_
              refine E_load rfl rfl rfl ?_
              refine E_add rfl ?_
              refine E_load rfl rfl rfl ?_
              refine E_getr (c := 8) (r := (a + 1)) rfl (by omega : a < mN h) s2 rfl (hfa_1_1) ?_
              refine E_len (n := m) rfl (by omega : a + 1 < mN h) (k20 s3) s5 ?_
              refine E_cmp3 rfl (by omega) (fun q7 => ?_) (fun q7 => ?_)
              · exfalso; omega
              · refine E_load rfl rfl rfl ?_
                refine E_getr (c := 8) (r := (a + 1)) rfl (by omega : a < mN h) s2 rfl (hfa_1_1) ?_
                refine E_load rfl rfl rfl ?_
                refine E_load rfl rfl rfl ?_
                refine E_add rfl ?_
                refine E_load rfl rfl rfl ?_
                refine E_if1 rfl (by omega) (fun q8 => ?_) (fun q8 => ?_)
                · refine E_load rfl rfl rfl ?_
                  refine E_const rfl ?_
                  refine E_cmp1 rfl (by omega) (fun q9 => ?_) (fun q9 => ?_)
                  · exfalso; omega
                  · refine E_load rfl rfl rfl ?_
                    refine E_goto rfl ?_
                    refine E_iasg (n := m) (j := ((R * 2) + 1)) rfl (by omega : a + 1 < mN h) s3 s5 (by omega) (by omega) (fun c_2 hc_2 => ?_)
                    have hE_2 : EqP (fun b k => b = a + 1 ∨ (b = a ∧ k = 3)) c_1 c_2 := by rw [hc_2]; exact EqP.up (by omega)
                    have hfa_0_2 : c_2 a 0 = 2 := by rw [hc_2]; exact (up2_fldN (by omega)).trans (hfa_0_1)
                    have hfa_1_2 : c_2 a 1 = (((a + 1) : Nat) : Int) := by rw [hc_2]; exact (up2_fldN (by omega)).trans (hfa_1_1)
                    have hfa_2_2 : c_2 a 2 = (((a + 2) : Nat) : Int) := by rw [hc_2]; exact (up2_fldN (by omega)).trans (hfa_2_1)
                    have hfa_3_2 : c_2 a 3 = ((R : Nat) : Int) := by rw [hc_2]; exact (up2_fldN (by omega)).trans (hfa_3_1)
                    refine E_iinc rfl rfl rfl ?_
                    refine E_goto rfl ?_
                    refine E_load rfl rfl rfl ?_
                    refine E_load rfl rfl rfl ?_
                    refine E_getf (c := 8) (v := (0, 2)) rfl (by omega : a < mN h) s2 rfl (fv (hfa_0_2)) ?_
                    refine E_cmp3 rfl (by omega) (fun q10 => ?_) (fun q10 => ?_)
                    · refine E_load rfl rfl rfl ?_
                      refine E_dup rfl rfl ?_
                      refine E_getf (c := 8) (v := (0, ((R : Nat) : Int))) rfl (by omega : a < mN h) s2 rfl (fv (hfa_3_2)) ?_
                      refine E_const rfl ?_
                      refine E_add rfl ?_
                      refine E_putg (cl := 8) rfl (by omega : a < mN h) s2 rfl (fun c_3 hc_3 => ?_)
                      have hE_3 : EqP (fun b k => b = a + 1 ∨ (b = a ∧ k = 3)) c_2 c_3 := by rw [hc_3]; exact EqP.up (by omega)
                      have hfa_0_3 : c_3 a 0 = 2 := by rw [hc_3]; exact (up2_fldN (by omega)).trans (hfa_0_2)
                      have hfa_1_3 : c_3 a 1 = (((a + 1) : Nat) : Int) := by rw [hc_3]; exact (up2_fldN (by omega)).trans (hfa_1_2)
                      have hfa_2_3 : c_3 a 2 = (((a + 2) : Nat) : Int) := by rw [hc_3]; exact (up2_fldN (by omega)).trans (hfa_2_2)
                      have hfa_3_3 : c_3 a 3 = (((R : Nat) : Int) + 1) := by rw [hc_3]; exact up2_same
                      refine E_const rfl ?_
                      refine E_iret rfl (fun _ => by first | exact Or.inl rfl | exact Or.inr rfl) ?_
                      refine ⟨by rw [bI_t (by omega)], c_3, rfl, ?_⟩
                      rw [if_pos (by omega)]
                      unfold adS
                      rw [hRn, show ((R : Int) * ((2 : Nat) : Int)).toNat = R * 2 by omega]
                      rw [hc_3, hc_2, hc_1]
                      rfl
                    · exfalso; omega
                · exfalso; omega
    · refine E_const rfl ?_
      refine E_iret rfl (fun _ => by first | exact Or.inl rfl | exact Or.inr rfl) ?_
      exact ⟨by rw [bI_f (by omega)], c, rfl, by rw [if_neg (by omega)]⟩
set_option maxHeartbeats 4000000 in
set_option maxRecDepth 100000 in
theorem s_add3 {d : Nat} {h : Hp} {c : Nat → Nat → Int} {a m : Nat} (hS : Sh h c a 3 m) (hm : m ≤ 400) {x y z : Int} (hR : 0 ≤ c a 3 ∧ c a 3 * 3 ≤ m) (hR2 : c a 3 ≤ 400) : Ok (d) 59 [(1, ((a : Nat) : Int)), (0, x), (0, y), (0, z)] (wC h c) (fun r h2 => r = some (0, bI (c a 3 * 3 + 3 ≤ m)) ∧ ∃ c2, h2 = wC h c2 ∧ c2 = if c a 3 * 3 + 3 ≤ m then adS c a 3 x y z else c) := by
  show Ex _ none t_X7_add 3 0 _ [] (wC h c) _
  obtain ⟨s1, s2, s3, s4, s5, s6, s7, s8, s9⟩ := hS
  obtain ⟨R, hRn⟩ := Int.eq_ofNat_of_zero_le hR.1
  refine E_load rfl rfl rfl ?_
  refine E_getf (c := 8) (v := (0, ((R : Nat) : Int))) rfl (by omega : a < mN h) s2 rfl (fv (hRn)) ?_
  refine E_load rfl rfl rfl ?_
  refine E_getf (c := 8) (v := (0, 3)) rfl (by omega : a < mN h) s2 rfl (fv (s7)) ?_
  refine E_mul rfl ?_
  refine E_store rfl rfl rfl ?_
  refine E_load rfl rfl rfl ?_
  refine E_if2 rfl (by omega) (fun q1 => ?_) (fun q1 => ?_)
  · exfalso; omega
  · refine E_load rfl rfl rfl ?_
    refine E_load rfl rfl rfl ?_
    refine E_getf (c := 8) (v := (0, 3)) rfl (by omega : a < mN h) s2 rfl (fv (s7)) ?_
    refine E_add rfl ?_
    refine E_load rfl rfl rfl ?_
    refine E_getr (c := 8) (r := (a + 1)) rfl (by omega : a < mN h) s2 rfl (s8) ?_
    refine E_len (n := m) rfl (by omega : a + 1 < mN h) (k20 s3) s5 ?_
    refine E_cmp5 rfl (by omega) (fun q2 => ?_) (fun q2 => ?_)
    · refine E_const rfl ?_
      refine E_store rfl rfl rfl ?_
      refine E_load rfl rfl rfl ?_
      refine E_load rfl rfl rfl ?_
      refine E_getf (c := 8) (v := (0, 3)) rfl (by omega : a < mN h) s2 rfl (fv (s7)) ?_
      refine E_cmp3 rfl (by omega) (fun q3 => ?_) (fun q3 => ?_)
      · exfalso; omega
      · refine E_load rfl rfl rfl ?_
        refine E_load rfl rfl rfl ?_
        refine E_add rfl ?_
        refine E_load rfl rfl rfl ?_
        refine E_getr (c := 8) (r := (a + 1)) rfl (by omega : a < mN h) s2 rfl (s8) ?_
        refine E_len (n := m) rfl (by omega : a + 1 < mN h) (k20 s3) s5 ?_
        refine E_cmp3 rfl (by omega) (fun q4 => ?_) (fun q4 => ?_)
        · exfalso; omega
        · refine E_load rfl rfl rfl ?_
          refine E_getr (c := 8) (r := (a + 1)) rfl (by omega : a < mN h) s2 rfl (s8) ?_
          refine E_load rfl rfl rfl ?_
          refine E_load rfl rfl rfl ?_
          refine E_add rfl ?_
          refine E_load rfl rfl rfl ?_
          refine E_if1 rfl (by omega) (fun q5 => ?_) (fun q5 => ?_)
          · exfalso; omega
          · refine E_load rfl rfl rfl ?_
            refine E_goto rfl ?_
            refine E_iasg (n := m) (j := ((R * 3) + 0)) rfl (by omega : a + 1 < mN h) s3 s5 (by omega) (by omega) (fun c_1 hc_1 => ?_)
            have hE_1 : EqP (fun b k => b = a + 1 ∨ (b = a ∧ k = 3)) c c_1 := by rw [hc_1]; exact EqP.up (by omega)
            have hfa_0_1 : c_1 a 0 = 3 := by rw [hc_1]; exact (up2_fldN (by omega)).trans (s7)
            have hfa_1_1 : c_1 a 1 = (((a + 1) : Nat) : Int) := by rw [hc_1]; exact (up2_fldN (by omega)).trans (s8)
            have hfa_2_1 : c_1 a 2 = (((a + 2) : Nat) : Int) := by rw [hc_1]; exact (up2_fldN (by omega)).trans (s9)
            have hfa_3_1 : c_1 a 3 = ((R : Nat) : Int) := by rw [hc_1]; exact (up2_fldN (by omega)).trans (hRn)
            refine E_iinc rfl rfl rfl ?_
            refine E_goto rfl ?_
            refine E_load rfl rfl rfl ?_
            refine E_load rfl rfl rfl ?_
            refine E_getf (c := 8) (v := (0, 3)) rfl (by omega : a < mN h) s2 rfl (fv (hfa_0_1)) ?_
            refine E_cmp3 rfl (by omega) (fun q6 => ?_) (fun q6 => ?_)
            · exfalso; omega
            · refine E_load rfl rfl rfl ?_
              refine E_load rfl rfl rfl ?_
              refine E_add rfl ?_
              refine E_load rfl rfl rfl ?_
              refine E_getr (c := 8) (r := (a + 1)) rfl (by omega : a < mN h) s2 rfl (hfa_1_1) ?_
              refine E_len (n := m) rfl (by omega : a + 1 < mN h) (k20 s3) s5 ?_
              refine E_cmp3 rfl (by omega) (fun q7 => ?_) (fun q7 => ?_)
              · exfalso; omega
              · refine E_load rfl rfl rfl ?_
                refine E_getr (c := 8) (r := (a + 1)) rfl (by omega : a < mN h) s2 rfl (hfa_1_1) ?_
                refine E_load rfl rfl rfl ?_
                refine E_load rfl rfl rfl ?_
                refine E_add rfl ?_
                refine E_load rfl rfl rfl ?_
                refine E_if1 rfl (by omega) (fun q8 => ?_) (fun q8 => ?_)
                · refine E_load rfl rfl rfl ?_
                  refine E_const rfl ?_
                  refine E_cmp1 rfl (by omega) (fun q9 => ?_) (fun q9 => ?_)
                  · exfalso; omega
                  · refine E_load rfl rfl rfl ?_
                    refine E_goto rfl ?_
                    refine E_iasg (n := m) (j := ((R * 3) + 1)) rfl (by omega : a + 1 < mN h) s3 s5 (by omega) (by omega) (fun c_2 hc_2 => ?_)
                    have hE_2 : EqP (fun b k => b = a + 1 ∨ (b = a ∧ k = 3)) c_1 c_2 := by rw [hc_2]; exact EqP.up (by omega)
                    have hfa_0_2 : c_2 a 0 = 3 := by rw [hc_2]; exact (up2_fldN (by omega)).trans (hfa_0_1)
                    have hfa_1_2 : c_2 a 1 = (((a + 1) : Nat) : Int) := by rw [hc_2]; exact (up2_fldN (by omega)).trans (hfa_1_1)
                    have hfa_2_2 : c_2 a 2 = (((a + 2) : Nat) : Int) := by rw [hc_2]; exact (up2_fldN (by omega)).trans (hfa_2_1)
                    have hfa_3_2 : c_2 a 3 = ((R : Nat) : Int) := by rw [hc_2]; exact (up2_fldN (by omega)).trans (hfa_3_1)
                    refine E_iinc rfl rfl rfl ?_
                    refine E_goto rfl ?_
                    refine E_load rfl rfl rfl ?_
                    refine E_load rfl rfl rfl ?_
                    refine E_getf (c := 8) (v := (0, 3)) rfl (by omega : a < mN h) s2 rfl (fv (hfa_0_2)) ?_
                    refine E_cmp3 rfl (by omega) (fun q10 => ?_) (fun q10 => ?_)
                    · exfalso; omega
                    · refine E_load rfl rfl rfl ?_
                      refine E_load rfl rfl rfl ?_
                      refine E_add rfl ?_
                      refine E_load rfl rfl rfl ?_
                      refine E_getr (c := 8) (r := (a + 1)) rfl (by omega : a < mN h) s2 rfl (hfa_1_2) ?_
                      refine E_len (n := m) rfl (by omega : a + 1 < mN h) (k20 s3) s5 ?_
                      refine E_cmp3 rfl (by omega) (fun q11 => ?_) (fun q11 => ?_)
                      · exfalso; omega
                      · refine E_load rfl rfl rfl ?_
                        refine E_getr (c := 8) (r := (a + 1)) rfl (by omega : a < mN h) s2 rfl (hfa_1_2) ?_
                        refine E_load rfl rfl rfl ?_
                        refine E_load rfl rfl rfl ?_
                        refine E_add rfl ?_
                        refine E_load rfl rfl rfl ?_
                        refine E_if1 rfl (by omega) (fun q12 => ?_) (fun q12 => ?_)
                        · refine E_load rfl rfl rfl ?_
                          refine E_const rfl ?_
                          refine E_cmp1 rfl (by omega) (fun q13 => ?_) (fun q13 => ?_)
                          · refine E_load rfl rfl rfl ?_
                            refine E_iasg (n := m) (j := ((R * 3) + 2)) rfl (by omega : a + 1 < mN h) s3 s5 (by omega) (by omega) (fun c_3 hc_3 => ?_)
                            have hE_3 : EqP (fun b k => b = a + 1 ∨ (b = a ∧ k = 3)) c_2 c_3 := by rw [hc_3]; exact EqP.up (by omega)
                            have hfa_0_3 : c_3 a 0 = 3 := by rw [hc_3]; exact (up2_fldN (by omega)).trans (hfa_0_2)
                            have hfa_1_3 : c_3 a 1 = (((a + 1) : Nat) : Int) := by rw [hc_3]; exact (up2_fldN (by omega)).trans (hfa_1_2)
                            have hfa_2_3 : c_3 a 2 = (((a + 2) : Nat) : Int) := by rw [hc_3]; exact (up2_fldN (by omega)).trans (hfa_2_2)
                            have hfa_3_3 : c_3 a 3 = ((R : Nat) : Int) := by rw [hc_3]; exact (up2_fldN (by omega)).trans (hfa_3_2)
                            refine E_iinc rfl rfl rfl ?_
                            refine E_goto rfl ?_
                            refine E_load rfl rfl rfl ?_
                            refine E_load rfl rfl rfl ?_
                            refine E_getf (c := 8) (v := (0, 3)) rfl (by omega : a < mN h) s2 rfl (fv (hfa_0_3)) ?_
                            refine E_cmp3 rfl (by omega) (fun q14 => ?_) (fun q14 => ?_)
                            · refine E_load rfl rfl rfl ?_
                              refine E_dup rfl rfl ?_
                              refine E_getf (c := 8) (v := (0, ((R : Nat) : Int))) rfl (by omega : a < mN h) s2 rfl (fv (hfa_3_3)) ?_
                              refine E_const rfl ?_
                              refine E_add rfl ?_
                              refine E_putg (cl := 8) rfl (by omega : a < mN h) s2 rfl (fun c_4 hc_4 => ?_)
                              have hE_4 : EqP (fun b k => b = a + 1 ∨ (b = a ∧ k = 3)) c_3 c_4 := by rw [hc_4]; exact EqP.up (by omega)
                              have hfa_0_4 : c_4 a 0 = 3 := by rw [hc_4]; exact (up2_fldN (by omega)).trans (hfa_0_3)
                              have hfa_1_4 : c_4 a 1 = (((a + 1) : Nat) : Int) := by rw [hc_4]; exact (up2_fldN (by omega)).trans (hfa_1_3)
                              have hfa_2_4 : c_4 a 2 = (((a + 2) : Nat) : Int) := by rw [hc_4]; exact (up2_fldN (by omega)).trans (hfa_2_3)
                              have hfa_3_4 : c_4 a 3 = (((R : Nat) : Int) + 1) := by rw [hc_4]; exact up2_same
                              refine E_const rfl ?_
                              refine E_iret rfl (fun _ => by first | exact Or.inl rfl | exact Or.inr rfl) ?_
                              refine ⟨by rw [bI_t (by omega)], c_4, rfl, ?_⟩
                              rw [if_pos (by omega)]
                              unfold adS
                              rw [hRn, show ((R : Int) * ((3 : Nat) : Int)).toNat = R * 3 by omega]
                              rw [hc_4, hc_3, hc_2, hc_1]
                              rfl
                            · exfalso; omega
                          · exfalso; omega
                        · exfalso; omega
                · exfalso; omega
    · refine E_const rfl ?_
      refine E_iret rfl (fun _ => by first | exact Or.inl rfl | exact Or.inr rfl) ?_
      exact ⟨by rw [bI_f (by omega)], c, rfl, by rw [if_neg (by omega)]⟩
theorem s_copy_loop {d : Nat} {h : Hp} {p q n : Nat} (hp : p < mN h) (hq : q < mN h) (kp : mK h p = 20) (kq : mK h q = 20) (lp : mL h p = n) (lq : mL h q = n) (hn : n ≤ 1000) (hpq : p ≠ q) : ∀ (m i : Nat), i + m = n → ∀ c : Nat → Nat → Int, ∀ c0 : Nat → Nat → Int, (c p = c0 p) → (∀ j, j < i → c q j = c0 p j) → EqP (fun a _ => a = q) c0 c → Ex (d) none t_X7_copy 0 2 [(1, (p : Int)), (1, (q : Int)), (0, (i : Int))] [] (wC h c) (fun r h2 => r = none ∧ ∃ c2, h2 = wC h c2 ∧ (∀ j, j < n → c2 q j = c0 p j) ∧ EqP (fun a _ => a = q) c0 c2) := by
  intro m
  induction m with
  | zero =>
    intro i hi c c0 hp0 hj hE
    refine E_load rfl rfl rfl ?_
    refine E_load rfl rfl rfl ?_
    refine E_len (n := n) rfl hp (k20 kp) lp ?_
    refine E_cmp3 rfl (by omega) (fun q1 => ?_) (fun q1 => ?_)
    · refine E_vret rfl ?_
      exact ⟨rfl, c, rfl, fun j hj2 => hj j (by omega), hE⟩
    · exfalso; omega
  | succ m ih =>
    intro i hi c c0 hp0 hj hE
    refine E_load rfl rfl rfl ?_
    refine E_load rfl rfl rfl ?_
    refine E_len (n := n) rfl hp (k20 kp) lp ?_
    refine E_cmp3 rfl (by omega) (fun q1 => ?_) (fun q1 => ?_)
    · exfalso; omega
    · refine E_load rfl rfl rfl ?_
      refine E_load rfl rfl rfl ?_
      refine E_len (n := n) rfl hq (k20 kq) lq ?_
      refine E_cmp3 rfl (by omega) (fun q2 => ?_) (fun q2 => ?_)
      · exfalso; omega
      · refine E_load rfl rfl rfl ?_
        refine E_load rfl rfl rfl ?_
        refine E_load rfl rfl rfl ?_
        refine E_load rfl rfl rfl ?_
        refine E_ialn (n := n) (v := (c0 p i)) rfl hp kp lp (by omega) ((rdC (by omega)).trans (congrFun hp0 i)) ?_
        refine E_iasg (n := n) (j := i) rfl hq kq lq (by omega) (by omega) (fun c_1 hc_1 => ?_)
        have hE_1 : EqP (fun a _ => a = q) c c_1 := by rw [hc_1]; exact EqP.up (by omega)
        refine E_iinc rfl rfl rfl ?_
        refine E_goto rfl ?_
        refine ih (i + 1) (by omega) c_1 c0 ?_ (fun j hj2 => ?_) (hE.trans hE_1)
        · rw [hc_1, up2_othN hpq]; exact hp0
        · rw [hc_1]
          by_cases e : j = i
          · rw [e]; exact up2_same
          · rw [up2_fldN (by omega)]; exact hj j (by omega)
theorem s_copy {d : Nat} {h : Hp} {c : Nat → Nat → Int} {p q n : Nat} (hp : p < mN h) (hq : q < mN h) (kp : mK h p = 20) (kq : mK h q = 20) (lp : mL h p = n) (lq : mL h q = n) (hn : n ≤ 1000) (hpq : p ≠ q) : Ok (d) 66 [(1, (p : Int)), (1, (q : Int))] (wC h c) (fun r h2 => r = none ∧ ∃ c2, h2 = wC h c2 ∧ (∀ j, j < n → c2 q j = c p j) ∧ EqP (fun a _ => a = q) c c2) := by
  show Ex _ none t_X7_copy 0 0 _ [] (wC h c) _
  refine E_const rfl ?_
  refine E_store rfl rfl rfl ?_
  exact s_copy_loop hp hq kp kq lp lq hn hpq n 0 (Nat.zero_add _) c c rfl (fun j hj => absurd hj (Nat.not_lt_zero j)) EqP.nil
set_option maxHeartbeats 4000000 in
set_option maxRecDepth 100000 in
theorem s_keep {d : Nat} {h : Hp} {c : Nat → Nat → Int} {a w m : Nat} (hS : Sh h c a w m) (hw : 0 < w ∧ w ≤ 3) (hm : m ≤ 400) : Ok (d + 1) 64 [(1, ((a : Nat) : Int))] (wC h c) (fun r h2 => r = none ∧ ∃ c2, h2 = wC h c2 ∧ c2 a 4 = c a 3 ∧ (∀ j, j < m → c2 (a + 2) j = c (a + 1) j) ∧ EqP (fun b k => b = a + 2 ∨ (b = a ∧ k = 4)) c c2) := by
  show Ex _ none t_X7_keep 0 0 _ [] (wC h c) _
  obtain ⟨s1, s2, s3, s4, s5, s6, s7, s8, s9⟩ := hS
  refine E_load rfl rfl rfl ?_
  refine E_load rfl rfl rfl ?_
  refine E_getf (c := 8) (v := (0, (c a 3))) rfl (by omega : a < mN h) s2 rfl (fv (rfl)) ?_
  refine E_putg (cl := 8) rfl (by omega : a < mN h) s2 rfl (fun c_1 hc_1 => ?_)
  have hE_1 : EqP (fun b k => b = a + 2 ∨ (b = a ∧ k = 4)) c c_1 := by rw [hc_1]; exact EqP.up (by omega)
  have hfa_0_1 : c_1 a 0 = ((w : Nat) : Int) := by rw [hc_1]; exact (up2_fldN (by omega)).trans (s7)
  have hfa_1_1 : c_1 a 1 = (((a + 1) : Nat) : Int) := by rw [hc_1]; exact (up2_fldN (by omega)).trans (s8)
  have hfa_2_1 : c_1 a 2 = (((a + 2) : Nat) : Int) := by rw [hc_1]; exact (up2_fldN (by omega)).trans (s9)
  have hfa_4_1 : c_1 a 4 = (c a 3) := by rw [hc_1]; exact up2_same
  refine E_load rfl rfl rfl ?_
  refine E_getr (c := 8) (r := (a + 1)) rfl (by omega : a < mN h) s2 rfl (hfa_1_1) ?_
  refine E_load rfl rfl rfl ?_
  refine E_getr (c := 8) (r := (a + 2)) rfl (by omega : a < mN h) s2 rfl (hfa_2_1) ?_
  refine E_S2 (y := 66) rfl rfl rfl rfl rfl (s_copy (by omega : a + 1 < mN h) (by omega : a + 2 < mN h) s3 s4 s5 s6 (by omega) (by omega)) (fun r h2 hq => ?_)
  obtain ⟨rfl, c_2, hh, hJ_2, hE0_2⟩ := hq
  subst hh
  have hE_2 : EqP (fun b k => b = a + 2 ∨ (b = a ∧ k = 4)) c_1 c_2 := hE0_2.mono (fun a k e => by omega)
  refine E_vret rfl ?_
  exact ⟨rfl, c_2, rfl, (hE0_2 a 4 (by omega)).trans (by rw [hc_1]; exact up2_same), fun j hj => (hJ_2 j hj).trans (by rw [hc_1]; exact up2_fldN (by omega)), (hE_1.trans hE_2)⟩
set_option maxHeartbeats 4000000 in
set_option maxRecDepth 100000 in
theorem s_restore {d : Nat} {h : Hp} {c : Nat → Nat → Int} {a w m : Nat} (hS : Sh h c a w m) (hw : 0 < w ∧ w ≤ 3) (hm : m ≤ 400) : Ok (d + 1) 65 [(1, ((a : Nat) : Int))] (wC h c) (fun r h2 => r = none ∧ ∃ c2, h2 = wC h c2 ∧ c2 a 3 = c a 4 ∧ (∀ j, j < m → c2 (a + 1) j = c (a + 2) j) ∧ EqP (fun b k => b = a + 1 ∨ (b = a ∧ k = 3)) c c2) := by
  show Ex _ none t_X7_restore 0 0 _ [] (wC h c) _
  obtain ⟨s1, s2, s3, s4, s5, s6, s7, s8, s9⟩ := hS
  refine E_load rfl rfl rfl ?_
  refine E_load rfl rfl rfl ?_
  refine E_getf (c := 8) (v := (0, (c a 4))) rfl (by omega : a < mN h) s2 rfl (fv (rfl)) ?_
  refine E_putg (cl := 8) rfl (by omega : a < mN h) s2 rfl (fun c_1 hc_1 => ?_)
  have hE_1 : EqP (fun b k => b = a + 1 ∨ (b = a ∧ k = 3)) c c_1 := by rw [hc_1]; exact EqP.up (by omega)
  have hfa_0_1 : c_1 a 0 = ((w : Nat) : Int) := by rw [hc_1]; exact (up2_fldN (by omega)).trans (s7)
  have hfa_1_1 : c_1 a 1 = (((a + 1) : Nat) : Int) := by rw [hc_1]; exact (up2_fldN (by omega)).trans (s8)
  have hfa_2_1 : c_1 a 2 = (((a + 2) : Nat) : Int) := by rw [hc_1]; exact (up2_fldN (by omega)).trans (s9)
  have hfa_3_1 : c_1 a 3 = (c a 4) := by rw [hc_1]; exact up2_same
  refine E_load rfl rfl rfl ?_
  refine E_getr (c := 8) (r := (a + 2)) rfl (by omega : a < mN h) s2 rfl (hfa_2_1) ?_
  refine E_load rfl rfl rfl ?_
  refine E_getr (c := 8) (r := (a + 1)) rfl (by omega : a < mN h) s2 rfl (hfa_1_1) ?_
  refine E_S2 (y := 66) rfl rfl rfl rfl rfl (s_copy (by omega : a + 2 < mN h) (by omega : a + 1 < mN h) s4 s3 s6 s5 (by omega) (by omega)) (fun r h2 hq => ?_)
  obtain ⟨rfl, c_2, hh, hJ_2, hE0_2⟩ := hq
  subst hh
  have hE_2 : EqP (fun b k => b = a + 1 ∨ (b = a ∧ k = 3)) c_1 c_2 := hE0_2.mono (fun a k e => by omega)
  refine E_vret rfl ?_
  exact ⟨rfl, c_2, rfl, (hE0_2 a 3 (by omega)).trans (by rw [hc_1]; exact up2_same), fun j hj => (hJ_2 j hj).trans (by rw [hc_1]; exact up2_fldN (by omega)), (hE_1.trans hE_2)⟩
set_option maxHeartbeats 4000000 in
set_option maxRecDepth 100000 in
theorem s_copyFrom {d : Nat} {h : Hp} {c : Nat → Nat → Int} {a w m : Nat} (hS : Sh h c a w m) (hw : 0 < w ∧ w ≤ 3) (hm : m ≤ 400) {b : Nat} (hS2 : Sh h c b w m) (hab : a + 2 < b ∨ b + 2 < a) : Ok (d + 1) 63 [(1, ((a : Nat) : Int)), (1, ((b : Nat) : Int))] (wC h c) (fun r h2 => r = none ∧ ∃ c2, h2 = wC h c2 ∧ c2 a 3 = c b 3 ∧ (∀ j, j < m → c2 (a + 1) j = c (b + 1) j) ∧ EqP (fun b k => b = a + 1 ∨ (b = a ∧ k = 3)) c c2) := by
  show Ex _ none t_X7_copyFrom 0 0 _ [] (wC h c) _
  obtain ⟨s1, s2, s3, s4, s5, s6, s7, s8, s9⟩ := hS
  obtain ⟨t1, t2, t3, t4, t5, t6, t7, t8, t9⟩ := hS2
  refine E_load rfl rfl rfl ?_
  refine E_load rfl rfl rfl ?_
  refine E_getf (c := 8) (v := (0, (c b 3))) rfl (by omega : b < mN h) t2 rfl (fv (rfl)) ?_
  refine E_putg (cl := 8) rfl (by omega : a < mN h) s2 rfl (fun c_1 hc_1 => ?_)
  have hE_1 : EqP (fun b k => b = a + 1 ∨ (b = a ∧ k = 3)) c c_1 := by rw [hc_1]; exact EqP.up (by omega)
  have hfa_0_1 : c_1 a 0 = ((w : Nat) : Int) := by rw [hc_1]; exact (up2_fldN (by omega)).trans (s7)
  have hfa_1_1 : c_1 a 1 = (((a + 1) : Nat) : Int) := by rw [hc_1]; exact (up2_fldN (by omega)).trans (s8)
  have hfa_2_1 : c_1 a 2 = (((a + 2) : Nat) : Int) := by rw [hc_1]; exact (up2_fldN (by omega)).trans (s9)
  have hfb_1_1 : c_1 b 1 = (((b + 1) : Nat) : Int) := by rw [hc_1]; exact (up2_fldN (by omega)).trans (t8)
  have hfa_3_1 : c_1 a 3 = (c b 3) := by rw [hc_1]; exact up2_same
  refine E_load rfl rfl rfl ?_
  refine E_getr (c := 8) (r := (b + 1)) rfl (by omega : b < mN h) t2 rfl (hfb_1_1) ?_
  refine E_load rfl rfl rfl ?_
  refine E_getr (c := 8) (r := (a + 1)) rfl (by omega : a < mN h) s2 rfl (hfa_1_1) ?_
  refine E_S2 (y := 66) rfl rfl rfl rfl rfl (s_copy (by omega : b + 1 < mN h) (by omega : a + 1 < mN h) t3 s3 t5 s5 (by omega) (by omega)) (fun r h2 hq => ?_)
  obtain ⟨rfl, c_2, hh, hJ_2, hE0_2⟩ := hq
  subst hh
  have hE_2 : EqP (fun b k => b = a + 1 ∨ (b = a ∧ k = 3)) c_1 c_2 := hE0_2.mono (fun a k e => by omega)
  refine E_vret rfl ?_
  exact ⟨rfl, c_2, rfl, (hE0_2 a 3 (by omega)).trans (by rw [hc_1]; exact up2_same), fun j hj => (hJ_2 j hj).trans (by rw [hc_1]; exact up2_fldN (by omega)), (hE_1.trans hE_2)⟩
