section EB
variable {d : Nat} {sc : Option (Nat × (Nat → Int))} {tb : List ME} {rk pc nx : Nat} {a b : Int} {l : List (Int × Int)} {lv st : List AV} {h : Hp} {Q : Option AV → Hp → Prop}
/-- the classes of bottles -/
def IsB (c : Nat) : Prop := c = 1 ∨ c = 3 ∨ c = 4 ∨ c = 5 ∨ c = 7 ∨ c = 9 ∨ c = 10
theorem IsB.ft {c : Nat} (h : IsB c) : mFt c = [0, 0, 1, 1, 1, 1] ∧ mIsa c 1 = true ∧ c < 13 := by
  rcases h with rfl | rfl | rfl | rfl | rfl | rfl | rfl <;> exact ⟨rfl, rfl, by decide⟩
theorem E_getrB {q r : Nat} (hat : mAt tb pc = some (nx, 16, a, 1, l)) (hq : q < mN h) (hk : IsB (mK h q)) (hc : (Nat.blt a.toNat 6 && Nat.blt 1 a.toNat) = true) (hv : mC h q a.toNat = (r : Int)) (k : Ex d sc tb rk nx lv ((1, (r : Int)) :: st) h Q) : Ex d sc tb rk pc lv ((1, (q : Int)) :: st) h Q := by
  obtain ⟨f1, f2, f3⟩ := hk.ft
  simp only [Bool.and_eq_true] at hc
  have h6 : a.toNat < 6 := Nat.le_of_ble_eq_true hc.1
  have h1 : 1 < a.toNat := Nat.le_of_ble_eq_true hc.2
  refine k.step hat rfl ?_
  simp only [mStep, mAd_of hq]
  rw [if_pos ⟨f3, f2, by rw [f1]; exact h6⟩, f1, hv]
  rcases (show a.toNat = 2 ∨ a.toNat = 3 ∨ a.toNat = 4 ∨ a.toNat = 5 by omega) with e | e | e | e <;> rw [e] <;> rfl
theorem E_getfB {q : Nat} {x : Int} (hat : mAt tb pc = some (nx, 16, a, 1, l)) (hq : q < mN h) (hk : IsB (mK h q)) (hc : Nat.blt a.toNat 2 = true) (hv : mC h q a.toNat = x) (k : Ex d sc tb rk nx lv ((0, x) :: st) h Q) : Ex d sc tb rk pc lv ((1, (q : Int)) :: st) h Q := by
  obtain ⟨f1, f2, f3⟩ := hk.ft
  have h6 : a.toNat < 2 := Nat.le_of_ble_eq_true hc
  refine k.step hat rfl ?_
  simp only [mStep, mAd_of hq]
  rw [if_pos ⟨f3, f2, by rw [f1]; show a.toNat < 6; omega⟩, f1, hv]
  rcases (show a.toNat = 0 ∨ a.toNat = 1 by omega) with e | e <;> rw [e] <;> rfl
theorem E_min {x y : Int} {rest : List AV} (hat : mAt tb pc = some (nx, 52, 4, 2, l)) (hx : inR x ∧ inR y) (hc : Nat.ble (mCats rest) 8 = true) (k : Ex (d + 1) sc tb rk nx lv ((0, if x < y then x else y) :: rest) h Q) : Ex (d + 1) sc tb rk pc lv ((0, y) :: (0, x) :: rest) h Q :=
  E_pri (as := [(0, x), (0, y)]) (rest := rest) hat rfl rfl hc (by show mPrim txt 4 _ = _; simp only [mPrim]; rw [if_pos hx]) k
theorem E_max {x y : Int} {rest : List AV} (hat : mAt tb pc = some (nx, 52, 3, 2, l)) (hx : inR x ∧ inR y) (hc : Nat.ble (mCats rest) 8 = true) (k : Ex (d + 1) sc tb rk nx lv ((0, if x < y then y else x) :: rest) h Q) : Ex (d + 1) sc tb rk pc lv ((0, y) :: (0, x) :: rest) h Q :=
  E_pri (as := [(0, x), (0, y)]) (rest := rest) hat rfl rfl hc (by show mPrim txt 3 _ = _; simp only [mPrim]; rw [if_pos hx]) k
theorem E_abs {x : Int} {rest : List AV} (hat : mAt tb pc = some (nx, 52, 2, 1, l)) (hx : inR x ∧ x ≠ -2147483648) (hc : Nat.ble (mCats rest) 8 = true) (k : Ex (d + 1) sc tb rk nx lv ((0, szI x) :: rest) h Q) : Ex (d + 1) sc tb rk pc lv ((0, x) :: rest) h Q :=
  E_pri (as := [(0, x)]) (rest := rest) hat rfl rfl hc (by show mPrim txt 2 _ = _; simp only [mPrim]; rw [if_pos hx]; rfl) k
end EB
set_option maxHeartbeats 4000000 in
set_option maxRecDepth 100000 in
theorem c_within {d : Nat} {h : Hp} {c : Nat → Nat → Int} {n a b : Int} (h1 : inR n) (h2 : inR a) (h3 : inR b) : Ok (d) 111 [(0, n), (0, a), (0, b)] (wC h c) (fun r h2 => r = some (0, bI (a ≤ n ∧ n ≤ b)) ∧ h2 = wC h c) := by
  show Ex _ none t_X10_within 3 0 _ [] (wC h c) _
  refine E_load rfl rfl rfl ?_
  refine E_load rfl rfl rfl ?_
  refine E_cmp2 rfl (by omega) (fun q1 => ?_) (fun q1 => ?_)
  · refine E_const rfl ?_
    refine E_iret rfl (fun _ => by decide) ?_
    exact ⟨by first | (rw [bI_t (by omega)]) | (rw [bI_f (by omega)]), rfl⟩
  · refine E_load rfl rfl rfl ?_
    refine E_load rfl rfl rfl ?_
    refine E_cmp4 rfl (by omega) (fun q2 => ?_) (fun q2 => ?_)
    · refine E_const rfl ?_
      refine E_iret rfl (fun _ => by decide) ?_
      exact ⟨by first | (rw [bI_t (by omega)]) | (rw [bI_f (by omega)]), rfl⟩
    · refine E_const rfl ?_
      refine E_goto rfl ?_
      refine E_iret rfl (fun _ => by decide) ?_
      exact ⟨by first | (rw [bI_t (by omega)]) | (rw [bI_f (by omega)]), rfl⟩
set_option maxHeartbeats 4000000 in
set_option maxRecDepth 100000 in
theorem c_nearer {d : Nat} {h : Hp} {c : Nat → Nat → Int} {n y : Int} (h1 : -100000000 ≤ n ∧ n ≤ 100000000) (h2 : 0 ≤ y ∧ y ≤ 100000000) : Ok (d + 1) 113 [(0, n), (0, y)] (wC h c) (fun r h2 => r = some (0, nrI n y) ∧ h2 = wC h c) := by
  show Ex _ none t_X10_nearer 0 0 _ [] (wC h c) _
  refine E_load rfl rfl rfl ?_
  refine E_if3 rfl (by omega) (fun q1 => ?_) (fun q1 => ?_)
  · refine E_const rfl ?_
    refine E_load rfl rfl rfl ?_
    refine E_load rfl rfl rfl ?_
    refine E_sub rfl ?_
    refine E_max rfl (by omega) rfl ?_
    refine E_iret rfl (fun h => absurd h (by decide)) ?_
    exact ⟨congrArg (fun z : Int => some (((0 : Nat), z) : AV)) (by unfold nrI szI; (repeat' split) <;> omega), rfl⟩
  · refine E_const rfl ?_
    refine E_load rfl rfl rfl ?_
    refine E_load rfl rfl rfl ?_
    refine E_add rfl ?_
    refine E_min rfl (by omega) rfl ?_
    refine E_goto rfl ?_
    refine E_iret rfl (fun h => absurd h (by decide)) ?_
    exact ⟨congrArg (fun z : Int => some (((0 : Nat), z) : AV)) (by unfold nrI szI; (repeat' split) <;> omega), rfl⟩
set_option maxHeartbeats 4000000 in
set_option maxRecDepth 100000 in
theorem c_held {d : Nat} {h : Hp} {c : Nat → Nat → Int} {n : Int} (h1 : inR n) : Ok (d + 1) 114 [(0, n)] (wC h c) (fun r h2 => r = some (0, clI n (-99) 99) ∧ h2 = wC h c) := by
  show Ex _ none t_X10_heldMood 0 0 _ [] (wC h c) _
  refine E_const rfl ?_
  refine E_const rfl ?_
  refine E_load rfl rfl rfl ?_
  refine E_min rfl (by constructor <;> (first | omega | (split <;> omega))) rfl ?_
  refine E_max rfl (by constructor <;> (first | omega | (split <;> omega))) rfl ?_
  refine E_iret rfl (fun h => absurd h (by decide)) ?_
  exact ⟨congrArg (fun z : Int => some (((0 : Nat), z) : AV)) (by unfold clI; (repeat' split) <;> omega), rfl⟩
set_option maxHeartbeats 4000000 in
set_option maxRecDepth 100000 in
theorem c_above {d : Nat} {h : Hp} {c : Nat → Nat → Int} {n : Int} (h1 : inR n) : Ok (d) 115 [(0, n)] (wC h c) (fun r h2 => r = some (0, if 3 < n then n - 3 else 0) ∧ h2 = wC h c) := by
  show Ex _ none t_X10_kindAbove 0 0 _ [] (wC h c) _
  refine E_load rfl rfl rfl ?_
  refine E_const rfl ?_
  refine E_cmp5 rfl (by omega) (fun q1 => ?_) (fun q1 => ?_)
  · refine E_const rfl ?_
    refine E_iret rfl (fun h => absurd h (by decide)) ?_
    exact ⟨by first | (rw [if_pos (by omega)]) | (rw [if_neg (by omega)]), rfl⟩
  · refine E_load rfl rfl rfl ?_
    refine E_const rfl ?_
    refine E_sub rfl ?_
    refine E_goto rfl ?_
    refine E_iret rfl (fun h => absurd h (by decide)) ?_
    exact ⟨by first | (rw [if_pos (by omega)]) | (rw [if_neg (by omega)]), rfl⟩
/-- how one lies: its places -/
def La (h : Hp) (c : Nat → Nat → Int) (q : Nat) : Prop := q + 1 < mN h ∧ mK h q = 6 ∧ mK h (q + 1) = 20 ∧ mL h (q + 1) = 4 ∧ c q 0 = ((q + 1 : Nat) : Int)
def LV (c : Nat → Nat → Int) (q : Nat) (v w y u e : Int) (tel : Nat → Int) : Prop := (c q 1 = v ∧ c q 2 = w ∧ c q 3 = y ∧ c q 4 = u ∧ c q 5 = e) ∧ ∀ k, k < 4 → c (q + 1) k = tel k
set_option maxHeartbeats 4000000 in
set_option maxRecDepth 100000 in
theorem l_copy {d : Nat} {h : Hp} {c : Nat → Nat → Int} {p q : Nat} (hQ : La h c q) (hP : La h c p) (hpq : p + 1 < q ∨ q + 1 < p) (he : c p 5 = 0 ∨ c p 5 = 1) : Ok (d + 1) 51 [(1, ((q : Nat) : Int)), (1, ((p : Nat) : Int))] (wC h c) (fun r h2 => r = none ∧ ∃ c2, h2 = wC h c2 ∧ (∀ k, 1 ≤ k → k ≤ 5 → c2 q k = c p k) ∧ (∀ j, j < 4 → c2 (q + 1) j = c (p + 1) j) ∧ EqP (fun a k => a = q + 1 ∨ (a = q ∧ 1 ≤ k ∧ k ≤ 5)) c c2) := by
  show Ex _ none t_X5_copyFrom 0 0 _ [] (wC h c) _
  obtain ⟨s1, s2, s3, s4, s5⟩ := hQ
  obtain ⟨t1, t2, t3, t4, t5⟩ := hP
  refine E_load rfl rfl rfl ?_
  refine E_load rfl rfl rfl ?_
  refine E_getf (c := 6) (v := (0, (c p 1))) rfl (by omega : p < mN h) t2 rfl (fv (rfl)) ?_
  refine E_putg (cl := 6) rfl (by omega : q < mN h) s2 rfl (fun c_1 hc_1 => ?_)
  have hE_1 : EqP (fun a k => a = q + 1 ∨ (a = q ∧ 1 ≤ k ∧ k ≤ 5)) c c_1 := by rw [hc_1]; exact EqP.up (by omega)
  have hfq_0_1 : c_1 q 0 = (((q + 1) : Nat) : Int) := by rw [hc_1]; exact (up2_fldN (by omega)).trans (s5)
  have hfp_0_1 : c_1 p 0 = (((p + 1) : Nat) : Int) := by rw [hc_1]; exact (up2_fldN (by omega)).trans (t5)
  have hfp_1_1 : c_1 p 1 = (c p 1) := by rw [hc_1]; exact (up2_fldN (by omega)).trans (rfl)
  have hfp_2_1 : c_1 p 2 = (c p 2) := by rw [hc_1]; exact (up2_fldN (by omega)).trans (rfl)
  have hfp_3_1 : c_1 p 3 = (c p 3) := by rw [hc_1]; exact (up2_fldN (by omega)).trans (rfl)
  have hfp_4_1 : c_1 p 4 = (c p 4) := by rw [hc_1]; exact (up2_fldN (by omega)).trans (rfl)
  have hfp_5_1 : c_1 p 5 = (c p 5) := by rw [hc_1]; exact (up2_fldN (by omega)).trans (rfl)
  have hfq_1_1 : c_1 q 1 = (c p 1) := by rw [hc_1]; exact up2_same
  refine E_load rfl rfl rfl ?_
  refine E_load rfl rfl rfl ?_
  refine E_getf (c := 6) (v := (0, (c p 2))) rfl (by omega : p < mN h) t2 rfl (fv (hfp_2_1)) ?_
  refine E_putg (cl := 6) rfl (by omega : q < mN h) s2 rfl (fun c_2 hc_2 => ?_)
  have hE_2 : EqP (fun a k => a = q + 1 ∨ (a = q ∧ 1 ≤ k ∧ k ≤ 5)) c_1 c_2 := by rw [hc_2]; exact EqP.up (by omega)
  have hfq_0_2 : c_2 q 0 = (((q + 1) : Nat) : Int) := by rw [hc_2]; exact (up2_fldN (by omega)).trans (hfq_0_1)
  have hfp_0_2 : c_2 p 0 = (((p + 1) : Nat) : Int) := by rw [hc_2]; exact (up2_fldN (by omega)).trans (hfp_0_1)
  have hfp_1_2 : c_2 p 1 = (c p 1) := by rw [hc_2]; exact (up2_fldN (by omega)).trans (hfp_1_1)
  have hfp_2_2 : c_2 p 2 = (c p 2) := by rw [hc_2]; exact (up2_fldN (by omega)).trans (hfp_2_1)
  have hfp_3_2 : c_2 p 3 = (c p 3) := by rw [hc_2]; exact (up2_fldN (by omega)).trans (hfp_3_1)
  have hfp_4_2 : c_2 p 4 = (c p 4) := by rw [hc_2]; exact (up2_fldN (by omega)).trans (hfp_4_1)
  have hfp_5_2 : c_2 p 5 = (c p 5) := by rw [hc_2]; exact (up2_fldN (by omega)).trans (hfp_5_1)
  have hfq_1_2 : c_2 q 1 = (c p 1) := by rw [hc_2]; exact (up2_fldN (by omega)).trans (hfq_1_1)
  have hfq_2_2 : c_2 q 2 = (c p 2) := by rw [hc_2]; exact up2_same
  refine E_load rfl rfl rfl ?_
  refine E_load rfl rfl rfl ?_
  refine E_getf (c := 6) (v := (0, (c p 3))) rfl (by omega : p < mN h) t2 rfl (fv (hfp_3_2)) ?_
  refine E_putg (cl := 6) rfl (by omega : q < mN h) s2 rfl (fun c_3 hc_3 => ?_)
  have hE_3 : EqP (fun a k => a = q + 1 ∨ (a = q ∧ 1 ≤ k ∧ k ≤ 5)) c_2 c_3 := by rw [hc_3]; exact EqP.up (by omega)
  have hfq_0_3 : c_3 q 0 = (((q + 1) : Nat) : Int) := by rw [hc_3]; exact (up2_fldN (by omega)).trans (hfq_0_2)
  have hfp_0_3 : c_3 p 0 = (((p + 1) : Nat) : Int) := by rw [hc_3]; exact (up2_fldN (by omega)).trans (hfp_0_2)
  have hfp_1_3 : c_3 p 1 = (c p 1) := by rw [hc_3]; exact (up2_fldN (by omega)).trans (hfp_1_2)
  have hfp_2_3 : c_3 p 2 = (c p 2) := by rw [hc_3]; exact (up2_fldN (by omega)).trans (hfp_2_2)
  have hfp_3_3 : c_3 p 3 = (c p 3) := by rw [hc_3]; exact (up2_fldN (by omega)).trans (hfp_3_2)
  have hfp_4_3 : c_3 p 4 = (c p 4) := by rw [hc_3]; exact (up2_fldN (by omega)).trans (hfp_4_2)
  have hfp_5_3 : c_3 p 5 = (c p 5) := by rw [hc_3]; exact (up2_fldN (by omega)).trans (hfp_5_2)
  have hfq_1_3 : c_3 q 1 = (c p 1) := by rw [hc_3]; exact (up2_fldN (by omega)).trans (hfq_1_2)
  have hfq_2_3 : c_3 q 2 = (c p 2) := by rw [hc_3]; exact (up2_fldN (by omega)).trans (hfq_2_2)
  have hfq_3_3 : c_3 q 3 = (c p 3) := by rw [hc_3]; exact up2_same
  refine E_load rfl rfl rfl ?_
  refine E_load rfl rfl rfl ?_
  refine E_getf (c := 6) (v := (0, (c p 4))) rfl (by omega : p < mN h) t2 rfl (fv (hfp_4_3)) ?_
  refine E_putg (cl := 6) rfl (by omega : q < mN h) s2 rfl (fun c_4 hc_4 => ?_)
  have hE_4 : EqP (fun a k => a = q + 1 ∨ (a = q ∧ 1 ≤ k ∧ k ≤ 5)) c_3 c_4 := by rw [hc_4]; exact EqP.up (by omega)
  have hfq_0_4 : c_4 q 0 = (((q + 1) : Nat) : Int) := by rw [hc_4]; exact (up2_fldN (by omega)).trans (hfq_0_3)
  have hfp_0_4 : c_4 p 0 = (((p + 1) : Nat) : Int) := by rw [hc_4]; exact (up2_fldN (by omega)).trans (hfp_0_3)
  have hfp_1_4 : c_4 p 1 = (c p 1) := by rw [hc_4]; exact (up2_fldN (by omega)).trans (hfp_1_3)
  have hfp_2_4 : c_4 p 2 = (c p 2) := by rw [hc_4]; exact (up2_fldN (by omega)).trans (hfp_2_3)
  have hfp_3_4 : c_4 p 3 = (c p 3) := by rw [hc_4]; exact (up2_fldN (by omega)).trans (hfp_3_3)
  have hfp_4_4 : c_4 p 4 = (c p 4) := by rw [hc_4]; exact (up2_fldN (by omega)).trans (hfp_4_3)
  have hfp_5_4 : c_4 p 5 = (c p 5) := by rw [hc_4]; exact (up2_fldN (by omega)).trans (hfp_5_3)
  have hfq_1_4 : c_4 q 1 = (c p 1) := by rw [hc_4]; exact (up2_fldN (by omega)).trans (hfq_1_3)
  have hfq_2_4 : c_4 q 2 = (c p 2) := by rw [hc_4]; exact (up2_fldN (by omega)).trans (hfq_2_3)
  have hfq_3_4 : c_4 q 3 = (c p 3) := by rw [hc_4]; exact (up2_fldN (by omega)).trans (hfq_3_3)
  have hfq_4_4 : c_4 q 4 = (c p 4) := by rw [hc_4]; exact up2_same
  refine E_load rfl rfl rfl ?_
  refine E_load rfl rfl rfl ?_
  refine E_getf (c := 6) (v := (0, (c p 5))) rfl (by omega : p < mN h) t2 rfl (fv (hfp_5_4)) ?_
  refine E_putzg (cl := 6) rfl (by omega : q < mN h) s2 rfl (he) (fun c_5 hc_5 => ?_)
  have hE_5 : EqP (fun a k => a = q + 1 ∨ (a = q ∧ 1 ≤ k ∧ k ≤ 5)) c_4 c_5 := by rw [hc_5]; exact EqP.up (by omega)
  have hfq_0_5 : c_5 q 0 = (((q + 1) : Nat) : Int) := by rw [hc_5]; exact (up2_fldN (by omega)).trans (hfq_0_4)
  have hfp_0_5 : c_5 p 0 = (((p + 1) : Nat) : Int) := by rw [hc_5]; exact (up2_fldN (by omega)).trans (hfp_0_4)
  have hfp_1_5 : c_5 p 1 = (c p 1) := by rw [hc_5]; exact (up2_fldN (by omega)).trans (hfp_1_4)
  have hfp_2_5 : c_5 p 2 = (c p 2) := by rw [hc_5]; exact (up2_fldN (by omega)).trans (hfp_2_4)
  have hfp_3_5 : c_5 p 3 = (c p 3) := by rw [hc_5]; exact (up2_fldN (by omega)).trans (hfp_3_4)
  have hfp_4_5 : c_5 p 4 = (c p 4) := by rw [hc_5]; exact (up2_fldN (by omega)).trans (hfp_4_4)
  have hfp_5_5 : c_5 p 5 = (c p 5) := by rw [hc_5]; exact (up2_fldN (by omega)).trans (hfp_5_4)
  have hfq_1_5 : c_5 q 1 = (c p 1) := by rw [hc_5]; exact (up2_fldN (by omega)).trans (hfq_1_4)
  have hfq_2_5 : c_5 q 2 = (c p 2) := by rw [hc_5]; exact (up2_fldN (by omega)).trans (hfq_2_4)
  have hfq_3_5 : c_5 q 3 = (c p 3) := by rw [hc_5]; exact (up2_fldN (by omega)).trans (hfq_3_4)
  have hfq_4_5 : c_5 q 4 = (c p 4) := by rw [hc_5]; exact (up2_fldN (by omega)).trans (hfq_4_4)
  have hfq_5_5 : c_5 q 5 = (c p 5) := by rw [hc_5]; exact up2_same
  refine E_load rfl rfl rfl ?_
  refine E_getr (c := 6) (r := (p + 1)) rfl (by omega : p < mN h) t2 rfl (hfp_0_5) ?_
  refine E_load rfl rfl rfl ?_
  refine E_getr (c := 6) (r := (q + 1)) rfl (by omega : q < mN h) s2 rfl (hfq_0_5) ?_
  refine E_S2 (y := 66) rfl rfl rfl rfl rfl (s_copy (by omega : p + 1 < mN h) (by omega : q + 1 < mN h) t3 s3 t4 s4 (by omega) (by omega)) (fun r h2 hq => ?_)
  obtain ⟨rfl, c_6, hh, hJ_6, hE0_6⟩ := hq
  subst hh
  have hE_6 : EqP (fun a k => a = q + 1 ∨ (a = q ∧ 1 ≤ k ∧ k ≤ 5)) c_5 c_6 := hE0_6.mono (fun a k e => by omega)
  refine E_vret rfl ?_
  refine ⟨rfl, c_6, rfl, fun k k1 k5 => ?_, fun j hj => (hJ_6 j hj).trans ?_, (hE_1.trans (hE_2.trans (hE_3.trans (hE_4.trans (hE_5.trans hE_6)))))⟩
  · rw [hE0_6 q k (by omega), hc_5]
    rcases (show k = 1 ∨ k = 2 ∨ k = 3 ∨ k = 4 ∨ k = 5 by omega) with rfl | rfl | rfl | rfl | rfl
    · rw [up2_fldN (by right; decide), hc_4, up2_fldN (by right; decide), hc_3, up2_fldN (by right; decide), hc_2, up2_fldN (by right; decide), hc_1]; exact up2_same
    · rw [up2_fldN (by right; decide), hc_4, up2_fldN (by right; decide), hc_3, up2_fldN (by right; decide), hc_2]; exact up2_same
    · rw [up2_fldN (by right; decide), hc_4, up2_fldN (by right; decide), hc_3]; exact up2_same
    · rw [up2_fldN (by right; decide), hc_4]; exact up2_same
    · exact up2_same
  · rw [hc_5, up2_fldN (by omega), hc_4, up2_fldN (by omega), hc_3, up2_fldN (by omega), hc_2, up2_fldN (by omega), hc_1, up2_fldN (by omega)]
set_option maxHeartbeats 4000000 in
set_option maxRecDepth 100000 in
theorem l_age {d : Nat} {h : Hp} {c : Nat → Nat → Int} {q : Nat} (hQ : La h c q) {n : Int} (hy : 0 ≤ c q 3 ∧ c q 3 ≤ 199) (he : c q 5 = 0 ∨ c q 5 = 1) (hn : 0 ≤ n ∧ n ≤ 100) : Ok (d + 1) 52 [(1, ((q : Nat) : Int)), (0, n)] (wC h c) (fun r h2 => r = none ∧ ∃ c2, h2 = wC h c2 ∧ c2 = if c q 5 = 0 then up2 c q 3 (if 199 < c q 3 + n then 199 else c q 3 + n) else c) := by
  show Ex _ none t_X5_age 0 0 _ [] (wC h c) _
  obtain ⟨s1, s2, s3, s4, s5⟩ := hQ
  refine E_load rfl rfl rfl ?_
  refine E_getf (c := 6) (v := (0, (c q 5))) rfl (by omega : q < mN h) s2 rfl (fv (rfl)) ?_
  refine E_if1 rfl (by omega) (fun q1 => ?_) (fun q1 => ?_)
  · refine E_vret rfl ?_
    exact ⟨rfl, c, rfl, by rw [if_neg (by omega)]⟩
  · refine E_load rfl rfl rfl ?_
    refine E_const rfl ?_
    refine E_load rfl rfl rfl ?_
    refine E_getf (c := 6) (v := (0, (c q 3))) rfl (by omega : q < mN h) s2 rfl (fv (rfl)) ?_
    refine E_load rfl rfl rfl ?_
    refine E_add rfl ?_
    refine E_min rfl (by omega) rfl ?_
    refine E_putg (cl := 6) rfl (by omega : q < mN h) s2 rfl (fun c_1 hc_1 => ?_)
    have hE_1 : EqP (fun a k => a = q ∧ k = 3) c c_1 := by rw [hc_1]; exact EqP.up (by omega)
    have hfq_3_1 : c_1 q 3 = (if 199 < ((c q 3) + n) then 199 else ((c q 3) + n)) := by rw [hc_1]; exact up2_same
    refine E_vret rfl ?_
    exact ⟨rfl, c_1, rfl, by rw [if_pos (by omega)]; exact hc_1⟩
set_option maxHeartbeats 4000000 in
set_option maxRecDepth 100000 in
theorem l_tell {d : Nat} {h : Hp} {c : Nat → Nat → Int} {q : Nat} (hQ : La h c q) {k : Nat} {n : Int} (hk : k < 4) : Ok (d) 53 [(1, ((q : Nat) : Int)), (0, (k : Int)), (0, n)] (wC h c) (fun r h2 => r = some (0, c (q + 1) k) ∧ ∃ c2, h2 = wC h c2 ∧ c2 = up2 c (q + 1) k n) := by
  show Ex _ none t_X5_tell 0 0 _ [] (wC h c) _
  obtain ⟨s1, s2, s3, s4, s5⟩ := hQ
  refine E_load rfl rfl rfl ?_
  refine E_if2 rfl (by omega) (fun q1 => ?_) (fun q1 => ?_)
  · exfalso; omega
  · refine E_load rfl rfl rfl ?_
    refine E_load rfl rfl rfl ?_
    refine E_getr (c := 6) (r := (q + 1)) rfl (by omega : q < mN h) s2 rfl (s5) ?_
    refine E_len (n := 4) rfl (by omega : q + 1 < mN h) (k20 s3) s4 ?_
    refine E_cmp2 rfl (by omega) (fun q2 => ?_) (fun q2 => ?_)
    · refine E_load rfl rfl rfl ?_
      refine E_getr (c := 6) (r := (q + 1)) rfl (by omega : q < mN h) s2 rfl (s5) ?_
      refine E_load rfl rfl rfl ?_
      refine E_ialn (n := 4) (v := ((c (q + 1)) k)) rfl (by omega : q + 1 < mN h) s3 s4 (by omega) (rdS (rfl) (by omega)) ?_
      refine E_store rfl rfl rfl ?_
      refine E_load rfl rfl rfl ?_
      refine E_getr (c := 6) (r := (q + 1)) rfl (by omega : q < mN h) s2 rfl (s5) ?_
      refine E_load rfl rfl rfl ?_
      refine E_load rfl rfl rfl ?_
      refine E_iasg (n := 4) (j := k) rfl (by omega : q + 1 < mN h) s3 s4 (by omega) (by omega) (fun c_1 hc_1 => ?_)
      have hE_1 : EqP (fun a k => a = q + 1) c c_1 := by rw [hc_1]; exact EqP.up (by omega)
      have hfq_0_1 : c_1 q 0 = (((q + 1) : Nat) : Int) := by rw [hc_1]; exact (up2_fldN (by omega)).trans (s5)
      refine E_load rfl rfl rfl ?_
      refine E_iret rfl (fun h => absurd h (by decide)) ?_
      exact ⟨rfl, c_1, rfl, hc_1⟩
    · exfalso; omega
set_option maxHeartbeats 4000000 in
set_option maxRecDepth 100000 in
theorem l_telling {d : Nat} {h : Hp} {c : Nat → Nat → Int} {q : Nat} (hQ : La h c q) (hu : 0 ≤ c q 4 ∧ c q 4 ≤ 3) : Ok (d) 54 [(1, ((q : Nat) : Int))] (wC h c) (fun r h2 => r = some (0, c (q + 1) (c q 4).toNat) ∧ h2 = wC h c) := by
  show Ex _ none t_X5_telling 0 0 _ [] (wC h c) _
  obtain ⟨s1, s2, s3, s4, s5⟩ := hQ
  refine E_load rfl rfl rfl ?_
  refine E_getf (c := 6) (v := (0, (c q 4))) rfl (by omega : q < mN h) s2 rfl (fv (rfl)) ?_
  refine E_if2 rfl (by omega) (fun q1 => ?_) (fun q1 => ?_)
  · exfalso; omega
  · refine E_load rfl rfl rfl ?_
    refine E_getf (c := 6) (v := (0, (c q 4))) rfl (by omega : q < mN h) s2 rfl (fv (rfl)) ?_
    refine E_load rfl rfl rfl ?_
    refine E_getr (c := 6) (r := (q + 1)) rfl (by omega : q < mN h) s2 rfl (s5) ?_
    refine E_len (n := 4) rfl (by omega : q + 1 < mN h) (k20 s3) s4 ?_
    refine E_cmp3 rfl (by omega) (fun q2 => ?_) (fun q2 => ?_)
    · exfalso; omega
    · refine E_load rfl rfl rfl ?_
      refine E_getr (c := 6) (r := (q + 1)) rfl (by omega : q < mN h) s2 rfl (s5) ?_
      refine E_load rfl rfl rfl ?_
      refine E_getf (c := 6) (v := (0, (c q 4))) rfl (by omega : q < mN h) s2 rfl (fv (rfl)) ?_
      refine E_ialn (n := 4) (v := (c (q + 1) (c q 4).toNat)) rfl (by omega : q + 1 < mN h) s3 s4 (by omega) (rdC (by omega)) ?_
      refine E_goto rfl ?_
      refine E_iret rfl (fun h => absurd h (by decide)) ?_
      exact ⟨rfl, rfl⟩
set_option maxHeartbeats 4000000 in
set_option maxRecDepth 100000 in
theorem k_bottle {d : Nat} {h : Hp} {c : Nat → Nat → Int} {p q : Nat} (hQ : La h c q) {v w y u e soft : Int} {tel : Nat → Int} (hV : LV c q v w y u e tel) (hv : 0 ≤ v ∧ v ≤ 9) (hw : -99 ≤ w ∧ w ≤ 99) (hy : 0 ≤ y ∧ y ≤ 199) (hu : 0 ≤ u ∧ u ≤ 3) (hs : 0 ≤ soft ∧ soft ≤ 3000000) : Ok (d + 2) 15 [(1, ((p : Nat) : Int)), (1, ((q : Nat) : Int)), (0, soft)] (wC h c) (fun r h2 => r = some (0, sayK 0 v w y u (tel u.toNat) soft) ∧ h2 = wC h c) := by
  show Ex _ none t_X0_spoken 0 0 _ [] (wC h c) _
  have hQQ := hQ
  obtain ⟨s1, s2, s3, s4, s5⟩ := hQ
  refine E_load rfl rfl rfl ?_
  refine E_getf (c := 6) (v := (0, w)) rfl (by omega : q < mN h) s2 rfl (fv (hV.1.2.1)) ?_
  refine E_load rfl rfl rfl ?_
  refine E_S2 (y := 113) rfl rfl rfl rfl rfl (c_nearer (by omega) (by omega)) (fun r h2 hq => ?_)
  obtain ⟨rfl, hh⟩ := hq
  subst hh
  refine E_iret rfl (fun h => absurd h (by decide)) ?_
  exact ⟨rfl, rfl⟩
set_option maxHeartbeats 4000000 in
set_option maxRecDepth 100000 in
theorem k_hard {d : Nat} {h : Hp} {c : Nat → Nat → Int} {p q : Nat} (hQ : La h c q) {v w y u e soft : Int} {tel : Nat → Int} (hV : LV c q v w y u e tel) (hv : 0 ≤ v ∧ v ≤ 9) (hw : -99 ≤ w ∧ w ≤ 99) (hy : 0 ≤ y ∧ y ≤ 199) (hu : 0 ≤ u ∧ u ≤ 3) (hs : 0 ≤ soft ∧ soft ≤ 3000000) : Ok (d + 2) 48 [(1, ((p : Nat) : Int)), (1, ((q : Nat) : Int)), (0, soft)] (wC h c) (fun r h2 => r = some (0, sayK 1 v w y u (tel u.toNat) soft) ∧ h2 = wC h c) := by
  show Ex _ none t_X4_spoken 0 0 _ [] (wC h c) _
  have hQQ := hQ
  obtain ⟨s1, s2, s3, s4, s5⟩ := hQ
  refine E_load rfl rfl rfl ?_
  refine E_getf (c := 6) (v := (0, w)) rfl (by omega : q < mN h) s2 rfl (fv (hV.1.2.1)) ?_
  refine E_load rfl rfl rfl ?_
  refine E_const rfl ?_
  have e2 : soft.tdiv 2 = soft / 2 := Int.tdiv_eq_ediv_of_nonneg hs.1
  refine E_div rfl (by omega) (by omega) (by omega) ?_
  refine E_S2 (y := 113) rfl rfl rfl rfl rfl (c_nearer (by omega) (by omega)) (fun r h2 hq => ?_)
  obtain ⟨rfl, hh⟩ := hq
  subst hh
  refine E_iret rfl (fun h => absurd h (by decide)) ?_
  exact ⟨rfl, rfl⟩
set_option maxHeartbeats 4000000 in
set_option maxRecDepth 100000 in
theorem k_sweet {d : Nat} {h : Hp} {c : Nat → Nat → Int} {p q : Nat} (hQ : La h c q) {v w y u e soft : Int} {tel : Nat → Int} (hV : LV c q v w y u e tel) (hv : 0 ≤ v ∧ v ≤ 9) (hw : -99 ≤ w ∧ w ≤ 99) (hy : 0 ≤ y ∧ y ≤ 199) (hu : 0 ≤ u ∧ u ≤ 3) (hs : 0 ≤ soft ∧ soft ≤ 3000000) : Ok (d + 2) 68 [(1, ((p : Nat) : Int)), (1, ((q : Nat) : Int)), (0, soft)] (wC h c) (fun r h2 => r = some (0, sayK 2 v w y u (tel u.toNat) soft) ∧ h2 = wC h c) := by
  show Ex _ none t_X8_spoken 0 0 _ [] (wC h c) _
  have hQQ := hQ
  obtain ⟨s1, s2, s3, s4, s5⟩ := hQ
  refine E_load rfl rfl rfl ?_
  refine E_getf (c := 6) (v := (0, w)) rfl (by omega : q < mN h) s2 rfl (fv (hV.1.2.1)) ?_
  refine E_load rfl rfl rfl ?_
  refine E_const rfl ?_
  refine E_mul rfl ?_
  refine E_S2 (y := 113) rfl rfl rfl rfl rfl (c_nearer (by omega) (by omega)) (fun r h2 hq => ?_)
  obtain ⟨rfl, hh⟩ := hq
  subst hh
  refine E_iret rfl (fun h => absurd h (by decide)) ?_
  exact ⟨by rw [Int.mul_comm soft 2]; rfl, rfl⟩
set_option maxHeartbeats 4000000 in
set_option maxRecDepth 100000 in
theorem k_corked {d : Nat} {h : Hp} {c : Nat → Nat → Int} {p q : Nat} (hQ : La h c q) {v w y u e soft : Int} {tel : Nat → Int} (hV : LV c q v w y u e tel) (hv : 0 ≤ v ∧ v ≤ 9) (hw : -99 ≤ w ∧ w ≤ 99) (hy : 0 ≤ y ∧ y ≤ 199) (hu : 0 ≤ u ∧ u ≤ 3) (hs : 0 ≤ soft ∧ soft ≤ 3000000) (hp : p < mN h) (hpc : mK h p = 3 ∨ mK h p = 10) : Ok (d + 3) 42 [(1, ((p : Nat) : Int)), (1, ((q : Nat) : Int)), (0, soft)] (wC h c) (fun r h2 => r = some (0, sayK 3 v w y u (tel u.toNat) soft) ∧ h2 = wC h c) := by
  show Ex _ none t_X2_spoken 0 0 _ [] (wC h c) _
  have hQQ := hQ
  obtain ⟨s1, s2, s3, s4, s5⟩ := hQ
  refine E_load rfl rfl rfl ?_
  refine E_load rfl rfl rfl ?_
  refine E_load rfl rfl rfl ?_
  refine E_V2 (q := p) (c := (mK h p)) (y := 15) rfl rfl hp rfl (by rcases hpc with e | e <;> rw [e] <;> rfl) rfl rfl rfl (k_bottle hQQ hV hv hw hy hu hs) (fun r h2 hq => ?_)
  obtain ⟨rfl, hh⟩ := hq
  subst hh
  refine E_store rfl rfl rfl ?_
  refine E_load rfl rfl rfl ?_
  refine E_getf (c := 6) (v := (0, u)) rfl (by omega : q < mN h) s2 rfl (fv (hV.1.2.2.2.1)) ?_
  refine E_const rfl ?_
  have e2 : u.tmod 2 = u % 2 := Int.tmod_eq_emod_of_nonneg hu.1
  refine E_rem rfl (by omega) (by omega) (by omega) ?_
  refine E_const rfl ?_
  refine E_cmp1 rfl (by omega) (fun q1 => ?_) (fun q1 => ?_)
  · refine E_load rfl rfl rfl ?_
    refine E_iret rfl (fun h => absurd h (by decide)) ?_
    exact ⟨by rw [say_3, if_neg (by omega), Int.mul_one]; rfl, rfl⟩
  · refine E_load rfl rfl rfl ?_
    refine E_neg rfl ?_
    refine E_goto rfl ?_
    refine E_iret rfl (fun h => absurd h (by decide)) ?_
    exact ⟨by rw [say_3, if_pos (by omega), Int.mul_neg, Int.mul_one]; rfl, rfl⟩
set_option maxHeartbeats 4000000 in
set_option maxRecDepth 100000 in
theorem k_feud {d : Nat} {h : Hp} {c : Nat → Nat → Int} {p q : Nat} (hQ : La h c q) {v w y u e soft : Int} {tel : Nat → Int} (hV : LV c q v w y u e tel) (hv : 0 ≤ v ∧ v ≤ 9) (hw : -99 ≤ w ∧ w ≤ 99) (hy : 0 ≤ y ∧ y ≤ 199) (hu : 0 ≤ u ∧ u ≤ 3) (hs : 0 ≤ soft ∧ soft ≤ 3000000) (hp : p < mN h) (hpc : mK h p = 4) : Ok (d + 3) 45 [(1, ((p : Nat) : Int)), (1, ((q : Nat) : Int)), (0, soft)] (wC h c) (fun r h2 => r = some (0, sayK 4 v w y u (tel u.toNat) soft) ∧ h2 = wC h c) := by
  show Ex _ none t_X3_spoken 0 0 _ [] (wC h c) _
  have hQQ := hQ
  obtain ⟨s1, s2, s3, s4, s5⟩ := hQ
  refine E_load rfl rfl rfl ?_
  refine E_load rfl rfl rfl ?_
  refine E_load rfl rfl rfl ?_
  refine E_V2 (q := p) (c := (mK h p)) (y := 48) rfl rfl hp rfl (by rw [hpc]; rfl) rfl rfl rfl (k_hard hQQ hV hv hw hy hu hs) (fun r h2 hq => ?_)
  obtain ⟨rfl, hh⟩ := hq
  subst hh
  refine E_store rfl rfl rfl ?_
  refine E_load rfl rfl rfl ?_
  refine E_getf (c := 6) (v := (0, y)) rfl (by omega : q < mN h) s2 rfl (fv (hV.1.2.2.1)) ?_
  refine E_const rfl ?_
  refine E_cmp5 rfl (by omega) (fun q1 => ?_) (fun q1 => ?_)
  · refine E_load rfl rfl rfl ?_
    refine E_iret rfl (fun h => absurd h (by decide)) ?_
    exact ⟨by rw [say_4, if_neg (by omega), Int.sub_zero]; rfl, rfl⟩
  · refine E_load rfl rfl rfl ?_
    refine E_load rfl rfl rfl ?_
    refine E_getf (c := 6) (v := (0, v)) rfl (by omega : q < mN h) s2 rfl (fv (hV.1.1)) ?_
    refine E_sub rfl ?_
    refine E_goto rfl ?_
    refine E_iret rfl (fun h => absurd h (by decide)) ?_
    exact ⟨by rw [say_4, if_pos (by omega)]; rfl, rfl⟩
set_option maxHeartbeats 4000000 in
set_option maxRecDepth 100000 in
theorem k_love {d : Nat} {h : Hp} {c : Nat → Nat → Int} {p q : Nat} (hQ : La h c q) {v w y u e soft : Int} {tel : Nat → Int} (hV : LV c q v w y u e tel) (hv : 0 ≤ v ∧ v ≤ 9) (hw : -99 ≤ w ∧ w ≤ 99) (hy : 0 ≤ y ∧ y ≤ 199) (hu : 0 ≤ u ∧ u ≤ 3) (hs : 0 ≤ soft ∧ soft ≤ 3000000) (hp : p < mN h) (hpc : mK h p = 7) : Ok (d + 3) 56 [(1, ((p : Nat) : Int)), (1, ((q : Nat) : Int)), (0, soft)] (wC h c) (fun r h2 => r = some (0, sayK 5 v w y u (tel u.toNat) soft) ∧ h2 = wC h c) := by
  show Ex _ none t_X6_spoken 0 0 _ [] (wC h c) _
  have hQQ := hQ
  obtain ⟨s1, s2, s3, s4, s5⟩ := hQ
  refine E_load rfl rfl rfl ?_
  refine E_load rfl rfl rfl ?_
  refine E_load rfl rfl rfl ?_
  refine E_V2 (q := p) (c := (mK h p)) (y := 68) rfl rfl hp rfl (by rw [hpc]; rfl) rfl rfl rfl (k_sweet hQQ hV hv hw hy hu hs) (fun r h2 hq => ?_)
  obtain ⟨rfl, hh⟩ := hq
  subst hh
  refine E_store rfl rfl rfl ?_
  refine E_load rfl rfl rfl ?_
  refine E_getf (c := 6) (v := (0, w)) rfl (by omega : q < mN h) s2 rfl (fv (hV.1.2.1)) ?_
  refine E_if5 rfl (by omega) (fun q1 => ?_) (fun q1 => ?_)
  · refine E_load rfl rfl rfl ?_
    refine E_iret rfl (fun h => absurd h (by decide)) ?_
    exact ⟨by rw [say_5, if_neg (by omega), Int.sub_zero]; rfl, rfl⟩
  · refine E_load rfl rfl rfl ?_
    refine E_getf (c := 6) (v := (0, y)) rfl (by omega : q < mN h) s2 rfl (fv (hV.1.2.2.1)) ?_
    refine E_const rfl ?_
    refine E_cmp5 rfl (by omega) (fun q2 => ?_) (fun q2 => ?_)
    · refine E_load rfl rfl rfl ?_
      refine E_iret rfl (fun h => absurd h (by decide)) ?_
      exact ⟨by rw [say_5, if_neg (by omega), Int.sub_zero]; rfl, rfl⟩
    · refine E_load rfl rfl rfl ?_
      refine E_load rfl rfl rfl ?_
      refine E_getf (c := 6) (v := (0, v)) rfl (by omega : q < mN h) s2 rfl (fv (hV.1.1)) ?_
      refine E_sub rfl ?_
      refine E_goto rfl ?_
      refine E_iret rfl (fun h => absurd h (by decide)) ?_
      exact ⟨by rw [say_5, if_pos (by omega)]; rfl, rfl⟩
set_option maxHeartbeats 4000000 in
set_option maxRecDepth 100000 in
theorem k_told {d : Nat} {h : Hp} {c : Nat → Nat → Int} {p q : Nat} (hQ : La h c q) {v w y u e soft : Int} {tel : Nat → Int} (hV : LV c q v w y u e tel) (hv : 0 ≤ v ∧ v ≤ 9) (hw : -99 ≤ w ∧ w ≤ 99) (hy : 0 ≤ y ∧ y ≤ 199) (hu : 0 ≤ u ∧ u ≤ 3) (hs : 0 ≤ soft ∧ soft ≤ 3000000) (hp : p < mN h) (hpc : mK h p = 10) : Ok (d + 4) 71 [(1, ((p : Nat) : Int)), (1, ((q : Nat) : Int)), (0, soft)] (wC h c) (fun r h2 => r = some (0, sayK 6 v w y u (tel u.toNat) soft) ∧ h2 = wC h c) := by
  show Ex _ none t_X9_spoken 0 0 _ [] (wC h c) _
  have hQQ := hQ
  obtain ⟨s1, s2, s3, s4, s5⟩ := hQ
  refine E_load rfl rfl rfl ?_
  refine E_load rfl rfl rfl ?_
  refine E_load rfl rfl rfl ?_
  refine E_V2 (q := p) (c := (mK h p)) (y := 42) rfl rfl hp rfl (by rw [hpc]; rfl) rfl rfl rfl (k_corked hQQ hV hv hw hy hu hs hp (Or.inr hpc)) (fun r h2 hq => ?_)
  obtain ⟨rfl, hh⟩ := hq
  subst hh
  refine E_load rfl rfl rfl ?_
  refine E_V0 (q := q) (c := 6) (y := 54) rfl rfl (by omega : q < mN h) s2 rfl rfl rfl rfl (l_telling (c := c) hQQ (by rw [hV.1.2.2.2.1]; exact hu)) (fun r h2 hq => ?_)
  obtain ⟨rfl, hh⟩ := hq
  subst hh
  refine E_add rfl ?_
  refine E_iret rfl (fun h => absurd h (by decide)) ?_
  exact ⟨by rw [say_6, hV.1.2.2.2.1, hV.2 _ (by omega)]; rfl, rfl⟩
