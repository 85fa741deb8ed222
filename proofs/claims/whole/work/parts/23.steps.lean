/-! ONE RULE AN INSTRUCTION -/
/-- heap g with places c -/
def wC (g : Hp) (c : Nat → Nat → Int) : Hp := (g.1, g.2.1, g.2.2.1, g.2.2.2.1, c)
def up2 (c : Nat → Nat → Int) (a k : Nat) (x : Int) : Nat → Nat → Int := fun b j => if b = a ∧ j = k then x else c b j
theorem mPut_wC (g : Hp) (c : Nat → Nat → Int) (a k : Nat) (x : Int) : mPut (wC g c) a k x = wC g (up2 c a k x) := rfl
section ESTEPS
variable {d : Nat} {sc : Option (Nat × (Nat → Int))} {tb : List ME} {rk pc nx : Nat} {a b : Int} {l : List (Int × Int)} {lv st : List AV} {h : Hp} {Q : Option AV → Hp → Prop}
theorem E_const (hat : mAt tb pc = some (nx, 0, a, b, l)) (k : Ex d sc tb rk nx lv ((0, a) :: st) h Q) : Ex d sc tb rk pc lv st h Q := k.step hat rfl rfl
theorem E_load {v : AV} (hat : mAt tb pc = some (nx, 1, a, b, l)) (hv : lv[b.toNat]? = some v) (ht : v.1 = a.toNat) (k : Ex d sc tb rk nx lv (v :: st) h Q) : Ex d sc tb rk pc lv st h Q := k.step hat rfl (by simp only [mStep, hv, ht, if_true])
theorem E_store {v : AV} {lv' : List AV} (hat : mAt tb pc = some (nx, 2, a, b, l)) (hv : mSet lv b.toNat v = some lv') (ht : v.1 = a.toNat) (k : Ex d sc tb rk nx lv' st h Q) : Ex d sc tb rk pc lv (v :: st) h Q := k.step hat rfl (by simp only [mStep, hv, ht, if_true])
theorem E_iinc {x : Int} {lv' : List AV} (hat : mAt tb pc = some (nx, 3, a, b, l)) (hv : lv[a.toNat]? = some (0, x)) (hm : mSet lv a.toNat (0, x + b) = some lv') (k : Ex d sc tb rk nx lv' st h Q) : Ex d sc tb rk pc lv st h Q := k.step hat rfl (by simp only [mStep, hv, hm])
theorem E_add {x y : Int} (hat : mAt tb pc = some (nx, 4, 0, b, l)) (k : Ex d sc tb rk nx lv ((0, x + y) :: st) h Q) : Ex d sc tb rk pc lv ((0, y) :: (0, x) :: st) h Q := k.step hat rfl rfl
theorem E_sub {x y : Int} (hat : mAt tb pc = some (nx, 4, 1, b, l)) (k : Ex d sc tb rk nx lv ((0, x - y) :: st) h Q) : Ex d sc tb rk pc lv ((0, y) :: (0, x) :: st) h Q := k.step hat rfl rfl
theorem E_mul {x y : Int} (hat : mAt tb pc = some (nx, 4, 2, b, l)) (k : Ex d sc tb rk nx lv ((0, x * y) :: st) h Q) : Ex d sc tb rk pc lv ((0, y) :: (0, x) :: st) h Q := k.step hat rfl rfl
theorem ofInt_div {x y : Int} (hx : inR x) (hy : inR y) (h0 : 0 < y) : (Int32.ofInt x / Int32.ofInt y).toInt = x.tdiv y := by
  rw [Int32.toInt_div_of_ne_right _ _ (by
    rw [show (-1 : Int32) = Int32.ofInt (-1) from rfl]
    intro h
    rw [ofInt_inj hy (by omega)] at h
    omega), Int32.toInt_ofInt_of_le (by omega) (by omega), Int32.toInt_ofInt_of_le (by omega) (by omega)]
theorem tdiv_in {x y : Int} (hx : inR x) (h0 : 0 < y) : inR (x.tdiv y) := by
  rcases Int.le_total 0 x with h | h
  · have h1 : 0 ≤ x.tdiv y := Int.tdiv_nonneg h (by omega)
    have h2 : x.tdiv y ≤ x := Int.tdiv_le_self y h
    omega
  · have h1 : 0 ≤ (-x).tdiv y := Int.tdiv_nonneg (by omega) (by omega)
    have h2 : (-x).tdiv y ≤ -x := Int.tdiv_le_self y (by omega)
    rw [Int.neg_tdiv] at h1 h2
    omega
theorem ofInt_rem {x y : Int} (hx : inR x) (hy : inR y) (h0 : 0 < y) : (Int32.ofInt x - Int32.ofInt x / Int32.ofInt y * Int32.ofInt y).toInt = x.tmod y := by
  have e : Int32.ofInt x / Int32.ofInt y = Int32.ofInt (x.tdiv y) := by rw [← Int32.ofInt_toInt (Int32.ofInt x / Int32.ofInt y), ofInt_div hx hy h0]
  rw [e, ← Int32.ofInt_mul, ← Int32.ofInt_sub]
  have e2 : x - x.tdiv y * y = x.tmod y := by rw [Int.tmod_def, Int.mul_comm]
  rw [e2]
  have h1 : -2147483648 ≤ x.tmod y ∧ x.tmod y < 2147483648 := by
    have h3 := Int.tmod_lt_of_pos x h0
    have h4 : -y < x.tmod y := by
      have := Int.tmod_lt_of_pos (-x) h0
      rw [Int.neg_tmod] at this
      omega
    omega
  exact Int32.toInt_ofInt_of_le (by omega) (by omega)
theorem E_div {x y : Int} (hat : mAt tb pc = some (nx, 4, 3, b, l)) (hx : inR x) (hy : inR y) (h0 : 0 < y) (k : Ex d sc tb rk nx lv ((0, x.tdiv y) :: st) h Q) : Ex d sc tb rk pc lv ((0, y) :: (0, x) :: st) h Q := by
  have e : mBin 3 x y = some (x.tdiv y) := by
    unfold mBin
    rw [if_neg (by decide), if_neg (by decide), if_neg (by decide), if_pos rfl, if_pos ⟨⟨hx, hy⟩, by omega⟩, ofInt_div hx hy h0]
  exact k.step hat rfl (by show (match mBin 3 x y with | some z => some (nx, lv, ((0, z) : AV) :: st, h) | none => none) = _; rw [e])
theorem E_rem {x y : Int} (hat : mAt tb pc = some (nx, 4, 4, b, l)) (hx : inR x) (hy : inR y) (h0 : 0 < y) (k : Ex d sc tb rk nx lv ((0, x.tmod y) :: st) h Q) : Ex d sc tb rk pc lv ((0, y) :: (0, x) :: st) h Q := by
  have e : mBin 4 x y = some (x.tmod y) := by
    unfold mBin
    rw [if_neg (by decide), if_neg (by decide), if_neg (by decide), if_neg (by decide), if_pos rfl, if_pos ⟨⟨hx, hy⟩, by omega⟩, ofInt_rem hx hy h0]
  exact k.step hat rfl (by show (match mBin 4 x y with | some z => some (nx, lv, ((0, z) : AV) :: st, h) | none => none) = _; rw [e])
/-- and, or, xor, shifts: a is 5 .. 10 -/
theorem E_bit {x y z : Int} (hat : mAt tb pc = some (nx, 4, a, b, l)) (ha : Nat.blt 4 a.toNat = true) (hz : mBit a.toNat x y = z) (k : Ex d sc tb rk nx lv ((0, z) :: st) h Q) : Ex d sc tb rk pc lv ((0, y) :: (0, x) :: st) h Q := by
  have h4 : 5 ≤ a.toNat := Nat.le_of_ble_eq_true ha
  have e : mBin a.toNat x y = some z := by
    unfold mBin
    rw [if_neg (by omega), if_neg (by omega), if_neg (by omega), if_neg (by omega), if_neg (by omega), hz]
  exact k.step hat rfl (by show (match mBin a.toNat x y with | some z => some (nx, lv, ((0, z) : AV) :: st, h) | none => none) = _; rw [e])
theorem E_neg {x : Int} (hat : mAt tb pc = some (nx, 5, a, b, l)) (k : Ex d sc tb rk nx lv ((0, -x) :: st) h Q) : Ex d sc tb rk pc lv ((0, x) :: st) h Q := k.step hat rfl rfl
theorem wI_id {x : Int} (h : inR x) : wI x = x := Int32.toInt_ofInt_of_le (by omega) (by omega)
theorem E_ifs {x : Int} {o : Nat} (hat : mAt tb pc = some (nx, 6, a, b, l)) (ho : b.toNat = o) (hc : Nat.blt o 6 = true) (hx : inR x) (kt : mCmp0 o x 0 = true → Ex d sc tb rk a.toNat lv st h Q) (kf : mCmp0 o x 0 = false → Ex d sc tb rk nx lv st h Q) : Ex d sc tb rk pc lv ((0, x) :: st) h Q := by
  subst ho
  have hc2 : mCan b.toNat x 0 := Nat.le_of_ble_eq_true hc
  have hm : mCmp b.toNat x 0 = mCmp0 b.toNat x 0 := by unfold mCmp; rw [wI_id hx, wI_0]
  cases e : mCmp0 b.toNat x 0 with
  | true => exact (kt e).step hat rfl (by simp only [mStep, if_pos hc2, hm, e, if_true])
  | false => exact (kf e).step hat rfl (by simp only [mStep, if_pos hc2, hm, e, Bool.false_eq_true, if_false])
theorem E_cmpw {x y : Int} {o : Nat} (hat : mAt tb pc = some (nx, 7, a, b, l)) (ho : b.toNat = o) (hc : Nat.blt o 6 = true) (kt : mCmp0 o (wI x) (wI y) = true → Ex d sc tb rk a.toNat lv st h Q) (kf : mCmp0 o (wI x) (wI y) = false → Ex d sc tb rk nx lv st h Q) : Ex d sc tb rk pc lv ((0, y) :: (0, x) :: st) h Q := by
  subst ho
  have hc2 : mCan b.toNat x y := Nat.le_of_ble_eq_true hc
  cases e : mCmp0 b.toNat (wI x) (wI y) with
  | true => exact (kt e).step hat rfl (by simp only [mStep, if_pos hc2, mCmp, e, if_true])
  | false => exact (kf e).step hat rfl (by simp only [mStep, if_pos hc2, mCmp, e, Bool.false_eq_true, if_false])
theorem E_cmps {x y : Int} {o : Nat} (hat : mAt tb pc = some (nx, 7, a, b, l)) (ho : b.toNat = o) (hc : Nat.blt o 6 = true) (hx : inR x ∧ inR y) (kt : mCmp0 o x y = true → Ex d sc tb rk a.toNat lv st h Q) (kf : mCmp0 o x y = false → Ex d sc tb rk nx lv st h Q) : Ex d sc tb rk pc lv ((0, y) :: (0, x) :: st) h Q := by
  refine E_cmpw hat ho hc (fun e => ?_) (fun e => ?_) <;> rw [wI_id hx.1, wI_id hx.2] at e
  · exact kt e
  · exact kf e
theorem mCmp_0 {x y : Int} : (mCmp0 0 x y = true ↔ x = y) ∧ (mCmp0 0 x y = false ↔ x ≠ y) := by simp [mCmp0]
theorem mCmp_1 {x y : Int} : (mCmp0 1 x y = true ↔ x ≠ y) ∧ (mCmp0 1 x y = false ↔ x = y) := by simp [mCmp0]
theorem mCmp_2 {x y : Int} : (mCmp0 2 x y = true ↔ x < y) ∧ (mCmp0 2 x y = false ↔ y ≤ x) := by simp [mCmp0]
theorem mCmp_3 {x y : Int} : (mCmp0 3 x y = true ↔ y ≤ x) ∧ (mCmp0 3 x y = false ↔ x < y) := by simp [mCmp0]
theorem mCmp_4 {x y : Int} : (mCmp0 4 x y = true ↔ y < x) ∧ (mCmp0 4 x y = false ↔ x ≤ y) := by simp [mCmp0]
theorem mCmp_5 {x y : Int} : (mCmp0 5 x y = true ↔ x ≤ y) ∧ (mCmp0 5 x y = false ↔ y < x) := by simp [mCmp0]
theorem E_if0 {x : Int} (hat : mAt tb pc = some (nx, 6, a, 0, l)) (hx : inR x) (kt : x = 0 → Ex d sc tb rk a.toNat lv st h Q) (kf : x ≠ 0 → Ex d sc tb rk nx lv st h Q) : Ex d sc tb rk pc lv ((0, x) :: st) h Q := E_ifs (o := 0) hat rfl rfl hx (fun e => kt (mCmp_0.1.mp e)) (fun e => kf (mCmp_0.2.mp e))
theorem E_if1 {x : Int} (hat : mAt tb pc = some (nx, 6, a, 1, l)) (hx : inR x) (kt : x ≠ 0 → Ex d sc tb rk a.toNat lv st h Q) (kf : x = 0 → Ex d sc tb rk nx lv st h Q) : Ex d sc tb rk pc lv ((0, x) :: st) h Q := E_ifs (o := 1) hat rfl rfl hx (fun e => kt (mCmp_1.1.mp e)) (fun e => kf (mCmp_1.2.mp e))
theorem E_if2 {x : Int} (hat : mAt tb pc = some (nx, 6, a, 2, l)) (hx : inR x) (kt : x < 0 → Ex d sc tb rk a.toNat lv st h Q) (kf : 0 ≤ x → Ex d sc tb rk nx lv st h Q) : Ex d sc tb rk pc lv ((0, x) :: st) h Q := E_ifs (o := 2) hat rfl rfl hx (fun e => kt (mCmp_2.1.mp e)) (fun e => kf (mCmp_2.2.mp e))
theorem E_if3 {x : Int} (hat : mAt tb pc = some (nx, 6, a, 3, l)) (hx : inR x) (kt : 0 ≤ x → Ex d sc tb rk a.toNat lv st h Q) (kf : x < 0 → Ex d sc tb rk nx lv st h Q) : Ex d sc tb rk pc lv ((0, x) :: st) h Q := E_ifs (o := 3) hat rfl rfl hx (fun e => kt (mCmp_3.1.mp e)) (fun e => kf (mCmp_3.2.mp e))
theorem E_if4 {x : Int} (hat : mAt tb pc = some (nx, 6, a, 4, l)) (hx : inR x) (kt : 0 < x → Ex d sc tb rk a.toNat lv st h Q) (kf : x ≤ 0 → Ex d sc tb rk nx lv st h Q) : Ex d sc tb rk pc lv ((0, x) :: st) h Q := E_ifs (o := 4) hat rfl rfl hx (fun e => kt (mCmp_4.1.mp e)) (fun e => kf (mCmp_4.2.mp e))
theorem E_if5 {x : Int} (hat : mAt tb pc = some (nx, 6, a, 5, l)) (hx : inR x) (kt : x ≤ 0 → Ex d sc tb rk a.toNat lv st h Q) (kf : 0 < x → Ex d sc tb rk nx lv st h Q) : Ex d sc tb rk pc lv ((0, x) :: st) h Q := E_ifs (o := 5) hat rfl rfl hx (fun e => kt (mCmp_5.1.mp e)) (fun e => kf (mCmp_5.2.mp e))
theorem E_cmp0 {x y : Int} (hat : mAt tb pc = some (nx, 7, a, 0, l)) (hx : inR x ∧ inR y) (kt : x = y → Ex d sc tb rk a.toNat lv st h Q) (kf : x ≠ y → Ex d sc tb rk nx lv st h Q) : Ex d sc tb rk pc lv ((0, y) :: (0, x) :: st) h Q := E_cmps (o := 0) hat rfl rfl hx (fun e => kt (mCmp_0.1.mp e)) (fun e => kf (mCmp_0.2.mp e))
theorem E_cmp1 {x y : Int} (hat : mAt tb pc = some (nx, 7, a, 1, l)) (hx : inR x ∧ inR y) (kt : x ≠ y → Ex d sc tb rk a.toNat lv st h Q) (kf : x = y → Ex d sc tb rk nx lv st h Q) : Ex d sc tb rk pc lv ((0, y) :: (0, x) :: st) h Q := E_cmps (o := 1) hat rfl rfl hx (fun e => kt (mCmp_1.1.mp e)) (fun e => kf (mCmp_1.2.mp e))
theorem E_cmp2 {x y : Int} (hat : mAt tb pc = some (nx, 7, a, 2, l)) (hx : inR x ∧ inR y) (kt : x < y → Ex d sc tb rk a.toNat lv st h Q) (kf : y ≤ x → Ex d sc tb rk nx lv st h Q) : Ex d sc tb rk pc lv ((0, y) :: (0, x) :: st) h Q := E_cmps (o := 2) hat rfl rfl hx (fun e => kt (mCmp_2.1.mp e)) (fun e => kf (mCmp_2.2.mp e))
theorem E_cmp3 {x y : Int} (hat : mAt tb pc = some (nx, 7, a, 3, l)) (hx : inR x ∧ inR y) (kt : y ≤ x → Ex d sc tb rk a.toNat lv st h Q) (kf : x < y → Ex d sc tb rk nx lv st h Q) : Ex d sc tb rk pc lv ((0, y) :: (0, x) :: st) h Q := E_cmps (o := 3) hat rfl rfl hx (fun e => kt (mCmp_3.1.mp e)) (fun e => kf (mCmp_3.2.mp e))
theorem E_cmp4 {x y : Int} (hat : mAt tb pc = some (nx, 7, a, 4, l)) (hx : inR x ∧ inR y) (kt : y < x → Ex d sc tb rk a.toNat lv st h Q) (kf : x ≤ y → Ex d sc tb rk nx lv st h Q) : Ex d sc tb rk pc lv ((0, y) :: (0, x) :: st) h Q := E_cmps (o := 4) hat rfl rfl hx (fun e => kt (mCmp_4.1.mp e)) (fun e => kf (mCmp_4.2.mp e))
theorem E_cmp5 {x y : Int} (hat : mAt tb pc = some (nx, 7, a, 5, l)) (hx : inR x ∧ inR y) (kt : x ≤ y → Ex d sc tb rk a.toNat lv st h Q) (kf : y < x → Ex d sc tb rk nx lv st h Q) : Ex d sc tb rk pc lv ((0, y) :: (0, x) :: st) h Q := E_cmps (o := 5) hat rfl rfl hx (fun e => kt (mCmp_5.1.mp e)) (fun e => kf (mCmp_5.2.mp e))
/-- equality of what may leave the range: by the wrapped numbers -/
theorem E_cmpe0 {x y : Int} (hat : mAt tb pc = some (nx, 7, a, 0, l)) (hx : x = y) (k : Ex d sc tb rk a.toNat lv st h Q) : Ex d sc tb rk pc lv ((0, y) :: (0, x) :: st) h Q := E_cmpw (o := 0) hat rfl rfl (fun _ => k) (fun e => absurd (congrArg wI hx) (mCmp_0.2.mp e))
theorem E_cmpe1 {x y : Int} (hat : mAt tb pc = some (nx, 7, a, 1, l)) (hx : x = y) (k : Ex d sc tb rk nx lv st h Q) : Ex d sc tb rk pc lv ((0, y) :: (0, x) :: st) h Q := E_cmpw (o := 1) hat rfl rfl (fun e => absurd (congrArg wI hx) (mCmp_1.1.mp e)) (fun _ => k)
theorem E_null0 {x : Int} (hat : mAt tb pc = some (nx, 8, a, 0, l)) (kt : x = -1 → Ex d sc tb rk a.toNat lv st h Q) (kf : x ≠ -1 → Ex d sc tb rk nx lv st h Q) : Ex d sc tb rk pc lv ((1, x) :: st) h Q := by
  by_cases e : x = -1
  · exact (kt e).step hat rfl (by simp [mStep, e])
  · exact (kf e).step hat rfl (by simp [mStep, e])
theorem E_null1 {x : Int} (hat : mAt tb pc = some (nx, 8, a, 1, l)) (kt : x ≠ -1 → Ex d sc tb rk a.toNat lv st h Q) (kf : x = -1 → Ex d sc tb rk nx lv st h Q) : Ex d sc tb rk pc lv ((1, x) :: st) h Q := by
  by_cases e : x = -1
  · exact (kf e).step hat rfl (by simp [mStep, e])
  · exact (kt e).step hat rfl (by simp [mStep, e])
theorem E_acmp0 {x y : Int} (hat : mAt tb pc = some (nx, 9, a, 0, l)) (hx : x = -2 ∨ x = -1 ∨ 0 ≤ x) (hy : y = -2 ∨ y = -1 ∨ 0 ≤ y) (kt : x = y → Ex d sc tb rk a.toNat lv st h Q) (kf : x ≠ y → Ex d sc tb rk nx lv st h Q) : Ex d sc tb rk pc lv ((1, y) :: (1, x) :: st) h Q := by
  have hc : (x = -2 ∨ x = -1 ∨ 0 ≤ x) ∧ (y = -2 ∨ y = -1 ∨ 0 ≤ y) := ⟨hx, hy⟩
  by_cases e : x = y
  · exact (kt e).step hat rfl (by simp only [mStep]; rw [if_pos hc]; simp [e])
  · exact (kf e).step hat rfl (by simp only [mStep]; rw [if_pos hc]; simp [e])
theorem E_goto (hat : mAt tb pc = some (nx, 10, a, b, l)) (k : Ex d sc tb rk a.toNat lv st h Q) : Ex d sc tb rk pc lv st h Q := k.step hat rfl rfl
theorem E_dup {v : AV} (hat : mAt tb pc = some (nx, 11, a, b, l)) (hv : Nat.blt v.1 2 = true) (k : Ex d sc tb rk nx lv (v :: v :: st) h Q) : Ex d sc tb rk pc lv (v :: st) h Q := k.step hat rfl (by
  have : v.1 < 2 := Nat.le_of_ble_eq_true hv
  simp [mStep, this])
theorem E_pop {v : AV} (hat : mAt tb pc = some (nx, 12, a, b, l)) (hv : Nat.blt v.1 2 = true) (k : Ex d sc tb rk nx lv st h Q) : Ex d sc tb rk pc lv (v :: st) h Q := k.step hat rfl (by
  have : v.1 < 2 := Nat.le_of_ble_eq_true hv
  simp [mStep, this])
theorem E_dupx1 {v w : AV} (hat : mAt tb pc = some (nx, 13, a, b, l)) (hv : Nat.blt v.1 2 = true) (hw : Nat.blt w.1 2 = true) (k : Ex d sc tb rk nx lv (v :: w :: v :: st) h Q) : Ex d sc tb rk pc lv (v :: w :: st) h Q := k.step hat rfl (by
  have h1 : v.1 < 2 := Nat.le_of_ble_eq_true hv
  have h2 : w.1 < 2 := Nat.le_of_ble_eq_true hw
  simp [mStep, h1, h2])
theorem E_dup2 {v w : AV} (hat : mAt tb pc = some (nx, 14, a, b, l)) (hv : Nat.blt v.1 2 = true) (hw : Nat.blt w.1 2 = true) (k : Ex d sc tb rk nx lv (v :: w :: v :: w :: st) h Q) : Ex d sc tb rk pc lv (v :: w :: st) h Q := k.step hat rfl (by
  have h1 : v.1 < 2 := Nat.le_of_ble_eq_true hv
  have h2 : w.1 < 2 := Nat.le_of_ble_eq_true hw
  simp [mStep, h1, h2])
theorem E_nul (hat : mAt tb pc = some (nx, 15, a, b, l)) (k : Ex d sc tb rk nx lv ((1, -1) :: st) h Q) : Ex d sc tb rk pc lv st h Q := k.step hat rfl rfl
theorem mAd_of {q : Nat} (hq : q < mN h) : mAd h (q : Int) = some q := by
  unfold mAd
  rw [if_pos ⟨by omega, by rw [Int.toNat_natCast]; exact hq⟩, Int.toNat_natCast]
theorem E_getf {q c : Nat} {v : AV} (hat : mAt tb pc = some (nx, 16, a, b, l)) (hq : q < mN h) (hk : mK h q = c) (hc : (Nat.blt c 13 && mIsa c b.toNat && Nat.blt a.toNat (mFt c).length) = true) (hv : (mTag ((mFt c).getD a.toNat 0), mC h q a.toNat) = v) (k : Ex d sc tb rk nx lv (v :: st) h Q) : Ex d sc tb rk pc lv ((1, (q : Int)) :: st) h Q := by
  simp only [Bool.and_eq_true] at hc
  refine k.step hat rfl ?_
  simp only [mStep, mAd_of hq, hk]
  rw [if_pos ⟨Nat.le_of_ble_eq_true hc.1.1, hc.1.2, Nat.le_of_ble_eq_true hc.2⟩, hv]
theorem E_putf {q c : Nat} {t : Nat} {x : Int} (hat : mAt tb pc = some (nx, 17, a, b, l)) (hq : q < mN h) (hk : mK h q = c) (hc : (Nat.blt c 13 && mIsa c b.toNat && Nat.blt a.toNat (mFt c).length && t == mTag ((mFt c).getD a.toNat 0) && Nat.blt ((mFt c).getD a.toNat 0) 3) = true) (k : Ex d sc tb rk nx lv st (mPut h q a.toNat x) Q) : Ex d sc tb rk pc lv ((t, x) :: (1, (q : Int)) :: st) h Q := by
  simp only [Bool.and_eq_true, beq_iff_eq] at hc
  obtain ⟨⟨⟨⟨h1, h2⟩, h3⟩, h4⟩, h5⟩ := hc
  refine k.step hat rfl ?_
  simp only [mStep, mAd_of hq, hk]
  rw [if_pos ⟨Nat.le_of_ble_eq_true h1, h2, Nat.le_of_ble_eq_true h3, h4, fun e => by
    have := Nat.le_of_ble_eq_true h5
    omega⟩]
theorem E_putz {q c : Nat} {x : Int} (hat : mAt tb pc = some (nx, 17, a, b, l)) (hq : q < mN h) (hk : mK h q = c) (hc : (Nat.blt c 13 && mIsa c b.toNat && Nat.blt a.toNat (mFt c).length && 0 == mTag ((mFt c).getD a.toNat 0)) = true) (hx : x = 0 ∨ x = 1) (k : Ex d sc tb rk nx lv st (mPut h q a.toNat x) Q) : Ex d sc tb rk pc lv ((0, x) :: (1, (q : Int)) :: st) h Q := by
  simp only [Bool.and_eq_true, beq_iff_eq] at hc
  obtain ⟨⟨⟨h1, h2⟩, h3⟩, h4⟩ := hc
  refine k.step hat rfl ?_
  simp only [mStep, mAd_of hq, hk]
  rw [if_pos ⟨Nat.le_of_ble_eq_true h1, h2, Nat.le_of_ble_eq_true h3, h4, fun _ => hx⟩]
theorem E_ial {q : Nat} {i : Int} {v : Int} (hat : mAt tb pc = some (nx, 18, a, b, l)) (hq : q < mN h) (hk : mK h q = 20) (h0 : 0 ≤ i) (hn : i < (mL h q : Int)) (hi : i < 2147483648) (hv : mC h q i.toNat = v) (k : Ex d sc tb rk nx lv ((0, v) :: st) h Q) : Ex d sc tb rk pc lv ((0, i) :: (1, (q : Int)) :: st) h Q := by
  refine k.step hat rfl ?_
  simp only [mStep, mAd_of hq, hk]
  rw [if_neg (by omega), if_pos ⟨trivial, h0, by omega, hi⟩, hv]
theorem E_ialn {q n : Nat} {i : Int} {v : Int} (hat : mAt tb pc = some (nx, 18, a, b, l)) (hq : q < mN h) (hk : mK h q = 20) (hl : mL h q = n) (hi : 0 ≤ i ∧ i < (n : Int) ∧ i < 2147483648) (hv : mC h q i.toNat = v) (k : Ex d sc tb rk nx lv ((0, v) :: st) h Q) : Ex d sc tb rk pc lv ((0, i) :: (1, (q : Int)) :: st) h Q := E_ial hat hq hk hi.1 (by rw [hl]; exact hi.2.1) hi.2.2 hv k
theorem E_ialj {q n j : Nat} {i : Int} (hat : mAt tb pc = some (nx, 18, a, b, l)) (hq : q < mN h) (hk : mK h q = 20) (hl : mL h q = n) (hi : 0 ≤ i ∧ i < (n : Int) ∧ i < 2147483648) (hij : i.toNat = j) (k : Ex d sc tb rk nx lv ((0, mC h q j) :: st) h Q) : Ex d sc tb rk pc lv ((0, i) :: (1, (q : Int)) :: st) h Q := E_ialn hat hq hk hl hi (by rw [hij]) k
theorem E_iasj {q n j : Nat} {i x : Int} (hat : mAt tb pc = some (nx, 19, a, b, l)) (hq : q < mN h) (hk : mK h q = 20) (hl : mL h q = n) (hi : 0 ≤ i ∧ i < (n : Int) ∧ i < 2147483648) (hij : i.toNat = j) (k : Ex d sc tb rk nx lv st (mPut h q j x) Q) : Ex d sc tb rk pc lv ((0, x) :: (0, i) :: (1, (q : Int)) :: st) h Q := by
  subst hij
  refine k.step hat rfl ?_
  simp only [mStep, mAd_of hq, hk]
  rw [if_pos ⟨trivial, hi.1, by omega, hi.2.2⟩]
theorem E_iasn {q n : Nat} {i x : Int} (hat : mAt tb pc = some (nx, 19, a, b, l)) (hq : q < mN h) (hk : mK h q = 20) (hl : mL h q = n) (hi : 0 ≤ i ∧ i < (n : Int) ∧ i < 2147483648) (k : Ex d sc tb rk nx lv st (mPut h q i.toNat x) Q) : Ex d sc tb rk pc lv ((0, x) :: (0, i) :: (1, (q : Int)) :: st) h Q := by
  refine k.step hat rfl ?_
  simp only [mStep, mAd_of hq, hk]
  rw [if_pos ⟨trivial, hi.1, by omega, hi.2.2⟩]
theorem E_getr {q c r : Nat} (hat : mAt tb pc = some (nx, 16, a, b, l)) (hq : q < mN h) (hk : mK h q = c) (hc : (Nat.blt c 13 && mIsa c b.toNat && Nat.blt a.toNat (mFt c).length && (mFt c).getD a.toNat 0 == 1) = true) (hv : mC h q a.toNat = (r : Int)) (k : Ex d sc tb rk nx lv ((1, (r : Int)) :: st) h Q) : Ex d sc tb rk pc lv ((1, (q : Int)) :: st) h Q := by
  simp only [Bool.and_eq_true, beq_iff_eq] at hc
  refine k.step hat rfl ?_
  simp only [mStep, mAd_of hq, hk]
  rw [if_pos ⟨Nat.le_of_ble_eq_true hc.1.1.1, hc.1.1.2, Nat.le_of_ble_eq_true hc.1.2⟩, hc.2, hv]
  rfl
theorem E_sal {L : Nat} {xs : Nat → Int} {i : Int} (hat : mAt tb pc = some (nx, 18, a, b, l)) (h0 : 0 ≤ i) (hn : i < (L : Int)) (hi : i < 2147483648) (k : Ex d (some (L, xs)) tb rk nx lv ((0, xs i.toNat) :: st) h Q) : Ex d (some (L, xs)) tb rk pc lv ((0, i) :: (1, -5) :: st) h Q := by
  refine k.step hat rfl ?_
  simp only [mStep]
  rw [if_pos trivial, if_pos ⟨h0, by omega, hi⟩]
theorem E_ias {q : Nat} {i x : Int} (hat : mAt tb pc = some (nx, 19, a, b, l)) (hq : q < mN h) (hk : mK h q = 20) (h0 : 0 ≤ i) (hn : i < (mL h q : Int)) (hi : i < 2147483648) (k : Ex d sc tb rk nx lv st (mPut h q i.toNat x) Q) : Ex d sc tb rk pc lv ((0, x) :: (0, i) :: (1, (q : Int)) :: st) h Q := by
  refine k.step hat rfl ?_
  simp only [mStep, mAd_of hq, hk]
  rw [if_pos ⟨trivial, h0, by omega, hi⟩]
theorem E_zal {q : Nat} {i : Int} {v : Int} (hat : mAt tb pc = some (nx, 20, a, b, l)) (hq : q < mN h) (hk : mK h q = 21) (h0 : 0 ≤ i) (hn : i < (mL h q : Int)) (hi : i < 2147483648) (hv : mC h q i.toNat = v) (k : Ex d sc tb rk nx lv ((0, v) :: st) h Q) : Ex d sc tb rk pc lv ((0, i) :: (1, (q : Int)) :: st) h Q := by
  refine k.step hat rfl ?_
  simp only [mStep, mAd_of hq, hk]
  rw [if_pos ⟨trivial, h0, by omega, hi⟩, hv]
theorem E_zas {q : Nat} {i x : Int} (hat : mAt tb pc = some (nx, 21, a, b, l)) (hq : q < mN h) (hk : mK h q = 21) (h0 : 0 ≤ i) (hn : i < (mL h q : Int)) (hi : i < 2147483648) (hx : x = 0 ∨ x = 1) (k : Ex d sc tb rk nx lv st (mPut h q i.toNat x) Q) : Ex d sc tb rk pc lv ((0, x) :: (0, i) :: (1, (q : Int)) :: st) h Q := by
  refine k.step hat rfl ?_
  simp only [mStep, mAd_of hq, hk]
  rw [if_pos ⟨trivial, h0, by omega, hi, hx⟩]
theorem E_zaln {q n : Nat} {i : Int} {v : Int} (hat : mAt tb pc = some (nx, 20, a, b, l)) (hq : q < mN h) (hk : mK h q = 21) (hl : mL h q = n) (hi : 0 ≤ i ∧ i < (n : Int) ∧ i < 2147483648) (hv : mC h q i.toNat = v) (k : Ex d sc tb rk nx lv ((0, v) :: st) h Q) : Ex d sc tb rk pc lv ((0, i) :: (1, (q : Int)) :: st) h Q := E_zal hat hq hk hi.1 (by rw [hl]; exact hi.2.1) hi.2.2 hv k
theorem E_zasn {q n j : Nat} {i x : Int} (hat : mAt tb pc = some (nx, 21, a, b, l)) (hq : q < mN h) (hk : mK h q = 21) (hl : mL h q = n) (hi : 0 ≤ i ∧ i < (n : Int) ∧ i < 2147483648) (hx : x = 0 ∨ x = 1) (hij : i.toNat = j) (k : Ex d sc tb rk nx lv st (mPut h q j x) Q) : Ex d sc tb rk pc lv ((0, x) :: (0, i) :: (1, (q : Int)) :: st) h Q := by
  subst hij
  exact E_zas hat hq hk hi.1 (by rw [hl]; exact hi.2.1) hi.2.2 hx k
theorem E_aal {q : Nat} {i : Int} {v : Int} (hat : mAt tb pc = some (nx, 22, a, b, l)) (hq : q < mN h) (hk : mK h q = 22) (h0 : 0 ≤ i) (hn : i < (mL h q : Int)) (hi : i < 2147483648) (hv : mC h q i.toNat = v) (k : Ex d sc tb rk nx lv ((1, v) :: st) h Q) : Ex d sc tb rk pc lv ((0, i) :: (1, (q : Int)) :: st) h Q := by
  refine k.step hat rfl ?_
  simp only [mStep, mAd_of hq, hk]
  rw [if_pos ⟨trivial, h0, by omega, hi⟩, hv]
theorem E_aas {q : Nat} {i x : Int} (hat : mAt tb pc = some (nx, 23, a, b, l)) (hq : q < mN h) (hk : mK h q = 22) (h0 : 0 ≤ i) (hn : i < (mL h q : Int)) (hi : i < 2147483648) (hx : x = -1 ∨ (0 ≤ x ∧ x.toNat < mN h ∧ mK h x.toNat < 13 ∧ mIsa (mK h x.toNat) 1)) (k : Ex d sc tb rk nx lv st (mPut h q i.toNat x) Q) : Ex d sc tb rk pc lv ((1, x) :: (0, i) :: (1, (q : Int)) :: st) h Q := by
  refine k.step hat rfl ?_
  simp only [mStep, mAd_of hq, hk]
  rw [if_pos ⟨trivial, h0, by omega, hi, hx⟩]
theorem E_len {q n : Nat} (hat : mAt tb pc = some (nx, 24, a, b, l)) (hq : q < mN h) (hk : 20 ≤ mK h q ∧ mK h q < 23) (hn : mL h q = n) (k : Ex d sc tb rk nx lv ((0, (n : Int)) :: st) h Q) : Ex d sc tb rk pc lv ((1, (q : Int)) :: st) h Q := by
  refine k.step hat rfl ?_
  simp only [mStep, mAd_of hq]
  rw [if_neg (by omega), if_neg (by omega), if_pos hk, hn]
theorem E_len2 (hat : mAt tb pc = some (nx, 24, a, b, l)) (k : Ex d sc tb rk nx lv ((0, 0) :: st) h Q) : Ex d sc tb rk pc lv ((1, -2) :: st) h Q := k.step hat rfl rfl
theorem E_lenS {L : Nat} {xs : Nat → Int} (hat : mAt tb pc = some (nx, 24, a, b, l)) (k : Ex d (some (L, xs)) tb rk nx lv ((0, (L : Int)) :: st) h Q) : Ex d (some (L, xs)) tb rk pc lv ((1, -5) :: st) h Q := k.step hat rfl rfl
theorem E_new (hat : mAt tb pc = some (nx, 25, a, b, l)) (ha : Nat.blt a.toNat 13 = true) (k : Ex d sc tb rk nx lv ((1, (mN h : Int)) :: st) (mNew h a.toNat (mFt a.toNat).length (mDef a.toNat)) Q) : Ex d sc tb rk pc lv st h Q := k.step hat rfl (by
  have : a.toNat < 13 := Nat.le_of_ble_eq_true ha
  simp [mStep, this])
theorem E_newa {n : Int} (hat : mAt tb pc = some (nx, 26, a, b, l)) (ha : a = 20 ∨ a = 21) (h0 : 0 ≤ n ∧ n < 100000) (k : Ex d sc tb rk nx lv ((1, (mN h : Int)) :: st) (mNew h a.toNat n.toNat (fun _ => 0)) Q) : Ex d sc tb rk pc lv ((0, n) :: st) h Q := k.step hat rfl (by simp only [mStep]; rw [if_pos ⟨h0.1, h0.2, ha⟩])
theorem E_newq {n : Int} (hat : mAt tb pc = some (nx, 27, a, b, l)) (h0 : 0 ≤ n ∧ n < 100000) (k : Ex d sc tb rk nx lv ((1, (mN h : Int)) :: st) (mNew h 22 n.toNat (fun _ => -1)) Q) : Ex d sc tb rk pc lv ((0, n) :: st) h Q := k.step hat rfl (by simp only [mStep]; rw [if_pos h0])
theorem E_i2l {x : Int} (hat : mAt tb pc = some (nx, 28, a, b, l)) (hx : inR x) (k : Ex d sc tb rk nx lv ((2, x) :: st) h Q) : Ex d sc tb rk pc lv ((0, x) :: st) h Q := k.step hat rfl (by simp only [mStep]; rw [if_pos hx])
theorem E_ladd {x y : Int} (hat : mAt tb pc = some (nx, 29, a, b, l)) (k : Ex d sc tb rk nx lv ((2, x + y) :: st) h Q) : Ex d sc tb rk pc lv ((2, y) :: (2, x) :: st) h Q := k.step hat rfl rfl
theorem E_lneg {x : Int} (hat : mAt tb pc = some (nx, 30, a, b, l)) (k : Ex d sc tb rk nx lv ((2, -x) :: st) h Q) : Ex d sc tb rk pc lv ((2, x) :: st) h Q := k.step hat rfl rfl
theorem E_lcon (hat : mAt tb pc = some (nx, 34, a, b, l)) (k : Ex d sc tb rk nx lv ((2, a) :: st) h Q) : Ex d sc tb rk pc lv st h Q := k.step hat rfl rfl
theorem E_lcmp {x y : Int} (hat : mAt tb pc = some (nx, 33, a, b, l)) (hx : inR64 x ∧ inR64 y) (k : Ex d sc tb rk nx lv ((0, if y < x then 1 else if x = y then 0 else -1) :: st) h Q) : Ex d sc tb rk pc lv ((2, y) :: (2, x) :: st) h Q := k.step hat rfl (by simp only [mStep]; rw [if_pos hx])
theorem E_lcmpe {x y : Int} (hat : mAt tb pc = some (nx, 33, a, b, l)) (hx : x = y) (k : Ex d sc tb rk nx lv ((0, 0) :: st) h Q) : Ex d sc tb rk pc lv ((2, y) :: (2, x) :: st) h Q := k.step hat rfl (by
  subst hx
  simp only [mStep]
  by_cases hc : inR64 x ∧ inR64 x
  · rw [if_pos hc]; simp
  · rw [if_neg hc]; simp)
theorem E_str (hat : mAt tb pc = some (nx, 35, a, b, l)) (k : Ex d sc tb rk nx lv ((1, -10 - a) :: st) h Q) : Ex d sc tb rk pc lv st h Q := k.step hat rfl rfl
theorem E_gst (hat : mAt tb pc = some (nx, 36, a, b, l)) (k : Ex d sc tb rk nx lv ((1, -2) :: st) h Q) : Ex d sc tb rk pc lv st h Q := k.step hat rfl rfl
theorem E_cast {q c : Nat} (hat : mAt tb pc = some (nx, 37, a, b, l)) (hq : q < mN h) (hk : mK h q = c) (hc : (Nat.blt c 13 && mIsa c a.toNat) = true) (k : Ex d sc tb rk nx lv ((1, (q : Int)) :: st) h Q) : Ex d sc tb rk pc lv ((1, (q : Int)) :: st) h Q := by
  simp only [Bool.and_eq_true] at hc
  refine k.step hat rfl ?_
  simp only [mStep, mAd_of hq, hk]
  rw [if_pos ⟨Nat.le_of_ble_eq_true hc.1, hc.2⟩]
theorem E_sw {x : Int} {t : Nat} (hat : mAt tb pc = some (nx, 40, a, b, l)) (hx : inR x) (ht : ((l.lookup x).getD a).toNat = t) (k : Ex d sc tb rk t lv st h Q) : Ex d sc tb rk pc lv ((0, x) :: st) h Q := by
  refine k.step hat rfl ?_
  simp only [mStep]
  rw [if_pos hx, ht]
/-- returns -/
theorem E_iret {x : Int} (hat : mAt tb pc = some (nx, 60, a, b, l)) (hr : rk = 3 → x = 0 ∨ x = 1) (k : Q (some (0, x)) h) : Ex d sc tb rk pc lv [(0, x)] h Q := Ex.ret hat rfl (by simp only [mRet]; rw [if_pos hr]) k
theorem E_aret {x : Int} (hat : mAt tb pc = some (nx, 61, a, b, l)) (k : Q (some (1, x)) h) : Ex d sc tb rk pc lv [(1, x)] h Q := Ex.ret hat rfl rfl k
theorem E_lret {x : Int} (hat : mAt tb pc = some (nx, 62, a, b, l)) (k : Q (some (2, x)) h) : Ex d sc tb rk pc lv [(2, x)] h Q := Ex.ret hat rfl rfl k
theorem E_vret (hat : mAt tb pc = some (nx, 63, a, b, l)) (k : Q none h) : Ex d sc tb rk pc lv [] h Q := Ex.ret hat rfl rfl k
/-- calls: static; on a receiver; the texts' and Math's; Object's constructor -/
theorem E_cS {y : Nat} {as rest : List AV} {Qc : Option AV → Hp → Prop} (hat : mAt tb pc = some (nx, 50, a, b, l)) (hst : st = as.reverse ++ rest) (hy : a.toNat = y) (hn : as.length = (mt y).2.2.1) (hc : Nat.ble (mCats rest) 8 = true) (hm : Nat.ble (mArgs as).length (mt y).2.1 = true) (k : Ok d y as h Qc) (kk : ∀ r h', Qc r h' → Ex (d + 1) sc tb rk nx lv (r.toList ++ rest) h' Q) : Ex (d + 1) sc tb rk pc lv st h Q := by
  subst hy
  have h1 : st.take (mt a.toNat).2.2.1 = as.reverse := by rw [hst, ← hn, ← List.length_reverse, List.take_left']; rfl
  have h2 : st.drop (mt a.toNat).2.2.1 = rest := by rw [hst, ← hn, ← List.length_reverse, List.drop_left']; rfl
  refine Ex.call (y := a.toNat) (n := (mt a.toNat).2.2.1) (Qc := Qc) hat rfl rfl ?_ (by rw [h1, List.reverse_reverse]; exact k) (by rw [h2]; exact kk)
  show (if (mt a.toNat).2.2.1 ≤ st.length ∧ mCats (st.drop (mt a.toNat).2.2.1) ≤ 8 ∧ (mArgs (st.take (mt a.toNat).2.2.1).reverse).length ≤ (mt a.toNat).2.1 then some (a.toNat, (mt a.toNat).2.2.1) else none) = _
  rw [if_pos ⟨by rw [hst, List.length_append, List.length_reverse]; omega, by rw [h2]; exact Nat.le_of_ble_eq_true hc, by rw [h1, List.reverse_reverse]; exact Nat.le_of_ble_eq_true hm⟩]
theorem E_cV {y q c : Nat} {as rest : List AV} {Qc : Option AV → Hp → Prop} (hat : mAt tb pc = some (nx, 51, a, b, l)) (hst : st = as.reverse ++ (1, (q : Int)) :: rest) (hb : as.length = b.toNat) (hq : q < mN h) (hk : mK h q = c) (hy : (vt a.toNat).lookup c = some y) (hn : Nat.beq (mt y).2.2.1 (b.toNat + 1) = true) (hc : Nat.ble (mCats rest) 8 = true) (hm : Nat.ble (mArgs ((1, (q : Int)) :: as)).length (mt y).2.1 = true) (k : Ok d y ((1, (q : Int)) :: as) h Qc) (kk : ∀ r h', Qc r h' → Ex (d + 1) sc tb rk nx lv (r.toList ++ rest) h' Q) : Ex (d + 1) sc tb rk pc lv st h Q := by
  have hst2 : st = (as.reverse ++ [(1, (q : Int))]) ++ rest := by rw [hst]; simp
  have hl : (as.reverse ++ [((1 : Nat), (q : Int))]).length = b.toNat + 1 := by rw [List.length_append, List.length_reverse, hb]; rfl
  have h1 : st.take (b.toNat + 1) = as.reverse ++ [(1, (q : Int))] := by rw [hst2, List.take_left' hl]
  have h2 : st.drop (b.toNat + 1) = rest := by rw [hst2, List.drop_left' hl]
  have h3 : st[b.toNat]? = some (1, (q : Int)) := by
    rw [hst, List.getElem?_append_right (by rw [List.length_reverse]; omega), List.length_reverse, hb, Nat.sub_self]
    rfl
  have h4 : (st.take (b.toNat + 1)).reverse = (1, (q : Int)) :: as := by rw [h1]; simp
  refine Ex.call (y := y) (n := b.toNat + 1) (Qc := Qc) hat rfl rfl ?_ (by rw [h4]; exact k) (by rw [h2]; exact kk)
  show (match st[b.toNat]? with
    | some (1, x) => match mAd h x with
      | some q => match (vt a.toNat).lookup (mK h q) with
        | some y => if (mt y).2.2.1 = b.toNat + 1 ∧ mCats (st.drop (b.toNat + 1)) ≤ 8 ∧ (mArgs (st.take (b.toNat + 1)).reverse).length ≤ (mt y).2.1 then some (y, b.toNat + 1) else none
        | none => none
      | none => none
    | _ => none) = _
  rw [h3]
  simp only [mAd_of hq, hk, hy]
  rw [if_pos ⟨Nat.eq_of_beq_eq_true hn, by rw [h2]; exact Nat.le_of_ble_eq_true hc, by rw [h4]; exact Nat.le_of_ble_eq_true hm⟩]
theorem E_pri {as rest : List AV} {v : AV} (hat : mAt tb pc = some (nx, 52, a, b, l)) (hst : st = as.reverse ++ rest) (hb : as.length = b.toNat) (hc : Nat.ble (mCats rest) 8 = true) (hv : mPrim txt a.toNat as = some v) (k : Ex (d + 1) sc tb rk nx lv (v :: rest) h Q) : Ex (d + 1) sc tb rk pc lv st h Q := by
  have h1 : st.take b.toNat = as.reverse := by rw [hst, ← hb, ← List.length_reverse, List.take_left']; rfl
  have h2 : st.drop b.toNat = rest := by rw [hst, ← hb, ← List.length_reverse, List.drop_left']; rfl
  refine Ex.pri (st' := v :: rest) hat rfl rfl rfl ?_ k
  show (if b.toNat ≤ st.length ∧ mCats (st.drop b.toNat) ≤ 8 then (match mPrim txt a.toNat (st.take b.toNat).reverse with
    | some v => some (v :: st.drop b.toNat)
    | none => none) else none) = _
  rw [if_pos ⟨by rw [hst, List.length_append, List.length_reverse]; omega, by rw [h2]; exact Nat.le_of_ble_eq_true hc⟩, h1, List.reverse_reverse, hv, h2]
theorem E_obj {q : Nat} (hat : mAt tb pc = some (nx, 53, a, b, l)) (hq : q < mN h) (hc : Nat.ble (mCats st) 8 = true) (k : Ex (d + 1) sc tb rk nx lv st h Q) : Ex (d + 1) sc tb rk pc lv ((1, (q : Int)) :: st) h Q := by
  refine Ex.pri (st' := st) hat rfl rfl rfl ?_ k
  simp only [mPri, mAd_of hq]
  rw [if_pos (Nat.le_of_ble_eq_true hc)]
/-! calls by the number of their arguments -/
theorem E_S0 {y : Nat} {rest : List AV} {Qc : Option AV → Hp → Prop} (hat : mAt tb pc = some (nx, 50, a, b, l)) (hy : a.toNat = y) (hn : (mt y).2.2.1 = 0) (hc : Nat.ble (mCats rest) 8 = true) (hm : Nat.ble (mArgs []).length (mt y).2.1 = true) (k : Ok d y [] h Qc) (kk : ∀ r h', Qc r h' → Ex (d + 1) sc tb rk nx lv (r.toList ++ rest) h' Q) : Ex (d + 1) sc tb rk pc lv (rest) h Q := E_cS (as := []) (rest := rest) hat rfl hy (by rw [hn]; rfl) hc hm k kk
theorem E_V0 {y q c : Nat} {rest : List AV} {Qc : Option AV → Hp → Prop} (hat : mAt tb pc = some (nx, 51, a, b, l)) (hb : b.toNat = 0) (hq : q < mN h) (hk : mK h q = c) (hy : (vt a.toNat).lookup c = some y) (hn : (mt y).2.2.1 = 1) (hc : Nat.ble (mCats rest) 8 = true) (hm : Nat.ble (mArgs ((1, (q : Int)) :: [])).length (mt y).2.1 = true) (k : Ok d y ((1, (q : Int)) :: []) h Qc) (kk : ∀ r h', Qc r h' → Ex (d + 1) sc tb rk nx lv (r.toList ++ rest) h' Q) : Ex (d + 1) sc tb rk pc lv ((1, (q : Int)) :: rest) h Q := E_cV (as := []) (rest := rest) hat rfl (by rw [hb]; rfl) hq hk hy (by rw [hn, hb]; rfl) hc hm k kk
theorem E_S1 {y : Nat} {x1 : AV} {rest : List AV} {Qc : Option AV → Hp → Prop} (hat : mAt tb pc = some (nx, 50, a, b, l)) (hy : a.toNat = y) (hn : (mt y).2.2.1 = 1) (hc : Nat.ble (mCats rest) 8 = true) (hm : Nat.ble (mArgs [x1]).length (mt y).2.1 = true) (k : Ok d y [x1] h Qc) (kk : ∀ r h', Qc r h' → Ex (d + 1) sc tb rk nx lv (r.toList ++ rest) h' Q) : Ex (d + 1) sc tb rk pc lv (x1 :: rest) h Q := E_cS (as := [x1]) (rest := rest) hat rfl hy (by rw [hn]; rfl) hc hm k kk
theorem E_V1 {y q c : Nat} {x1 : AV} {rest : List AV} {Qc : Option AV → Hp → Prop} (hat : mAt tb pc = some (nx, 51, a, b, l)) (hb : b.toNat = 1) (hq : q < mN h) (hk : mK h q = c) (hy : (vt a.toNat).lookup c = some y) (hn : (mt y).2.2.1 = 2) (hc : Nat.ble (mCats rest) 8 = true) (hm : Nat.ble (mArgs ((1, (q : Int)) :: [x1])).length (mt y).2.1 = true) (k : Ok d y ((1, (q : Int)) :: [x1]) h Qc) (kk : ∀ r h', Qc r h' → Ex (d + 1) sc tb rk nx lv (r.toList ++ rest) h' Q) : Ex (d + 1) sc tb rk pc lv (x1 :: (1, (q : Int)) :: rest) h Q := E_cV (as := [x1]) (rest := rest) hat rfl (by rw [hb]; rfl) hq hk hy (by rw [hn, hb]; rfl) hc hm k kk
theorem E_S2 {y : Nat} {x1 x2 : AV} {rest : List AV} {Qc : Option AV → Hp → Prop} (hat : mAt tb pc = some (nx, 50, a, b, l)) (hy : a.toNat = y) (hn : (mt y).2.2.1 = 2) (hc : Nat.ble (mCats rest) 8 = true) (hm : Nat.ble (mArgs [x1, x2]).length (mt y).2.1 = true) (k : Ok d y [x1, x2] h Qc) (kk : ∀ r h', Qc r h' → Ex (d + 1) sc tb rk nx lv (r.toList ++ rest) h' Q) : Ex (d + 1) sc tb rk pc lv (x2 :: x1 :: rest) h Q := E_cS (as := [x1, x2]) (rest := rest) hat rfl hy (by rw [hn]; rfl) hc hm k kk
theorem E_V2 {y q c : Nat} {x1 x2 : AV} {rest : List AV} {Qc : Option AV → Hp → Prop} (hat : mAt tb pc = some (nx, 51, a, b, l)) (hb : b.toNat = 2) (hq : q < mN h) (hk : mK h q = c) (hy : (vt a.toNat).lookup c = some y) (hn : (mt y).2.2.1 = 3) (hc : Nat.ble (mCats rest) 8 = true) (hm : Nat.ble (mArgs ((1, (q : Int)) :: [x1, x2])).length (mt y).2.1 = true) (k : Ok d y ((1, (q : Int)) :: [x1, x2]) h Qc) (kk : ∀ r h', Qc r h' → Ex (d + 1) sc tb rk nx lv (r.toList ++ rest) h' Q) : Ex (d + 1) sc tb rk pc lv (x2 :: x1 :: (1, (q : Int)) :: rest) h Q := E_cV (as := [x1, x2]) (rest := rest) hat rfl (by rw [hb]; rfl) hq hk hy (by rw [hn, hb]; rfl) hc hm k kk
theorem E_S3 {y : Nat} {x1 x2 x3 : AV} {rest : List AV} {Qc : Option AV → Hp → Prop} (hat : mAt tb pc = some (nx, 50, a, b, l)) (hy : a.toNat = y) (hn : (mt y).2.2.1 = 3) (hc : Nat.ble (mCats rest) 8 = true) (hm : Nat.ble (mArgs [x1, x2, x3]).length (mt y).2.1 = true) (k : Ok d y [x1, x2, x3] h Qc) (kk : ∀ r h', Qc r h' → Ex (d + 1) sc tb rk nx lv (r.toList ++ rest) h' Q) : Ex (d + 1) sc tb rk pc lv (x3 :: x2 :: x1 :: rest) h Q := E_cS (as := [x1, x2, x3]) (rest := rest) hat rfl hy (by rw [hn]; rfl) hc hm k kk
theorem E_V3 {y q c : Nat} {x1 x2 x3 : AV} {rest : List AV} {Qc : Option AV → Hp → Prop} (hat : mAt tb pc = some (nx, 51, a, b, l)) (hb : b.toNat = 3) (hq : q < mN h) (hk : mK h q = c) (hy : (vt a.toNat).lookup c = some y) (hn : (mt y).2.2.1 = 4) (hc : Nat.ble (mCats rest) 8 = true) (hm : Nat.ble (mArgs ((1, (q : Int)) :: [x1, x2, x3])).length (mt y).2.1 = true) (k : Ok d y ((1, (q : Int)) :: [x1, x2, x3]) h Qc) (kk : ∀ r h', Qc r h' → Ex (d + 1) sc tb rk nx lv (r.toList ++ rest) h' Q) : Ex (d + 1) sc tb rk pc lv (x3 :: x2 :: x1 :: (1, (q : Int)) :: rest) h Q := E_cV (as := [x1, x2, x3]) (rest := rest) hat rfl (by rw [hb]; rfl) hq hk hy (by rw [hn, hb]; rfl) hc hm k kk
theorem E_S4 {y : Nat} {x1 x2 x3 x4 : AV} {rest : List AV} {Qc : Option AV → Hp → Prop} (hat : mAt tb pc = some (nx, 50, a, b, l)) (hy : a.toNat = y) (hn : (mt y).2.2.1 = 4) (hc : Nat.ble (mCats rest) 8 = true) (hm : Nat.ble (mArgs [x1, x2, x3, x4]).length (mt y).2.1 = true) (k : Ok d y [x1, x2, x3, x4] h Qc) (kk : ∀ r h', Qc r h' → Ex (d + 1) sc tb rk nx lv (r.toList ++ rest) h' Q) : Ex (d + 1) sc tb rk pc lv (x4 :: x3 :: x2 :: x1 :: rest) h Q := E_cS (as := [x1, x2, x3, x4]) (rest := rest) hat rfl hy (by rw [hn]; rfl) hc hm k kk
theorem E_V4 {y q c : Nat} {x1 x2 x3 x4 : AV} {rest : List AV} {Qc : Option AV → Hp → Prop} (hat : mAt tb pc = some (nx, 51, a, b, l)) (hb : b.toNat = 4) (hq : q < mN h) (hk : mK h q = c) (hy : (vt a.toNat).lookup c = some y) (hn : (mt y).2.2.1 = 5) (hc : Nat.ble (mCats rest) 8 = true) (hm : Nat.ble (mArgs ((1, (q : Int)) :: [x1, x2, x3, x4])).length (mt y).2.1 = true) (k : Ok d y ((1, (q : Int)) :: [x1, x2, x3, x4]) h Qc) (kk : ∀ r h', Qc r h' → Ex (d + 1) sc tb rk nx lv (r.toList ++ rest) h' Q) : Ex (d + 1) sc tb rk pc lv (x4 :: x3 :: x2 :: x1 :: (1, (q : Int)) :: rest) h Q := E_cV (as := [x1, x2, x3, x4]) (rest := rest) hat rfl (by rw [hb]; rfl) hq hk hy (by rw [hn, hb]; rfl) hc hm k kk
end ESTEPS
