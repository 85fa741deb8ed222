/-! BITS OF NUMBERS BELOW 2^31, as of Nat -/
theorem tbN (n : Nat) : (Int32.ofInt (n : Int)).toBitVec = BitVec.ofNat 32 n := by
  rw [Int32.toBitVec_ofInt, BitVec.ofInt_natCast]
theorem finB {z : Int32} {n : Nat} (h : z.toBitVec = BitVec.ofNat 32 n) (hn : n < 2147483648) : z.toInt = (n : Int) := by
  have e : (BitVec.ofNat 32 n).toNat = n := by rw [BitVec.toNat_ofNat]; exact Nat.mod_eq_of_lt (by omega)
  rw [← Int32.toInt_toBitVec, h, BitVec.toInt_eq_toNat_of_lt (by rw [e]; omega), e]
theorem B_and {a b : Nat} (ha : a < 2147483648) : mBit 5 (a : Int) (b : Int) = ((a &&& b : Nat) : Int) := by
  show (Int32.ofInt (a : Int) &&& Int32.ofInt (b : Int)).toInt = _
  refine finB ?_ (Nat.lt_of_le_of_lt Nat.and_le_left ha)
  rw [Int32.toBitVec_and, tbN, tbN, BitVec.ofNat_and]
theorem B_or {a b : Nat} (ha : a < 2147483648) (hb : b < 2147483648) : mBit 6 (a : Int) (b : Int) = ((a ||| b : Nat) : Int) := by
  show (Int32.ofInt (a : Int) ||| Int32.ofInt (b : Int)).toInt = _
  refine finB ?_ (Nat.or_lt_two_pow (n := 31) ha hb)
  rw [Int32.toBitVec_or, tbN, tbN, BitVec.ofNat_or]
theorem B_xor {a b : Nat} (ha : a < 2147483648) (hb : b < 2147483648) : mBit 7 (a : Int) (b : Int) = ((a ^^^ b : Nat) : Int) := by
  show (Int32.ofInt (a : Int) ^^^ Int32.ofInt (b : Int)).toInt = _
  refine finB ?_ (Nat.xor_lt_two_pow (n := 31) ha hb)
  rw [Int32.toBitVec_xor, tbN, tbN, BitVec.ofNat_xor]
theorem B_shl {a : Nat} (ha : 2 * a < 2147483648) : mBit 8 (a : Int) 1 = ((2 * a : Nat) : Int) := by
  show (Int32.ofInt (a : Int) <<< (Int32.ofInt 1 &&& 31)).toInt = _
  refine finB ?_ ha
  rw [show (Int32.ofInt 1 &&& 31 : Int32) = 1 by decide]
  show (Int32.ofInt (a : Int)).toBitVec <<< ((1 : Int32).toBitVec.smod 32#32) = _
  rw [tbN, show ((1 : Int32).toBitVec.smod 32#32) = 1#32 by decide, BitVec.shiftLeft_eq']
  apply BitVec.eq_of_toNat_eq
  rw [BitVec.toNat_shiftLeft, show (1#32).toNat = 1 by decide, BitVec.toNat_ofNat, BitVec.toNat_ofNat, Nat.shiftLeft_eq]
  rw [Nat.mod_eq_of_lt (by omega), Nat.mod_eq_of_lt (by omega), Nat.mod_eq_of_lt (by omega)]
  omega
theorem B_shr {a : Nat} (ha : a < 2147483648) : mBit 9 (a : Int) 1 = ((a / 2 : Nat) : Int) := by
  show (Int32.ofInt (a : Int) >>> (Int32.ofInt 1 &&& 31)).toInt = _
  refine finB ?_ (by omega)
  rw [show (Int32.ofInt 1 &&& 31 : Int32) = 1 by decide]
  show (Int32.ofInt (a : Int)).toBitVec.sshiftRight' ((1 : Int32).toBitVec.smod 32#32) = _
  rw [tbN, show ((1 : Int32).toBitVec.smod 32#32) = 1#32 by decide]
  apply BitVec.eq_of_toNat_eq
  have e : (BitVec.ofNat 32 a).toNat = a := by rw [BitVec.toNat_ofNat]; exact Nat.mod_eq_of_lt (by omega)
  rw [BitVec.toNat_sshiftRight'_of_msb_false (by rw [BitVec.msb_eq_decide, e]; exact decide_eq_false (by omega)), e, show (1#32).toNat = 1 by decide, BitVec.toNat_ofNat, Nat.shiftRight_eq_div_pow]
  rw [Nat.mod_eq_of_lt (by omega)]
/-- equal halves and last bits -/
theorem hbe {a b : Nat} (h1 : a / 2 = b / 2) (h2 : a % 2 = 1 ↔ b % 2 = 1) : a = b := by omega
theorem xor1 (x : Nat) : x ^^^ 1 = if x % 2 = 0 then x + 1 else x - 1 := by
  have e1 : (x ^^^ 1) / 2 = x / 2 := by rw [Nat.xor_div_two, show 1 / 2 = 0 from rfl, Nat.xor_zero]
  have e2 : (x ^^^ 1) % 2 = 1 ↔ ¬ (x % 2 = 1 ↔ 1 % 2 = 1) := Nat.xor_mod_two_eq_one
  split <;> omega
theorem or_bit {x t : Nat} (ht : t = 0 ∨ t = 1) : (x ||| t) / 2 = x / 2 ∧ ((x ||| t) % 2 = 1 ↔ x % 2 = 1 ∨ t = 1) := by
  have e1 : (x ||| t) / 2 = x / 2 := by rw [Nat.or_div_two, show t / 2 = 0 by omega, Nat.or_zero]
  have e2 : (x ||| t) % 2 = 1 ↔ x % 2 = 1 ∨ t % 2 = 1 := Nat.or_mod_two_eq_one
  refine ⟨e1, ?_⟩
  rw [e2]
  omega
theorem andC (z x : Nat) (hz : z < 2147483648) : (z &&& (x ||| 4294967294)) / 2 = z / 2 ∧ ((z &&& (x ||| 4294967294)) % 2 = 1 ↔ z % 2 = 1 ∧ x % 2 = 1) := by
  have e2 : (z &&& (x ||| 4294967294)) % 2 = 1 ↔ z % 2 = 1 ∧ (x ||| 4294967294) % 2 = 1 := Nat.and_mod_two_eq_one
  have e3 : (x ||| 4294967294) % 2 = 1 ↔ x % 2 = 1 ∨ 4294967294 % 2 = 1 := Nat.or_mod_two_eq_one
  refine ⟨?_, by omega⟩
  rw [Nat.and_div_two, Nat.or_div_two, show 4294967294 / 2 = 2147483647 from rfl]
  apply Nat.eq_of_testBit_eq
  intro i
  rw [Nat.testBit_and, Nat.testBit_or]
  by_cases hi : i < 31
  · have : Nat.testBit 2147483647 i = true := by
      have := Nat.testBit_two_pow_sub_one 31 i
      rw [show 2 ^ 31 - 1 = 2147483647 from rfl] at this
      rw [this]
      exact decide_eq_true hi
    rw [this]
    simp
  · have : Nat.testBit (z / 2) i = false := Nat.testBit_lt_two_pow (Nat.lt_of_lt_of_le (show z / 2 < 2 ^ 31 by omega) (Nat.pow_le_pow_right (by decide) (by omega)))
    rw [this]
    rfl
theorem B_and2 {z x : Nat} (hz : z < 2147483648) : mBit 5 (z : Int) (mBit 6 (x : Int) (-2)) = ((z &&& (x ||| 4294967294) : Nat) : Int) := by
  show (Int32.ofInt (z : Int) &&& Int32.ofInt ((Int32.ofInt (x : Int) ||| Int32.ofInt (-2)).toInt)).toInt = _
  rw [Int32.ofInt_toInt]
  refine finB ?_ (Nat.lt_of_le_of_lt Nat.and_le_left hz)
  rw [Int32.toBitVec_and, Int32.toBitVec_or, tbN, tbN, show (Int32.ofInt (-2)).toBitVec = BitVec.ofNat 32 4294967294 by decide, BitVec.ofNat_and, BitVec.ofNat_or]
/-! what waits to be joined, as bits -/
def wB : List Bool → Nat
  | [] => 0
  | t :: r => 2 * wB r + (if t then 1 else 0)
theorem wB_lt : ∀ l : List Bool, wB l < 2 ^ l.length
  | [] => by show 0 < 1; omega
  | t :: r => by
    have := wB_lt r
    rw [wB, List.length_cons, Nat.pow_succ]
    split <;> omega
theorem wB_30 {l : List Bool} (h : l.length ≤ 29) : wB l < 536870912 := Nat.lt_of_lt_of_le (wB_lt l) (Nat.pow_le_pow_right (n := 2) (by decide) h)
theorem w_not {t : Bool} {r : List Bool} (h : (t :: r).length ≤ 29) : mBit 7 (wB (t :: r) : Int) 1 = (wB ((!t) :: r) : Int) := by
  have h1 := wB_30 h
  rw [show (1 : Int) = ((1 : Nat) : Int) from rfl, B_xor (by omega) (by omega), xor1]
  congr 1
  cases t <;> simp only [wB, Bool.not_true, Bool.not_false] <;> split <;> simp at * <;> omega
theorem w_and {t u : Bool} {r : List Bool} (h : (t :: u :: r).length ≤ 29) : mBit 5 (mBit 9 (wB (t :: u :: r) : Int) 1) (mBit 6 (wB (t :: u :: r) : Int) (-2)) = (wB ((u && t) :: r) : Int) := by
  have h1 := wB_30 h
  rw [B_shr (by omega), B_and2 (by omega)]
  obtain ⟨e1, e2⟩ := andC (wB (t :: u :: r) / 2) (wB (t :: u :: r)) (by omega)
  congr 1
  refine hbe ?_ ?_
  · rw [e1]; cases t <;> cases u <;> simp only [wB, Bool.and_true, Bool.and_false, Bool.and_self] <;> simp <;> omega
  · rw [e2]; cases t <;> cases u <;> simp only [wB, Bool.and_true, Bool.and_false, Bool.and_self] <;> simp <;> omega
theorem w_or {t u : Bool} {r : List Bool} (h : (t :: u :: r).length ≤ 29) : mBit 6 (mBit 9 (wB (t :: u :: r) : Int) 1) (mBit 5 (wB (t :: u :: r) : Int) 1) = (wB ((u || t) :: r) : Int) := by
  have h1 := wB_30 h
  rw [B_shr (by omega), show (1 : Int) = ((1 : Nat) : Int) from rfl, B_and (by omega), Nat.and_one_is_mod, B_or (by omega) (by omega)]
  obtain ⟨e1, e2⟩ := or_bit (x := wB (t :: u :: r) / 2) (t := wB (t :: u :: r) % 2) (by omega)
  congr 1
  refine hbe ?_ ?_
  · rw [e1]; cases t <;> cases u <;> simp only [wB, Bool.or_true, Bool.or_false, Bool.or_self] <;> simp <;> omega
  · rw [e2]; cases t <;> cases u <;> simp only [wB, Bool.or_true, Bool.or_false, Bool.or_self] <;> simp <;> omega
theorem w_tst {b : Bool} {r : List Bool} (h : r.length ≤ 28) : mBit 6 (mBit 8 (wB r : Int) 1) (bB b) = (wB (b :: r) : Int) := by
  have h1 := wB_30 (l := r) (by omega)
  rw [B_shl (by omega), show bB b = ((if b then 1 else 0 : Nat) : Int) by cases b <;> rfl, B_or (by omega) (by split <;> omega)]
  obtain ⟨e1, e2⟩ := or_bit (x := 2 * wB r) (t := if b then 1 else 0) (by split <;> omega)
  congr 1
  refine hbe ?_ ?_
  · rw [e1]; cases b <;> simp only [wB] <;> simp <;> omega
  · rw [e2]; cases b <;> simp only [wB] <;> simp <;> omega
theorem w_last {r : List Bool} (h : r.length ≤ 29) : mBit 5 (wB r : Int) 1 = bB (r.headD false) := by
  have h1 := wB_30 h
  rw [show (1 : Int) = ((1 : Nat) : Int) from rfl, B_and (by omega), Nat.and_one_is_mod]
  match r with
  | [] => rfl
  | true :: r => simp only [wB, List.headD_cons, bB]; simp
  | false :: r => simp only [wB, List.headD_cons, bB]; simp
