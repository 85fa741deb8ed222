/-! THE BEST LINE, AS ONE NUMBER -/
theorem shk : ∀ k : Fin 32, (Int32.ofInt ((k.val : Nat) : Int) &&& 31).toBitVec.smod 32#32 = BitVec.ofNat 32 k.val := by decide +kernel
theorem B_shrk {a k : Nat} (ha : a < 2147483648) (hk : k < 32) : mBit 9 (a : Int) (k : Int) = ((a / 2 ^ k : Nat) : Int) := by
  have hz : (Int32.ofInt ((k : Nat) : Int) &&& 31).toBitVec.smod 32#32 = BitVec.ofNat 32 k := shk ⟨k, hk⟩
  show (Int32.ofInt (a : Int) >>> (Int32.ofInt (k : Int) &&& 31)).toInt = _
  refine finB ?_ (Nat.lt_of_le_of_lt (Nat.div_le_self _ _) ha)
  show (Int32.ofInt (a : Int)).toBitVec.sshiftRight' ((Int32.ofInt (k : Int) &&& 31).toBitVec.smod 32#32) = _
  rw [tbN, hz]
  apply BitVec.eq_of_toNat_eq
  have e : (BitVec.ofNat 32 a).toNat = a := by rw [BitVec.toNat_ofNat]; exact Nat.mod_eq_of_lt (by omega)
  have ek : (BitVec.ofNat 32 k).toNat = k := by rw [BitVec.toNat_ofNat]; exact Nat.mod_eq_of_lt (by omega)
  rw [BitVec.toNat_sshiftRight'_of_msb_false (by rw [BitVec.msb_eq_decide, e]; exact decide_eq_false (by omega)), e, ek, BitVec.toNat_ofNat, Nat.shiftRight_eq_div_pow]
  exact (Nat.mod_eq_of_lt (Nat.lt_of_le_of_lt (Nat.div_le_self _ _) (by omega))).symm
theorem B_shlk {a k : Nat} (ha : a * 2 ^ k < 2147483648) (hk : k < 32) : mBit 8 (a : Int) (k : Int) = ((a * 2 ^ k : Nat) : Int) := by
  have hz : (Int32.ofInt ((k : Nat) : Int) &&& 31).toBitVec.smod 32#32 = BitVec.ofNat 32 k := shk ⟨k, hk⟩
  have hp : 0 < 2 ^ k := Nat.two_pow_pos k
  have ha2 : a ≤ a * 2 ^ k := Nat.le_mul_of_pos_right a hp
  show (Int32.ofInt (a : Int) <<< (Int32.ofInt (k : Int) &&& 31)).toInt = _
  refine finB ?_ ha
  show (Int32.ofInt (a : Int)).toBitVec <<< ((Int32.ofInt (k : Int) &&& 31).toBitVec.smod 32#32) = _
  rw [tbN, hz, BitVec.shiftLeft_eq']
  apply BitVec.eq_of_toNat_eq
  have ek : (BitVec.ofNat 32 k).toNat = k := by rw [BitVec.toNat_ofNat]; exact Nat.mod_eq_of_lt (by omega)
  rw [BitVec.toNat_shiftLeft, ek, BitVec.toNat_ofNat, BitVec.toNat_ofNat, Nat.shiftLeft_eq, Nat.mod_eq_of_lt (show a < 2 ^ 32 by omega)]
theorem B_put {a b k : Nat} (ha : a * 2 ^ k < 2147483648) (hk : k < 31) (hb : b < 2 ^ k) : mBit 6 (mBit 8 (a : Int) (k : Int)) (b : Int) = ((a * 2 ^ k + b : Nat) : Int) := by
  have hp : 2 ^ k < 2147483648 := Nat.pow_lt_pow_right (a := 2) (m := k) (n := 31) (by omega) hk
  rw [B_shlk ha (by omega), B_or ha (by omega), Nat.mul_comm a, Nat.two_pow_add_eq_or_of_lt hb]
def ordN : Nat → Nat → (Nat → Int) → Nat
  | o, 0, _ => o
  | o, k + 1, p => ordN (o * 8 + (p 0).toNat % 8) k (fun j => p (j + 1))
theorem ordN_lt : ∀ (k m o : Nat) (p : Nat → Int), o < 8 ^ m → ordN o k p < 8 ^ (m + k)
  | 0, m, o, p, h => h
  | k + 1, m, o, p, h => by
    have := ordN_lt k (m + 1) (o * 8 + (p 0).toNat % 8) (fun j => p (j + 1)) (by rw [Nat.pow_succ]; generalize 8 ^ m = q at *; omega)
    rw [show m + (k + 1) = m + 1 + k by omega]
    exact this
theorem ordN_dig : ∀ (k o : Nat) (p : Nat → Int), (ordN o k p / 8 ^ k = o) ∧ ∀ j, j < k → ordN o k p / 8 ^ (k - 1 - j) % 8 = (p j).toNat % 8
  | 0, o, p => ⟨Nat.div_one _, fun j hj => absurd hj (Nat.not_lt_zero j)⟩
  | k + 1, o, p => by
    obtain ⟨h1, h2⟩ := ordN_dig k (o * 8 + (p 0).toNat % 8) (fun j => p (j + 1))
    refine ⟨?_, fun j hj => ?_⟩
    · show ordN (o * 8 + (p 0).toNat % 8) k (fun j => p (j + 1)) / 8 ^ (k + 1) = o
      rw [Nat.pow_succ, ← Nat.div_div_eq_div_mul, h1]
      omega
    · show ordN (o * 8 + (p 0).toNat % 8) k (fun j => p (j + 1)) / 8 ^ (k + 1 - 1 - j) % 8 = _
      cases j with
      | zero =>
        rw [show k + 1 - 1 - 0 = k by omega, h1]
        omega
      | succ j =>
        rw [show k + 1 - 1 - (j + 1) = k - 1 - j by omega]
        exact h2 j (by omega)
/-- the number of a line found: its mood, then its order -/
def cdN (o k : Nat) (r : GR) : Nat := (r.1 + 99).toNat * 262144 + ordN o k r.2
theorem cdN_mood {o k m : Nat} {r : GR} (h : o < 8 ^ m) (hm : m + k = 6) : cdN o k r / 2 ^ 18 = (r.1 + 99).toNat := by
  have h1 := ordN_lt k m o r.2 h
  rw [hm] at h1
  have h2 : ordN o k r.2 < 262144 := h1
  unfold cdN
  rw [show 2 ^ 18 = 262144 from rfl]
  omega
theorem cdN_lt {o k m : Nat} {r : GR} (h : o < 8 ^ m) (hm : m + k = 6) (hr : r.1 ≤ 99) : cdN o k r < 199 * 262144 := by
  have h1 := ordN_lt k m o r.2 h
  rw [hm] at h1
  have h2 : ordN o k r.2 < 262144 := h1
  unfold cdN
  omega
theorem cdN_cons {o k b : Nat} (hb : b < 6) (r : GR) : cdN o (k + 1) (consR b r) = cdN (o * 8 + b) k r := by
  have e : ((consR b r).2 0).toNat % 8 = b := by show ((b : Nat) : Int).toNat % 8 = b; omega
  unfold cdN
  show _ * 262144 + ordN (o * 8 + ((consR b r).2 0).toNat % 8) k (fun j => (consR b r).2 (j + 1)) = _
  rw [e]
  rfl
def dgR (r : GR) : Prop := ∀ j, 0 ≤ r.2 j ∧ r.2 j < 6
theorem boF_dg {rec : Nat → Int → GR} {s : Nat → Int} {x : Nat} {mood : Int} (hr : ∀ y m, dgR (rec y m)) : ∀ n, n ≤ 6 → dgR (boF rec s x mood n)
  | 0, _ => fun j => ⟨Int.le_refl 0, by show (0 : Int) < 6; omega⟩
  | n + 1, hn => by
    have ih := boF_dg (s := s) (x := x) (mood := mood) hr n (by omega)
    rw [boF]
    split
    · unfold upG
      split
      · intro j
        show 0 ≤ (if j = 0 then (n : Int) else _) ∧ (if j = 0 then (n : Int) else _) < 6
        split
        · omega
        · exact hr _ _ _
      · exact ih
    · exact ih
theorem boS_dg {s : Nat → Int} (h29 : s 29 ≤ 6) : ∀ n x mood, dgR (boS s n x mood)
  | 0, _, _ => fun j => ⟨Int.le_refl 0, by show (0 : Int) < 6; omega⟩
  | n + 1, x, mood => boF_dg (fun y m => boS_dg h29 n y m) _ (by omega)
