def P49 (a _k : Nat) : Bool := a == 49 || (a == 47 || a == 48)
theorem P47_P49 : ∀ a k, P49 a k = false → P47 a k = false := by
  intro a k h
  simp only [P49, P47, Bool.or_eq_false_iff] at h ⊢
  exact h.2
theorem P49_PQ : ∀ a k, PQ a k = false → P49 a k = false := by
  intro a k h
  simp only [PQ, P49, Bool.or_eq_false_iff] at h ⊢
  exact ⟨h.2.2.2.1, h.2.1, h.2.2.1⟩
theorem P49_PS : ∀ a k, PS a k = false → P49 a k = false := fun a k h => P49_PQ a k (PQ_PS a k h)
theorem PQ_PQ : ∀ a k, PQ a k = false → PQ a k = false := fun _ _ h => h
/-! bits of what is below 64 -/
def bt (x k : Nat) : Nat := x / 2 ^ k % 2
theorem mBit_bt0 : ∀ x : Fin 64, ∀ k : Fin 6, mBit 5 (mBit 9 ((x.val : Nat) : Int) ((k.val : Nat) : Int)) 1 = ((bt x.val k.val : Nat) : Int) := by decide +kernel
theorem mBit_bt {x k : Nat} (hx : x < 64) (hk : k < 6) : mBit 5 (mBit 9 (x : Int) (k : Int)) 1 = ((bt x k : Nat) : Int) := mBit_bt0 ⟨x, hx⟩ ⟨k, hk⟩
theorem mBit_sub0 : ∀ x y : Fin 64, mBit 5 ((x.val : Nat) : Int) (mBit 7 ((y.val : Nat) : Int) (-1)) = 0 ↔ x.val &&& y.val = x.val := by decide +kernel
theorem mBit_sub {x y : Nat} (hx : x < 64) (hy : y < 64) : mBit 5 (x : Int) (mBit 7 (y : Int) (-1)) = 0 ↔ x &&& y = x := mBit_sub0 ⟨x, hx⟩ ⟨y, hy⟩
theorem mBit_or0 : ∀ k : Fin 6, ∀ x : Fin 32, x.val < 2 ^ k.val → mBit 6 ((x.val : Nat) : Int) (mBit 8 1 ((k.val : Nat) : Int)) = ((x.val + 2 ^ k.val : Nat) : Int) := by decide +kernel
def fbN (p : Nat → Bool) : Nat → Nat
  | 0 => 0
  | n + 1 => if p n then fbN p n + 2 ^ n else fbN p n
theorem fbN_lt (p : Nat → Bool) : ∀ n, fbN p n < 2 ^ n
  | 0 => by show 0 < 1; omega
  | n + 1 => by
    have := fbN_lt p n
    have e : 2 ^ (n + 1) = 2 ^ n + 2 ^ n := by rw [Nat.pow_succ]; omega
    rw [fbN, e]
    split <;> omega
theorem orL_fb (p : Nat → Bool) : ∀ n, n ≤ 6 → orL p n = (fbN p n : Int)
  | 0, _ => rfl
  | n + 1, h => by
    have e := orL_fb p n (by omega)
    have hl := fbN_lt p n
    have hp : 2 ^ n ≤ 2 ^ 5 := Nat.pow_le_pow_right (by decide) (by omega)
    rw [orL, fbN]
    split
    · rw [e]
      exact mBit_or0 ⟨n, by omega⟩ ⟨fbN p n, by omega⟩ hl
    · exact e
theorem bt_01 (x k : Nat) : bt x k = 0 ∨ bt x k = 1 := by unfold bt; omega
theorem bt_fb (p : Nat → Bool) : ∀ n k, k < n → bt (fbN p n) k = if p k then 1 else 0
  | 0, k, h => absurd h (Nat.not_lt_zero k)
  | n + 1, k, h => by
    have hl := fbN_lt p n
    unfold bt
    rw [fbN]
    by_cases hk : k = n
    · subst hk
      split
      · rw [Nat.add_div_right _ (Nat.two_pow_pos k), Nat.div_eq_of_lt hl]
      · rw [Nat.div_eq_of_lt hl]
    · have ih := bt_fb p n k (by omega)
      unfold bt at ih
      split
      · obtain ⟨j, rfl⟩ : ∃ j, n = k + 1 + j := ⟨n - k - 1, by omega⟩
        have e : 2 ^ (k + 1 + j) = 2 ^ k * (2 * 2 ^ j) := by rw [Nat.pow_add, Nat.pow_succ, Nat.mul_assoc]
        rw [e, Nat.add_mul_div_left _ _ (Nat.two_pow_pos k), Nat.add_mul_mod_self_left]
        exact ih
      · exact ih
def fuN (s : Nat → Int) : Nat := fbN (fun b => decide (s (19 + b) = 0)) (s 29).toNat
theorem fuS_N {s : Nat → Int} (h : s 29 ≤ 6) : fuS s = (fuN s : Int) := orL_fb _ _ (by omega)
theorem fuN_lt {s : Nat → Int} (h : s 29 ≤ 6) : fuN s < 64 := Nat.lt_of_lt_of_le (fbN_lt _ _) (show 2 ^ (s 29).toNat ≤ 2 ^ 6 from Nat.pow_le_pow_right (by decide) (by omega))
def cnN (x : Nat) : Nat → Nat
  | 0 => 0
  | n + 1 => cnN x n + bt x n
def smN (s : Nat → Int) (x : Nat) : Nat → Int
  | 0 => 0
  | n + 1 => smN s x n + (if bt x n = 1 then syS s n else 0)
theorem cnN_le (x : Nat) : ∀ n, cnN x n ≤ n
  | 0 => Nat.le_refl _
  | n + 1 => by
    have := cnN_le x n
    have := bt_01 x n
    rw [cnN]
    omega
theorem smN_in {s : Nat → Int} (hG : InvG s) (x : Nat) : ∀ n : Nat, n ≤ 6 → -108 * (n : Int) ≤ smN s x n ∧ smN s x n ≤ 108 * (n : Int)
  | 0, _ => ⟨Int.le_refl _, Int.le_refl _⟩
  | n + 1, h => by
    have := smN_in hG x n (by omega)
    have := hG.bs (b := n) (by omega)
    rw [smN]
    split <;> omega
def chN (s : Nat → Int) (full : Nat) (m : Int) (k : Nat) : Nat → Int
  | 0 => -5
  | n + 1 => if (n &&& full = n ∧ s (25 + k) + smN s n (s 29).toNat = m) ∧ (chN s full m k n = -5 ∨ cnN n 6 < cnN (chN s full m k n).toNat 6) then (n : Int) else chN s full m k n
theorem chN_in {s : Nat → Int} {full : Nat} {m : Int} {k : Nat} : ∀ n : Nat, chN s full m k n = -5 ∨ (0 ≤ chN s full m k n ∧ chN s full m k n < n)
  | 0 => Or.inl rfl
  | n + 1 => by
    have := chN_in (s := s) (full := full) (m := m) (k := k) n
    rw [chN]
    split <;> omega
def a_choose (s : Nat → Int) (x m : Int) : Int := if ¬ isG s x then -1 else if ¬ btw (-99) m 99 then -2 else chN s (fuN s) m x.toNat (fuN s + 1)
def prC (s : Nat → Int) (st : Int × Int) (a b : Nat) : Int × Int := if s (19 + a) + s (19 + b) = 0 ∧ (st.1 = -5 ∨ szI (syS s a + syS s b) < st.2) then (10 * (a : Int) + (b : Int), szI (syS s a + syS s b)) else st
def prB (s : Nat → Int) (a : Nat) (st : Int × Int) : Nat → Int × Int
  | 0 => st
  | n + 1 => prC s (prB s a st n) a (a + 1 + n)
def prA (s : Nat → Int) : Nat → Int × Int
  | 0 => (-5, 0)
  | n + 1 => prB s n (prA s n) ((s 29).toNat - (n + 1))
def a_pair (s : Nat → Int) : Int := (prA s (s 29).toNat).1
def SAY (s f : Nat → Int) : Prop := ∀ b : Nat, (b : Int) < s 29 → f b = syS s b
set_option maxHeartbeats 4000000 in
set_option maxRecDepth 100000 in
theorem l_lookS {d : Nat} {h : Hp} {s : Nat → Int} (hL : Lay h) (hI : InvB s) (hH : InvH s) (n29 : 0 ≤ s 29 ∧ s 29 ≤ 6) : ∀ (n i : Nat), i + n = (s 29).toNat → ∀ (f : Nat → Int), (∀ b : Nat, b < i → f b = syS s b) → ∀ c, Mc c → c 44 = s → c 49 = f → Ex (d + 4) none t_X11_looksForSayings 0 2 [(1, ((43 : Nat) : Int)), (0, (i : Int))] [] (wC h c) (fun r h2 => r = none ∧ ∃ c2, h2 = wC h c2 ∧ SAY s (c2 49) ∧ Eqk P49 c c2) := by
  intro n
  induction n with
  | zero =>
    intro i hi f ha c hM hs h49c
    refine E_load rfl rfl rfl ?_
    refine E_load rfl rfl rfl ?_
    refine E_getr (c := 12) (r := 44) rfl (hL.lt 43 rfl) (hL.k 43 rfl) rfl hM.c1 ?_
    refine E_const rfl ?_
    refine E_ialn (n := 943) (v := (s 29)) rfl (hL.lt 44 rfl) (hL.k 44 rfl) (hL.l 44 rfl) (by omega) (rdS hs (by omega)) ?_
    refine E_cmp3 rfl (by omega) (fun q1 => ?_) (fun q1 => ?_)
    · refine E_vret rfl ?_
      exact ⟨rfl, c, rfl, fun b hb2 => by rw [h49c]; exact ha b (by omega), Eqk.nil⟩
    · exfalso; omega
  | succ n ih =>
    intro i hi f ha c hM hs h49c
    refine E_load rfl rfl rfl ?_
    refine E_load rfl rfl rfl ?_
    refine E_getr (c := 12) (r := 44) rfl (hL.lt 43 rfl) (hL.k 43 rfl) rfl hM.c1 ?_
    refine E_const rfl ?_
    refine E_ialn (n := 943) (v := (s 29)) rfl (hL.lt 44 rfl) (hL.k 44 rfl) (hL.l 44 rfl) (by omega) (rdS hs (by omega)) ?_
    refine E_cmp3 rfl (by omega) (fun q1 => ?_) (fun q1 => ?_)
    · exfalso; omega
    · refine E_load rfl rfl rfl ?_
      refine E_getr (c := 12) (r := 49) rfl (hL.lt 43 rfl) (hL.k 43 rfl) rfl hM.c12 ?_
      refine E_load rfl rfl rfl ?_
      refine E_load rfl rfl rfl ?_
      refine E_load rfl rfl rfl ?_
      refine E_V1 (q := 43) (c := 12) (y := 167) rfl rfl (hL.lt 43 rfl) (hL.k 43 rfl) rfl rfl rfl rfl (n_saysOf hL hM hs (by omega) hI hH) (fun r h2 hq => ?_)
      obtain ⟨rfl, c_1, hh, hE0_1⟩ := hq
      subst hh
      have hE_1 : Eqk P49 c c_1 := hE0_1.mono P47_P49
      have hM_1 : Mc c_1 := hM.of (hE0_1.row 43 (fun _ => rfl))
      have hs_1 : c_1 44 = s := (hE0_1.row 44 (fun _ => rfl)).trans hs
      have hr49_1 : c_1 49 = f := (hE0_1.row 49 (fun _ => rfl)).trans h49c
      refine E_iasg (n := 6) (j := i) rfl (hL.lt 49 rfl) (hL.k 49 rfl) (hL.l 49 rfl) (by omega) (by omega) (fun c_2 hc_2 => ?_)
      have hE_2 : Eqk P49 c_1 c_2 := by rw [hc_2]; exact Eqk.up rfl
      have hM_2 : Mc c_2 := by rw [hc_2]; exact hM_1.upo rfl
      have hs_2 : c_2 44 = s := by rw [hc_2]; exact (up2_oth rfl).trans hs_1
      have hr49_2 : c_2 49 = upd1 f i (syS s i) := by rw [hc_2]; exact up2_rowS hr49_1
      refine E_iinc rfl rfl rfl ?_
      refine E_goto rfl ?_
      refine (ih (i + 1) (by omega) _ (fun b hb2 => ?_) c_2 hM_2 hs_2 hr49_2).mono ?_
      · unfold upd1
        split
        · next e => rw [e]
        · exact ha b (by omega)
      rintro r hE ⟨e1, c9, e2, e4, e3⟩
      exact ⟨e1, c9, e2, e4, Eqk.trans (hE_1.trans hE_2) e3⟩
set_option maxHeartbeats 4000000 in
set_option maxRecDepth 100000 in
theorem n_lookS {d : Nat} {h : Hp} {c : Nat → Nat → Int} {s : Nat → Int} (hL : Lay h) (hM : Mc c) (hs : c 44 = s) (hG : InvG s) : Ok (d + 4) 189 [(1, ((43 : Nat) : Int))] (wC h c) (fun r h2 => r = none ∧ ∃ c2, h2 = wC h c2 ∧ SAY s (c2 49) ∧ Eqk P49 c c2) := by
  show Ex _ none t_X11_looksForSayings 0 0 _ [] (wC h c) _
  obtain ⟨hI, hH, ⟨n29, n30, n31, n32, n33, n34, n36⟩, nM⟩ := hG
  refine E_const rfl ?_
  refine E_store rfl rfl rfl ?_
  exact l_lookS hL hI hH n29 _ 0 (Nat.zero_add _) _ (fun b hb2 => absurd hb2 (Nat.not_lt_zero b)) c hM hs rfl
set_option maxHeartbeats 4000000 in
set_option maxRecDepth 100000 in
theorem l_count {d : Nat} {h : Hp} {s : Nat → Int} (hL : Lay h) {x : Nat} (hx : x < 64) : ∀ (n i : Nat), i + n = 6 → ∀ (a : Int), a = (cnN x i : Int) → ∀ c, Mc c → c 44 = s → Ex (d) none t_X11_countOf 0 4 [(0, (x : Int)), (0, a), (0, (i : Int))] [] (wC h c) (fun r h2 => r = some (0, (cnN x 6 : Int)) ∧ h2 = wC h c) := by
  intro n
  induction n with
  | zero =>
    intro i hi a ha c hM hs 
    refine E_load rfl rfl rfl ?_
    refine E_const rfl ?_
    refine E_cmp3 rfl (by omega) (fun q1 => ?_) (fun q1 => ?_)
    · refine E_load rfl rfl rfl ?_
      refine E_iret rfl (fun h => absurd h (by decide)) ?_
      exact ⟨by rw [ha, show i = 6 by omega], rfl⟩
    · exfalso; omega
  | succ n ih =>
    intro i hi a ha c hM hs 
    refine E_load rfl rfl rfl ?_
    refine E_const rfl ?_
    refine E_cmp3 rfl (by omega) (fun q1 => ?_) (fun q1 => ?_)
    · exfalso; omega
    · refine E_load rfl rfl rfl ?_
      refine E_load rfl rfl rfl ?_
      refine E_load rfl rfl rfl ?_
      refine E_bit (z := (mBit 9 ((x : Nat) : Int) ((i : Nat) : Int))) rfl rfl rfl ?_
      refine E_const rfl ?_
      refine E_bit rfl rfl (mBit_bt hx (by omega)) ?_
      refine E_add rfl ?_
      refine E_store rfl rfl rfl ?_
      refine E_iinc rfl rfl rfl ?_
      refine E_goto rfl ?_
      exact ih (i + 1) (by omega) _ (by rw [ha, cnN]; omega) c hM hs
set_option maxHeartbeats 4000000 in
set_option maxRecDepth 100000 in
theorem n_countOf {d : Nat} {h : Hp} {c : Nat → Nat → Int} {s : Nat → Int} (hL : Lay h) (hM : Mc c) (hs : c 44 = s) {x : Nat} (hx : x < 64) : Ok (d) 190 [(0, (x : Int))] (wC h c) (fun r h2 => r = some (0, (cnN x 6 : Int)) ∧ h2 = wC h c) := by
  show Ex _ none t_X11_countOf 0 0 _ [] (wC h c) _
  refine E_const rfl ?_
  refine E_store rfl rfl rfl ?_
  refine E_const rfl ?_
  refine E_store rfl rfl rfl ?_
  exact l_count hL hx 6 0 rfl 0 rfl c hM hs
set_option maxHeartbeats 4000000 in
set_option maxRecDepth 100000 in
theorem l_sumOf {d : Nat} {h : Hp} {s : Nat → Int} (hL : Lay h) (n29 : 0 ≤ s 29 ∧ s 29 ≤ 6) {x : Nat} (hx : x < 64) {f49 : Nat → Int} (hsay : SAY s f49) : ∀ (n i : Nat), i + n = (s 29).toNat → ∀ (a : Int), a = smN s x i → ∀ c, Mc c → c 44 = s → c 49 = f49 → Ex (d) none t_X11_sumOf 0 4 [(1, ((43 : Nat) : Int)), (0, (x : Int)), (0, a), (0, (i : Int))] [] (wC h c) (fun r h2 => r = some (0, smN s x (s 29).toNat) ∧ h2 = wC h c) := by
  intro n
  induction n with
  | zero =>
    intro i hi a ha c hM hs h49c
    refine E_load rfl rfl rfl ?_
    refine E_load rfl rfl rfl ?_
    refine E_getr (c := 12) (r := 44) rfl (hL.lt 43 rfl) (hL.k 43 rfl) rfl hM.c1 ?_
    refine E_const rfl ?_
    refine E_ialn (n := 943) (v := (s 29)) rfl (hL.lt 44 rfl) (hL.k 44 rfl) (hL.l 44 rfl) (by omega) (rdS hs (by omega)) ?_
    refine E_cmp3 rfl (by omega) (fun q1 => ?_) (fun q1 => ?_)
    · refine E_load rfl rfl rfl ?_
      refine E_iret rfl (fun h => absurd h (by decide)) ?_
      exact ⟨by rw [ha, show i = (s 29).toNat by omega], rfl⟩
    · exfalso; omega
  | succ n ih =>
    intro i hi a ha c hM hs h49c
    refine E_load rfl rfl rfl ?_
    refine E_load rfl rfl rfl ?_
    refine E_getr (c := 12) (r := 44) rfl (hL.lt 43 rfl) (hL.k 43 rfl) rfl hM.c1 ?_
    refine E_const rfl ?_
    refine E_ialn (n := 943) (v := (s 29)) rfl (hL.lt 44 rfl) (hL.k 44 rfl) (hL.l 44 rfl) (by omega) (rdS hs (by omega)) ?_
    refine E_cmp3 rfl (by omega) (fun q1 => ?_) (fun q1 => ?_)
    · exfalso; omega
    · have hbt := bt_01 x i
      refine E_load rfl rfl rfl ?_
      refine E_load rfl rfl rfl ?_
      refine E_load rfl rfl rfl ?_
      refine E_bit (z := (mBit 9 ((x : Nat) : Int) ((i : Nat) : Int))) rfl rfl rfl ?_
      refine E_const rfl ?_
      refine E_bit rfl rfl (mBit_bt hx (by omega)) ?_
      refine E_const rfl ?_
      refine E_cmp1 rfl (by omega) (fun q2 => ?_) (fun q2 => ?_)
      · refine E_const rfl ?_
        refine E_add rfl ?_
        refine E_store rfl rfl rfl ?_
        refine E_iinc rfl rfl rfl ?_
        refine E_goto rfl ?_
        exact ih (i + 1) (by omega) _ (by rw [ha, smN, if_neg (by omega)]) c hM hs h49c
      · refine E_load rfl rfl rfl ?_
        refine E_getr (c := 12) (r := 49) rfl (hL.lt 43 rfl) (hL.k 43 rfl) rfl hM.c12 ?_
        refine E_load rfl rfl rfl ?_
        refine E_ialn (n := 6) (v := (f49 i)) rfl (hL.lt 49 rfl) (hL.k 49 rfl) (hL.l 49 rfl) (by omega) (rdS h49c (by omega)) ?_
        refine E_goto rfl ?_
        refine E_add rfl ?_
        refine E_store rfl rfl rfl ?_
        refine E_iinc rfl rfl rfl ?_
        refine E_goto rfl ?_
        exact ih (i + 1) (by omega) _ (by rw [ha, smN, if_pos (by omega), hsay i (by omega)]) c hM hs h49c
set_option maxHeartbeats 4000000 in
set_option maxRecDepth 100000 in
theorem n_sumOf {d : Nat} {h : Hp} {c : Nat → Nat → Int} {s : Nat → Int} (hL : Lay h) (hM : Mc c) (hs : c 44 = s) (hG : InvG s) {x : Nat} (hx : x < 64) {f49 : Nat → Int} (h49c : c 49 = f49) (hsay : SAY s f49) : Ok (d) 191 [(1, ((43 : Nat) : Int)), (0, (x : Int))] (wC h c) (fun r h2 => r = some (0, smN s x (s 29).toNat) ∧ h2 = wC h c) := by
  show Ex _ none t_X11_sumOf 0 0 _ [] (wC h c) _
  obtain ⟨hI, hH, ⟨n29, n30, n31, n32, n33, n34, n36⟩, nM⟩ := hG
  refine E_const rfl ?_
  refine E_store rfl rfl rfl ?_
  refine E_const rfl ?_
  refine E_store rfl rfl rfl ?_
  exact l_sumOf hL n29 hx hsay _ 0 (Nat.zero_add _) 0 rfl c hM hs h49c
set_option maxHeartbeats 4000000 in
set_option maxRecDepth 100000 in
theorem l_choose {d : Nat} {h : Hp} {s : Nat → Int} (hL : Lay h) (hG : InvG s) {k : Nat} (hk : (k : Int) < s 36) {m : Int} (hm : inR m) {f49 : Nat → Int} (hsay : SAY s f49) : ∀ (n i : Nat), i + n = fuN s + 1 → ∀ (a : Int) (v6 : AV), a = chN s (fuN s) m k i → ∀ c, Mc c → c 44 = s → c 49 = f49 → Ex (d + 6) none t_X11_choose 0 36 [(1, ((43 : Nat) : Int)), (0, (k : Int)), (0, m), (0, (fuN s : Int)), (0, a), (0, (i : Int)), v6] [] (wC h c) (fun r h2 => r = some (0, chN s (fuN s) m k (fuN s + 1)) ∧ ∃ c2, h2 = wC h c2 ∧ Eqk PQ c c2) := by
  intro n
  induction n with
  | zero =>
    intro i hi a v6 ha c hM hs h49c
    have hG0 := hG
    obtain ⟨hI, hH, ⟨n29, n30, n31, n32, n33, n34, n36⟩, nM⟩ := hG0
    have hfl := fuN_lt n29.2
    have hin := chN_in (s := s) (full := fuN s) (m := m) (k := k) i
    rw [← ha] at hin
    refine E_load rfl rfl rfl ?_
    refine E_load rfl rfl rfl ?_
    refine E_cmp4 rfl (by omega) (fun q1 => ?_) (fun q1 => ?_)
    · refine E_load rfl rfl rfl ?_
      refine E_iret rfl (fun h => absurd h (by decide)) ?_
      exact ⟨by rw [ha, show i = fuN s + 1 by omega], c, rfl, Eqk.nil⟩
    · exfalso; omega
  | succ n ih =>
    intro i hi a v6 ha c hM hs h49c
    have hG0 := hG
    obtain ⟨hI, hH, ⟨n29, n30, n31, n32, n33, n34, n36⟩, nM⟩ := hG0
    have hfl := fuN_lt n29.2
    have hin := chN_in (s := s) (full := fuN s) (m := m) (k := k) i
    rw [← ha] at hin
    refine E_load rfl rfl rfl ?_
    refine E_load rfl rfl rfl ?_
    refine E_cmp4 rfl (by omega) (fun q1 => ?_) (fun q1 => ?_)
    · exfalso; omega
    · refine E_load rfl rfl rfl ?_
      refine E_load rfl rfl rfl ?_
      refine E_const rfl ?_
      refine E_bit (z := (mBit 7 (((fuN s) : Nat) : Int) (-1))) rfl rfl rfl ?_
      refine E_bit (z := (mBit 5 ((i : Nat) : Int) (mBit 7 (((fuN s) : Nat) : Int) (-1)))) rfl rfl rfl ?_
      refine E_if1 rfl (mBit_R _ _ _) (fun q2 => ?_) (fun q2 => ?_)
      · refine E_const rfl ?_
        refine E_store rfl rfl rfl ?_
        refine E_load rfl rfl rfl ?_
        refine E_if0 rfl (by omega) (fun q3 => ?_) (fun q3 => ?_)
        · refine E_load rfl rfl rfl ?_
          refine E_store rfl rfl rfl ?_
          refine E_iinc rfl rfl rfl ?_
          refine E_goto rfl ?_
          refine (ih (i + 1) (by omega) _ _ (by rw [chN, if_neg (by rw [← ha]; rintro ⟨⟨z1, z2⟩, z3⟩; exact q2 ((mBit_sub (by omega) hfl).mpr z1)), ← ha]) c hM hs h49c).mono ?_
          rintro r hE ⟨e1, c9, e2, e3⟩
          exact ⟨e1, c9, e2, Eqk.trans Eqk.nil e3⟩
        · exfalso; omega
      · have q0 := (mBit_sub (by omega) hfl).mp q2
        refine E_load rfl rfl rfl ?_
        refine E_getr (c := 12) (r := 44) rfl (hL.lt 43 rfl) (hL.k 43 rfl) rfl hM.c1 ?_
        refine E_const rfl ?_
        refine E_load rfl rfl rfl ?_
        refine E_add rfl ?_
        refine E_ialn (n := 943) (v := (s ((25 + k)))) rfl (hL.lt 44 rfl) (hL.k 44 rfl) (hL.l 44 rfl) (by omega) (rdS hs (by omega)) ?_
        have hsm := smN_in hG i (s 29).toNat (by omega)
        have hmk := nM k (by omega)
        refine E_load rfl rfl rfl ?_
        refine E_load rfl rfl rfl ?_
        refine E_V1 (q := 43) (c := 12) (y := 191) rfl rfl (hL.lt 43 rfl) (hL.k 43 rfl) rfl rfl rfl rfl (n_sumOf hL hM hs hG (by omega) h49c hsay) (fun r h2 hq => ?_)
        obtain ⟨rfl, hh⟩ := hq
        subst hh
        refine E_add rfl ?_
        refine E_load rfl rfl rfl ?_
        refine E_cmp1 rfl (by omega) (fun q4 => ?_) (fun q4 => ?_)
        · refine E_const rfl ?_
          refine E_store rfl rfl rfl ?_
          refine E_load rfl rfl rfl ?_
          refine E_if0 rfl (by omega) (fun q5 => ?_) (fun q5 => ?_)
          · refine E_load rfl rfl rfl ?_
            refine E_store rfl rfl rfl ?_
            refine E_iinc rfl rfl rfl ?_
            refine E_goto rfl ?_
            refine (ih (i + 1) (by omega) _ _ (by rw [chN, if_neg (by rw [← ha]; rintro ⟨⟨z1, z2⟩, z3⟩; omega), ← ha]) c hM hs h49c).mono ?_
            rintro r hE ⟨e1, c9, e2, e3⟩
            exact ⟨e1, c9, e2, Eqk.trans Eqk.nil e3⟩
          · exfalso; omega
        · refine E_const rfl ?_
          refine E_goto rfl ?_
          refine E_store rfl rfl rfl ?_
          refine E_load rfl rfl rfl ?_
          refine E_if0 rfl (by omega) (fun q6 => ?_) (fun q6 => ?_)
          · exfalso; omega
          · refine E_load rfl rfl rfl ?_
            refine E_const rfl ?_
            refine E_cmp0 rfl (by omega) (fun q7 => ?_) (fun q7 => ?_)
            · refine E_load rfl rfl rfl ?_
              refine E_goto rfl ?_
              refine E_store rfl rfl rfl ?_
              refine E_iinc rfl rfl rfl ?_
              refine E_goto rfl ?_
              refine (ih (i + 1) (by omega) _ _ (by rw [chN, if_pos ⟨⟨q0, by omega⟩, by rw [← ha]; exact Or.inl (by omega)⟩]) c hM hs h49c).mono ?_
              rintro r hE ⟨e1, c9, e2, e3⟩
              exact ⟨e1, c9, e2, Eqk.trans Eqk.nil e3⟩
            · refine E_load rfl rfl rfl ?_
              refine E_S1 (y := 190) rfl rfl rfl rfl rfl (n_countOf hL hM hs (by omega)) (fun r h2 hq => ?_)
              obtain ⟨rfl, hh⟩ := hq
              subst hh
              obtain ⟨bn, rfl⟩ := Int.eq_ofNat_of_zero_le (show 0 ≤ a by omega)
              refine E_load rfl rfl rfl ?_
              have hc1 := cnN_le i 6
              have hc2 := cnN_le bn 6
              refine E_S1 (y := 190) rfl rfl rfl rfl rfl (n_countOf hL hM hs (by omega)) (fun r h2 hq => ?_)
              obtain ⟨rfl, hh⟩ := hq
              subst hh
              refine E_cmp3 rfl (by omega) (fun q8 => ?_) (fun q8 => ?_)
              · refine E_load rfl rfl rfl ?_
                refine E_store rfl rfl rfl ?_
                refine E_iinc rfl rfl rfl ?_
                refine E_goto rfl ?_
                refine (ih (i + 1) (by omega) _ _ (by rw [chN, if_neg (by rw [← ha]; rintro ⟨⟨z1, z2⟩, z3⟩; have z4 : cnN i 6 < cnN bn 6 := z3.resolve_left (by omega); omega), ← ha]) c hM hs h49c).mono ?_
                rintro r hE ⟨e1, c9, e2, e3⟩
                exact ⟨e1, c9, e2, Eqk.trans Eqk.nil e3⟩
              · refine E_load rfl rfl rfl ?_
                refine E_goto rfl ?_
                refine E_store rfl rfl rfl ?_
                refine E_iinc rfl rfl rfl ?_
                refine E_goto rfl ?_
                refine (ih (i + 1) (by omega) _ _ (by rw [chN, if_pos ⟨⟨q0, by omega⟩, by rw [← ha]; exact Or.inr (show cnN i 6 < cnN bn 6 by omega)⟩]) c hM hs h49c).mono ?_
                rintro r hE ⟨e1, c9, e2, e3⟩
                exact ⟨e1, c9, e2, Eqk.trans Eqk.nil e3⟩
set_option maxHeartbeats 4000000 in
set_option maxRecDepth 100000 in
theorem n_choose {d : Nat} {h : Hp} {c : Nat → Nat → Int} {s : Nat → Int} (hL : Lay h) (hM : Mc c) (hs : c 44 = s) (hA : Inv s) {x : Int} (hx : inR x) {m : Int} (hm : inR m) : Ok (d + 6) 192 [(1, ((43 : Nat) : Int)), (0, x), (0, m)] (wC h c) (fun r h2 => r = some (0, a_choose s x m) ∧ ∃ c2, h2 = wC h c2 ∧ Eqk PQ c c2) := by
  show Ex _ none t_X11_choose 0 0 _ [] (wC h c) _
  have hAA := hA
  have hG := hA.G
  obtain ⟨hI, hH, ⟨⟨n29, n30, n31, n32, n33, n34, n36⟩, nM⟩, hX⟩ := hA
  refine E_load rfl rfl rfl ?_
  refine E_load rfl rfl rfl ?_
  refine E_V1 (q := 43) (c := 12) (y := 144) rfl rfl (hL.lt 43 rfl) (hL.k 43 rfl) rfl rfl rfl rfl (n_isGuest hL hM hs (by omega) (by omega)) (fun r h2 hq => ?_)
  obtain ⟨rfl, hh⟩ := hq
  subst hh
  refine E_if1 rfl (bI_R _) (fun q1 => ?_) (fun q1 => ?_)
  · replace q1 := bI_nz q1
    obtain ⟨k, rfl⟩ := Int.eq_ofNat_of_zero_le q1.1
    refine E_load rfl rfl rfl ?_
    refine E_S1 (y := 145) rfl rfl rfl rfl rfl (m_isMood (by omega)) (fun r h2 hq => ?_)
    obtain ⟨rfl, hh⟩ := hq
    subst hh
    refine E_if1 rfl (bI_R _) (fun q2 => ?_) (fun q2 => ?_)
    · replace q2 := bI_nz q2
      refine E_load rfl rfl rfl ?_
      refine E_V0 (q := 43) (c := 12) (y := 189) rfl rfl (hL.lt 43 rfl) (hL.k 43 rfl) rfl rfl rfl rfl (n_lookS hL hM hs hG) (fun r h2 hq => ?_)
      obtain ⟨rfl, c_1, hh, h49_1, hE0_1⟩ := hq
      subst hh
      have hE_1 : Eqk PQ c c_1 := hE0_1.mono P49_PQ
      have hM_1 : Mc c_1 := hM.of (hE0_1.row 43 (fun _ => rfl))
      have hs_1 : c_1 44 = s := (hE0_1.row 44 (fun _ => rfl)).trans hs
      obtain ⟨f49, hr49_1⟩ : ∃ f, c_1 49 = f := ⟨_, rfl⟩
      have hsay : SAY s f49 := by rw [← hr49_1]; exact h49_1
      refine E_load rfl rfl rfl ?_
      refine E_V0 (q := 43) (c := 12) (y := 174) rfl rfl (hL.lt 43 rfl) (hL.k 43 rfl) rfl rfl rfl rfl (n_fullOnes hL hM_1 hs_1 hG) (fun r h2 hq => ?_)
      obtain ⟨rfl, hh⟩ := hq
      subst hh
      refine E_store rfl rfl rfl ?_
      refine E_const rfl ?_
      refine E_store rfl rfl rfl ?_
      refine E_const rfl ?_
      refine E_store rfl rfl rfl ?_
      rw [fuS_N n29.2]
      refine (l_choose hL hG (by omega) hm hsay _ 0 (Nat.zero_add _) (-5) _ rfl c_1 hM_1 hs_1 hr49_1).mono ?_
      rintro r hE ⟨rfl, c9, rfl, e3⟩
      refine qryl ?_ (Eqk.trans hE_1 e3)
      unfold a_choose
      rw [if_neg (by omega), if_neg (by omega)]
      rfl
    · replace q2 := bI_z q2
      refine E_const rfl ?_
      refine E_iret rfl (fun h => absurd h (by decide)) ?_
      refine qryl ?_ Eqk.nil
      unfold a_choose
      try simp only [Int.toNat_natCast]
      (repeat' split) <;> first | rfl | (exfalso; omega) | (congr 1; omega) | omega
  · replace q1 := bI_z q1
    refine E_const rfl ?_
    refine E_iret rfl (fun h => absurd h (by decide)) ?_
    refine qryl ?_ Eqk.nil
    unfold a_choose
    try simp only [Int.toNat_natCast]
    (repeat' split) <;> first | rfl | (exfalso; omega) | (congr 1; omega) | omega
