section ELONG
variable {d : Nat} {sc : Option (Nat × (Nat → Int))} {tb : List ME} {rk pc nx : Nat} {a b : Int} {l : List (Int × Int)} {lv st : List AV} {h : Hp} {Q : Option AV → Hp → Prop}
theorem ofInt64_div {x y : Int} (hx : inR x) (hy : inR y) (h0 : 0 < y) : (Int64.ofInt x / Int64.ofInt y).toInt = x.tdiv y := by
  rw [Int64.toInt_div_of_ne_right _ _ (by
    rw [show (-1 : Int64) = Int64.ofInt (-1) from rfl]
    intro h
    rw [ofInt64_inj (by omega) (by omega)] at h
    omega), Int64.toInt_ofInt_of_le (by omega) (by omega), Int64.toInt_ofInt_of_le (by omega) (by omega)]
theorem ofInt64_rem {x y : Int} (hx : inR x) (hy : inR y) (h0 : 0 < y) : (Int64.ofInt x - Int64.ofInt x / Int64.ofInt y * Int64.ofInt y).toInt = x.tmod y := by
  have e : Int64.ofInt x / Int64.ofInt y = Int64.ofInt (x.tdiv y) := by rw [← Int64.ofInt_toInt (Int64.ofInt x / Int64.ofInt y), ofInt64_div hx hy h0]
  rw [e, ← Int64.ofInt_mul, ← Int64.ofInt_sub]
  have e2 : x - x.tdiv y * y = x.tmod y := by rw [Int.tmod_def, Int.mul_comm]
  rw [e2]
  have h1 : -2147483648 ≤ x.tmod y ∧ x.tmod y < 2147483648 := by
    have h3 := Int.tmod_lt_of_pos x h0
    have h4 : -y < x.tmod y := by
      have := Int.tmod_lt_of_pos (-x) h0
      rw [Int.neg_tmod] at this
      omega
    omega
  exact Int64.toInt_ofInt_of_le (by omega) (by omega)
theorem E_ldiv {x y : Int} (hat : mAt tb pc = some (nx, 31, a, b, l)) (hx : inR x) (hy : inR y) (h0 : 0 < y) (k : Ex d sc tb rk nx lv ((2, x.tdiv y) :: st) h Q) : Ex d sc tb rk pc lv ((2, y) :: (2, x) :: st) h Q := by
  refine k.step hat rfl ?_
  simp only [mStep]
  rw [if_pos ⟨⟨by omega, by omega⟩, by omega⟩, ofInt64_div hx hy h0]
theorem E_lrem {x y : Int} (hat : mAt tb pc = some (nx, 32, a, b, l)) (hx : inR x) (hy : inR y) (h0 : 0 < y) (k : Ex d sc tb rk nx lv ((2, x.tmod y) :: st) h Q) : Ex d sc tb rk pc lv ((2, y) :: (2, x) :: st) h Q := by
  refine k.step hat rfl ?_
  simp only [mStep]
  rw [if_pos ⟨⟨by omega, by omega⟩, by omega⟩, ofInt64_rem hx hy h0]
/-- lcmp and the branch behind it: at least; equal -/
theorem E_lge {x y : Int} {nx2 : Nat} {a2 : Int} {l2 : List (Int × Int)} (hat : mAt tb pc = some (nx, 33, a, b, l)) (hat2 : mAt tb nx = some (nx2, 6, a2, 3, l2)) (hx : inR x ∧ inR y) (kt : y ≤ x → Ex d sc tb rk a2.toNat lv st h Q) (kf : x < y → Ex d sc tb rk nx2 lv st h Q) : Ex d sc tb rk pc lv ((2, y) :: (2, x) :: st) h Q := by
  refine E_lcmp hat ⟨by omega, by omega⟩ ?_
  refine E_if3 hat2 (by split <;> (try split) <;> omega) (fun c => kt ?_) (fun c => kf ?_)
  · by_cases h1 : y < x
    · omega
    · rw [if_neg h1] at c
      by_cases h2 : x = y
      · omega
      · rw [if_neg h2] at c; omega
  · by_cases h1 : y < x
    · rw [if_pos h1] at c; omega
    · rw [if_neg h1] at c
      by_cases h2 : x = y
      · rw [if_pos h2] at c; omega
      · omega
theorem E_leq {x y : Int} {nx2 : Nat} {a2 : Int} {l2 : List (Int × Int)} (hat : mAt tb pc = some (nx, 33, a, b, l)) (hat2 : mAt tb nx = some (nx2, 6, a2, 0, l2)) (hx : inR x ∧ inR y) (kt : x = y → Ex d sc tb rk a2.toNat lv st h Q) (kf : x ≠ y → Ex d sc tb rk nx2 lv st h Q) : Ex d sc tb rk pc lv ((2, y) :: (2, x) :: st) h Q := by
  refine E_lcmp hat ⟨by omega, by omega⟩ ?_
  refine E_if0 hat2 (by split <;> (try split) <;> omega) (fun c => kt ?_) (fun c => kf ?_)
  · by_cases h1 : y < x
    · rw [if_pos h1] at c; omega
    · rw [if_neg h1] at c
      by_cases h2 : x = y
      · exact h2
      · rw [if_neg h2] at c; omega
  · intro e
    rw [if_neg (by omega), if_pos e] at c
    omega
end ELONG
def lowS (up low part : Int) : Int := (if part = 0 then up else low).tdiv (Nat.gcd up.natAbs low.natAbs : Int)
set_option maxRecDepth 100000 in
theorem l_low {d : Nat} {h : Hp} {up low part : Int} (h1 : inR up) (h2 : inR low) (h3 : inR part) : ∀ (n b a : Nat), b ≤ n → (a : Int) < 2147483648 → (b : Int) < 2147483648 → 0 < Nat.gcd a b → ∀ v9 v10, Ex d none t_X11_lowest 0 17 [(2, up), (9, 0), (2, low), (9, 0), (0, part), (2, (a : Int)), (9, 0), (2, (b : Int)), (9, 0), v9, v10] [] h (fun r h2 => r = some (2, (if part = 0 then up else low).tdiv (Nat.gcd a b : Int)) ∧ h2 = h) := by
  intro n
  induction n with
  | zero =>
    intro b a hb ha hb2 hg v9 v10
    have hb0 : b = 0 := by omega
    subst hb0
    rw [Nat.gcd_zero_right] at hg ⊢
    refine E_load rfl rfl rfl ?_
    refine E_lcon rfl ?_
    refine E_leq rfl rfl (by omega) (fun c1 => ?_) (fun c1 => absurd rfl c1)
    refine E_load rfl rfl rfl ?_
    refine E_if1 rfl h3 (fun c2 => ?_) (fun c2 => ?_)
    · refine E_load rfl rfl rfl ?_
      refine E_load rfl rfl rfl ?_
      refine E_ldiv rfl (by omega) (by omega) (by omega) ?_
      refine E_lret rfl ?_
      exact ⟨by rw [if_neg c2], rfl⟩
    · refine E_load rfl rfl rfl ?_
      refine E_goto rfl ?_
      refine E_load rfl rfl rfl ?_
      refine E_ldiv rfl (by omega) (by omega) (by omega) ?_
      refine E_lret rfl ?_
      exact ⟨by rw [if_pos c2], rfl⟩
  | succ n ih =>
    intro b a hb ha hb2 hg v9 v10
    by_cases hb0 : b ≤ n
    · exact ih b a hb0 ha hb2 hg v9 v10
    · have hm : a % b < b := Nat.mod_lt _ (by omega)
      have e1 : ((a : Int)).tmod (b : Int) = ((a % b : Nat) : Int) := by
        rw [Int.tmod_eq_emod_of_nonneg (by omega)]
        rfl
      refine E_load rfl rfl rfl ?_
      refine E_lcon rfl ?_
      refine E_leq rfl rfl (by omega) (fun c1 => by omega) (fun c1 => ?_)
      refine E_load rfl rfl rfl ?_
      refine E_load rfl rfl rfl ?_
      refine E_lrem rfl (by omega) (by omega) (by omega) ?_
      refine E_store rfl rfl rfl ?_
      refine E_load rfl rfl rfl ?_
      refine E_store rfl rfl rfl ?_
      refine E_load rfl rfl rfl ?_
      refine E_store rfl rfl rfl ?_
      refine E_goto rfl ?_
      rw [e1]
      have eg : Nat.gcd a b = Nat.gcd b (a % b) := by rw [Nat.gcd_comm a b, Nat.gcd_rec b a, Nat.gcd_comm]
      rw [eg] at hg ⊢
      exact ih (a % b) b (by omega) (by omega) (by omega) hg _ _
set_option maxRecDepth 100000 in
theorem n_lowest {d : Nat} {h : Hp} {up low part : Int} (h1 : -2147483647 ≤ up ∧ up < 2147483648) (h2 : 0 < low ∧ low < 2147483648) (h3 : inR part) : Ok (d) 205 [(2, up), (2, low), (0, part)] h (fun r h2 => r = some (2, lowS up low part) ∧ h2 = h) := by
  show Ex _ none t_X11_lowest 0 0 _ [] h _
  have hg : 0 < Nat.gcd up.natAbs low.natAbs := Nat.gcd_pos_of_pos_right _ (by omega)
  have k := l_low (d := d) (h := h) (up := up) (low := low) (part := part) (by omega) (by omega) h3 low.natAbs low.natAbs up.natAbs (Nat.le_refl _) (by omega) (by omega) hg (9, 0) (9, 0)
  have el : ((low.natAbs : Nat) : Int) = low := by omega
  rw [el] at k
  refine E_load rfl rfl rfl ?_
  refine E_lcon rfl ?_
  refine E_lge rfl rfl (by omega) (fun c1 => ?_) (fun c1 => ?_)
  · refine E_load rfl rfl rfl ?_
    refine E_store rfl rfl rfl ?_
    refine E_load rfl rfl rfl ?_
    refine E_store rfl rfl rfl ?_
    rw [show ((up.natAbs : Nat) : Int) = up by omega] at k
    exact k
  · refine E_load rfl rfl rfl ?_
    refine E_lneg rfl ?_
    refine E_goto rfl ?_
    refine E_store rfl rfl rfl ?_
    refine E_load rfl rfl rfl ?_
    refine E_store rfl rfl rfl ?_
    rw [show ((up.natAbs : Nat) : Int) = -up by omega] at k
    exact k
abbrev NOI : Int := -9223372036854775808
def odS (s : Nat → Int) (k : Nat) (m : Int) : Nat → Int
  | 0 => 0
  | n + 1 => if s (19 + n) = 0 ∧ m ≤ clI (s (25 + k) + syS s n) (-99) 99 then odS s k m n + 1 else odS s k m n
theorem odS_in {s : Nat → Int} {k : Nat} {m : Int} : ∀ n, 0 ≤ odS s k m n ∧ odS s k m n ≤ n
  | 0 => ⟨Int.le_refl _, Int.le_refl _⟩
  | n + 1 => by
    have := odS_in (s := s) (k := k) (m := m) n
    rw [odS]
    split <;> omega
def a_odds (s : Nat → Int) (x m part : Int) : Int := if ¬ isG s x ∨ ¬ btw (-99) m 99 ∨ ¬ btw 0 part 1 ∨ fuN s = 0 then NOI else lowS (odS s x.toNat m (s 29).toNat) (cnN (fuN s) 6 : Int) part
def a_mean (s : Nat → Int) (n part : Int) : Int := if ¬ btw 0 n 60 ∨ ¬ btw 0 part 1 ∨ fuN s = 0 then NOI else lowS (alS (goN s n.toNat)) (cnN (fuN s) 6 : Int) part
theorem cn_pos {s : Nat → Int} (hG : InvG s) (h : fuN s ≠ 0) : 0 < cnN (fuN s) 6 := by
  rcases Nat.eq_zero_or_pos (cnN (fuN s) 6) with e | e
  · exact absurd (cn0 ⟨fuN s, fuN_lt hG.2.2.1.1.2⟩ e) h
  · exact e
theorem sm_in {g : Nat → Int} {k : Int} : ∀ n : Nat, (∀ b, b < n → -k ≤ g b ∧ g b ≤ k) → -k * (n : Int) ≤ sm g n ∧ sm g n ≤ k * (n : Int)
  | 0, _ => ⟨by simp [sm], by simp [sm]⟩
  | n + 1, h => by
    have h1 := sm_in n (fun b hb => h b (by omega))
    have h2 := h n (by omega)
    rw [sm, Int.natCast_add, Int.mul_add, Int.mul_add]
    omega
theorem alS_in {s : Nat → Int} (hG : InvG s) : -648 ≤ alS s ∧ alS s ≤ 648 := by
  have n29 := hG.2.2.1.1
  have h := sm_in (g := fun b => if s (19 + b) = 0 then syS s b else 0) (k := 108) (s 29).toNat (fun b hb => by
    have := hG.bs (b := b) (by omega)
    show -108 ≤ (if s (19 + b) = 0 then syS s b else 0) ∧ (if s (19 + b) = 0 then syS s b else 0) ≤ 108
    split <;> omega)
  unfold alS
  omega
set_option maxHeartbeats 4000000 in
set_option maxRecDepth 100000 in
theorem l_odds {d : Nat} {h : Hp} {s : Nat → Int} (hL : Lay h) (hG : InvG s) (hf0 : fuN s ≠ 0) {k : Nat} (hk : (k : Int) < s 36) {m p : Int} (hm : inR m) (hp : inR p) : ∀ (n i : Nat), i + n = (s 29).toNat → ∀ (a : Int), a = odS s k m i → ∀ c, Mc c → c 44 = s → Ex (d + 6) none t_X11_odds 0 41 [(1, ((43 : Nat) : Int)), (0, (k : Int)), (0, m), (0, p), (2, a), (9, 0), (0, (i : Int))] [] (wC h c) (fun r h2 => r = some (2, lowS (odS s k m (s 29).toNat) (cnN (fuN s) 6 : Int) p) ∧ ∃ c2, h2 = wC h c2 ∧ Eqk P47 c c2) := by
  intro n
  induction n with
  | zero =>
    intro i hi a ha c hM hs 
    have hG0 := hG
    obtain ⟨hI, hH, ⟨n29, n30, n31, n32, n33, n34, n36⟩, nM⟩ := hG0
    have hcp := cn_pos hG hf0
    have hcl := cnN_le (fuN s) 6
    have hfl := fuN_lt n29.2
    have hod := odS_in (s := s) (k := k) (m := m) i
    have hmk := nM k (by omega)
    refine E_load rfl rfl rfl ?_
    refine E_load rfl rfl rfl ?_
    refine E_getr (c := 12) (r := 44) rfl (hL.lt 43 rfl) (hL.k 43 rfl) rfl hM.c1 ?_
    refine E_const rfl ?_
    refine E_ialn (n := 943) (v := (s 29)) rfl (hL.lt 44 rfl) (hL.k 44 rfl) (hL.l 44 rfl) (by omega) (rdS hs (by omega)) ?_
    refine E_cmp3 rfl (by omega) (fun q1 => ?_) (fun q1 => ?_)
    · refine E_load rfl rfl rfl ?_
      refine E_load rfl rfl rfl ?_
      refine E_V0 (q := 43) (c := 12) (y := 174) rfl rfl (hL.lt 43 rfl) (hL.k 43 rfl) rfl rfl rfl rfl (n_fullN hL hM hs hG) (fun r h2 hq => ?_)
      obtain ⟨rfl, hh⟩ := hq
      subst hh
      refine E_S1 (y := 190) rfl rfl rfl rfl rfl (n_countOf hL hM hs (by omega)) (fun r h2 hq => ?_)
      obtain ⟨rfl, hh⟩ := hq
      subst hh
      refine E_i2l rfl (by omega) ?_
      refine E_load rfl rfl rfl ?_
      refine E_S3 (y := 205) rfl rfl rfl rfl rfl (n_lowest (by omega) (by omega) (by omega)) (fun r h2 hq => ?_)
      obtain ⟨rfl, hh⟩ := hq
      subst hh
      refine E_lret rfl ?_
      exact ⟨by rw [ha, show i = (s 29).toNat by omega], c, rfl, Eqk.nil⟩
    · exfalso; omega
  | succ n ih =>
    intro i hi a ha c hM hs 
    have hG0 := hG
    obtain ⟨hI, hH, ⟨n29, n30, n31, n32, n33, n34, n36⟩, nM⟩ := hG0
    have hcp := cn_pos hG hf0
    have hcl := cnN_le (fuN s) 6
    have hfl := fuN_lt n29.2
    have hod := odS_in (s := s) (k := k) (m := m) i
    have hmk := nM k (by omega)
    refine E_load rfl rfl rfl ?_
    refine E_load rfl rfl rfl ?_
    refine E_getr (c := 12) (r := 44) rfl (hL.lt 43 rfl) (hL.k 43 rfl) rfl hM.c1 ?_
    refine E_const rfl ?_
    refine E_ialn (n := 943) (v := (s 29)) rfl (hL.lt 44 rfl) (hL.k 44 rfl) (hL.l 44 rfl) (by omega) (rdS hs (by omega)) ?_
    refine E_cmp3 rfl (by omega) (fun q1 => ?_) (fun q1 => ?_)
    · exfalso; omega
    · have hbs := hG.bs (b := i) (by omega)
      have hcl2 := clI_in (x := s (25 + k) + syS s i)
      have heb := (hI i (by omega)).2.2.2.1
      refine E_load rfl rfl rfl ?_
      refine E_load rfl rfl rfl ?_
      refine E_getr (c := 12) (r := 44) rfl (hL.lt 43 rfl) (hL.k 43 rfl) rfl hM.c1 ?_
      refine E_const rfl ?_
      refine E_load rfl rfl rfl ?_
      refine E_add rfl ?_
      refine E_ialn (n := 943) (v := (s ((19 + i)))) rfl (hL.lt 44 rfl) (hL.k 44 rfl) (hL.l 44 rfl) (by omega) (rdS hs (by omega)) ?_
      refine E_if1 rfl (by omega) (fun q2 => ?_) (fun q2 => ?_)
      · refine E_lcon rfl ?_
        refine E_ladd rfl ?_
        refine E_store rfl rfl rfl ?_
        refine E_iinc rfl rfl rfl ?_
        refine E_goto rfl ?_
        refine (ih (i + 1) (by omega) _ (by rw [ha, odS, if_neg (fun z => by have z1 := z.1; omega), Int.add_zero]) c hM hs).mono ?_
        rintro r hE ⟨e1, c9, e2, e3⟩
        exact ⟨e1, c9, e2, Eqk.trans Eqk.nil e3⟩
      · refine E_load rfl rfl rfl ?_
        refine E_getr (c := 12) (r := 44) rfl (hL.lt 43 rfl) (hL.k 43 rfl) rfl hM.c1 ?_
        refine E_const rfl ?_
        refine E_load rfl rfl rfl ?_
        refine E_add rfl ?_
        refine E_ialn (n := 943) (v := (s ((25 + k)))) rfl (hL.lt 44 rfl) (hL.k 44 rfl) (hL.l 44 rfl) (by omega) (rdS hs (by omega)) ?_
        refine E_load rfl rfl rfl ?_
        refine E_load rfl rfl rfl ?_
        refine E_V1 (q := 43) (c := 12) (y := 167) rfl rfl (hL.lt 43 rfl) (hL.k 43 rfl) rfl rfl rfl rfl (n_saysOf hL hM hs (by omega) hI hH) (fun r h2 hq => ?_)
        obtain ⟨rfl, c_1, hh, hE0_1⟩ := hq
        subst hh
        have hE_1 : Eqk P47 c c_1 := hE0_1
        have hM_1 : Mc c_1 := hM.of (hE0_1.row 43 (fun _ => rfl))
        have hs_1 : c_1 44 = s := (hE0_1.row 44 (fun _ => rfl)).trans hs
        refine E_add rfl ?_
        refine E_const rfl ?_
        refine E_const rfl ?_
        refine E_S3 (y := 140) rfl rfl rfl rfl rfl (m_within (by omega) (by omega) (by omega)) (fun r h2 hq => ?_)
        obtain ⟨rfl, hh⟩ := hq
        subst hh
        refine E_load rfl rfl rfl ?_
        refine E_cmp2 rfl (by omega) (fun q3 => ?_) (fun q3 => ?_)
        · refine E_lcon rfl ?_
          refine E_ladd rfl ?_
          refine E_store rfl rfl rfl ?_
          refine E_iinc rfl rfl rfl ?_
          refine E_goto rfl ?_
          refine (ih (i + 1) (by omega) _ (by rw [ha, odS, if_neg (fun z => by have z1 := z.2; omega), Int.add_zero]) c_1 hM_1 hs_1).mono ?_
          rintro r hE ⟨e1, c9, e2, e3⟩
          exact ⟨e1, c9, e2, Eqk.trans hE_1 e3⟩
        · refine E_lcon rfl ?_
          refine E_goto rfl ?_
          refine E_ladd rfl ?_
          refine E_store rfl rfl rfl ?_
          refine E_iinc rfl rfl rfl ?_
          refine E_goto rfl ?_
          refine (ih (i + 1) (by omega) _ (by rw [ha, odS, if_pos ⟨by omega, by omega⟩]) c_1 hM_1 hs_1).mono ?_
          rintro r hE ⟨e1, c9, e2, e3⟩
          exact ⟨e1, c9, e2, Eqk.trans hE_1 e3⟩
set_option maxHeartbeats 4000000 in
set_option maxRecDepth 100000 in
theorem n_odds {d : Nat} {h : Hp} {c : Nat → Nat → Int} {s : Nat → Int} (hL : Lay h) (hM : Mc c) (hs : c 44 = s) (hA : Inv s) {x : Int} (hx : inR x) {m : Int} (hm : inR m) {p : Int} (hp : inR p) : Ok (d + 6) 206 [(1, ((43 : Nat) : Int)), (0, x), (0, m), (0, p)] (wC h c) (fun r h2 => r = some (2, a_odds s x m p) ∧ ∃ c2, h2 = wC h c2 ∧ Eqk PQ c c2) := by
  show Ex _ none t_X11_odds 0 0 _ [] (wC h c) _
  have hAA := hA
  have hG := hA.G
  obtain ⟨hI, hH, ⟨⟨n29, n30, n31, n32, n33, n34, n36⟩, nM⟩, hX⟩ := hA
  refine E_load rfl rfl rfl ?_
  refine E_load rfl rfl rfl ?_
  refine E_V1 (q := 43) (c := 12) (y := 144) rfl rfl (hL.lt 43 rfl) (hL.k 43 rfl) rfl rfl rfl rfl (n_isGuest hL hM hs (by omega) (by omega)) (fun r h2 hq => ?_)
  obtain ⟨rfl, hh⟩ := hq
  subst hh
  refine E_if0 rfl (bI_R _) (fun q1 => ?_) (fun q1 => ?_)
  · replace q1 := bI_z q1
    refine E_lcon rfl ?_
    refine E_lret rfl ?_
    refine qrylL ?_ Eqk.nil
    unfold a_odds
    try simp only [Int.toNat_natCast]
    first | (exfalso; omega) | (rw [if_pos (by omega)]; done) | (rw [if_neg (by omega), if_pos (by omega)]; done) | (rw [if_neg (by omega)]; done) | (rw [if_neg (by omega), if_neg (by omega), if_pos (by omega)]; done) | (rw [if_neg (by omega), if_neg (by omega)]; done) | (rw [if_neg (by omega), if_neg (by omega), if_neg (by omega), if_pos (by omega)]; done) | (rw [if_neg (by omega), if_neg (by omega), if_neg (by omega)]; done) | (rw [if_neg (by omega), if_neg (by omega), if_neg (by omega), if_neg (by omega), if_pos (by omega)]; done) | (rw [if_neg (by omega), if_neg (by omega), if_neg (by omega), if_neg (by omega)]; done) | (rw [if_neg (by omega), if_neg (by omega), if_neg (by omega), if_neg (by omega), if_neg (by omega), if_pos (by omega)]; done) | (rw [if_neg (by omega), if_neg (by omega), if_neg (by omega), if_neg (by omega), if_neg (by omega)]; done) | (rw [if_neg (by omega), if_neg (by omega), if_neg (by omega), if_neg (by omega), if_neg (by omega), if_neg (by omega), if_pos (by omega)]; done) | (rw [if_neg (by omega), if_neg (by omega), if_neg (by omega), if_neg (by omega), if_neg (by omega), if_neg (by omega)]; done)
  · replace q1 := bI_nz q1
    obtain ⟨k, rfl⟩ := Int.eq_ofNat_of_zero_le q1.1
    refine E_load rfl rfl rfl ?_
    refine E_S1 (y := 145) rfl rfl rfl rfl rfl (m_isMood (by omega)) (fun r h2 hq => ?_)
    obtain ⟨rfl, hh⟩ := hq
    subst hh
    refine E_if0 rfl (bI_R _) (fun q2 => ?_) (fun q2 => ?_)
    · replace q2 := bI_z q2
      refine E_lcon rfl ?_
      refine E_lret rfl ?_
      refine qrylL ?_ Eqk.nil
      unfold a_odds
      try simp only [Int.toNat_natCast]
      first | (exfalso; omega) | (rw [if_pos (by omega)]; done) | (rw [if_neg (by omega), if_pos (by omega)]; done) | (rw [if_neg (by omega)]; done) | (rw [if_neg (by omega), if_neg (by omega), if_pos (by omega)]; done) | (rw [if_neg (by omega), if_neg (by omega)]; done) | (rw [if_neg (by omega), if_neg (by omega), if_neg (by omega), if_pos (by omega)]; done) | (rw [if_neg (by omega), if_neg (by omega), if_neg (by omega)]; done) | (rw [if_neg (by omega), if_neg (by omega), if_neg (by omega), if_neg (by omega), if_pos (by omega)]; done) | (rw [if_neg (by omega), if_neg (by omega), if_neg (by omega), if_neg (by omega)]; done) | (rw [if_neg (by omega), if_neg (by omega), if_neg (by omega), if_neg (by omega), if_neg (by omega), if_pos (by omega)]; done) | (rw [if_neg (by omega), if_neg (by omega), if_neg (by omega), if_neg (by omega), if_neg (by omega)]; done) | (rw [if_neg (by omega), if_neg (by omega), if_neg (by omega), if_neg (by omega), if_neg (by omega), if_neg (by omega), if_pos (by omega)]; done) | (rw [if_neg (by omega), if_neg (by omega), if_neg (by omega), if_neg (by omega), if_neg (by omega), if_neg (by omega)]; done)
    · replace q2 := bI_nz q2
      refine E_load rfl rfl rfl ?_
      refine E_const rfl ?_
      refine E_const rfl ?_
      refine E_S3 (y := 139) rfl rfl rfl rfl rfl (m_in (by omega) (by omega) (by omega)) (fun r h2 hq => ?_)
      obtain ⟨rfl, hh⟩ := hq
      subst hh
      refine E_if0 rfl (bI_R _) (fun q3 => ?_) (fun q3 => ?_)
      · replace q3 := bI_z q3
        refine E_lcon rfl ?_
        refine E_lret rfl ?_
        refine qrylL ?_ Eqk.nil
        unfold a_odds
        try simp only [Int.toNat_natCast]
        first | (exfalso; omega) | (rw [if_pos (by omega)]; done) | (rw [if_neg (by omega), if_pos (by omega)]; done) | (rw [if_neg (by omega)]; done) | (rw [if_neg (by omega), if_neg (by omega), if_pos (by omega)]; done) | (rw [if_neg (by omega), if_neg (by omega)]; done) | (rw [if_neg (by omega), if_neg (by omega), if_neg (by omega), if_pos (by omega)]; done) | (rw [if_neg (by omega), if_neg (by omega), if_neg (by omega)]; done) | (rw [if_neg (by omega), if_neg (by omega), if_neg (by omega), if_neg (by omega), if_pos (by omega)]; done) | (rw [if_neg (by omega), if_neg (by omega), if_neg (by omega), if_neg (by omega)]; done) | (rw [if_neg (by omega), if_neg (by omega), if_neg (by omega), if_neg (by omega), if_neg (by omega), if_pos (by omega)]; done) | (rw [if_neg (by omega), if_neg (by omega), if_neg (by omega), if_neg (by omega), if_neg (by omega)]; done) | (rw [if_neg (by omega), if_neg (by omega), if_neg (by omega), if_neg (by omega), if_neg (by omega), if_neg (by omega), if_pos (by omega)]; done) | (rw [if_neg (by omega), if_neg (by omega), if_neg (by omega), if_neg (by omega), if_neg (by omega), if_neg (by omega)]; done)
      · replace q3 := bI_nz q3
        refine E_load rfl rfl rfl ?_
        refine E_V0 (q := 43) (c := 12) (y := 174) rfl rfl (hL.lt 43 rfl) (hL.k 43 rfl) rfl rfl rfl rfl (n_fullN hL hM hs hG) (fun r h2 hq => ?_)
        obtain ⟨rfl, hh⟩ := hq
        subst hh
        have hfl := fuN_lt n29.2
        refine E_if1 rfl (by omega) (fun q4 => ?_) (fun q4 => ?_)
        · refine E_lcon rfl ?_
          refine E_store rfl rfl rfl ?_
          refine E_const rfl ?_
          refine E_store rfl rfl rfl ?_
          refine (l_odds hL hG (by omega) (by omega) hm hp _ 0 (Nat.zero_add _) 0 rfl c hM hs).mono ?_
          rintro r hE ⟨rfl, c9, rfl, e3⟩
          refine qrylL ?_ (Eqk.trans Eqk.nil (e3.mono P47_PQ))
          unfold a_odds
          try simp only [Int.toNat_natCast]
          rw [if_neg (by omega)]
        · refine E_lcon rfl ?_
          refine E_lret rfl ?_
          refine qrylL ?_ Eqk.nil
          unfold a_odds
          try simp only [Int.toNat_natCast]
          first | (exfalso; omega) | (rw [if_pos (by omega)]; done) | (rw [if_neg (by omega), if_pos (by omega)]; done) | (rw [if_neg (by omega)]; done) | (rw [if_neg (by omega), if_neg (by omega), if_pos (by omega)]; done) | (rw [if_neg (by omega), if_neg (by omega)]; done) | (rw [if_neg (by omega), if_neg (by omega), if_neg (by omega), if_pos (by omega)]; done) | (rw [if_neg (by omega), if_neg (by omega), if_neg (by omega)]; done) | (rw [if_neg (by omega), if_neg (by omega), if_neg (by omega), if_neg (by omega), if_pos (by omega)]; done) | (rw [if_neg (by omega), if_neg (by omega), if_neg (by omega), if_neg (by omega)]; done) | (rw [if_neg (by omega), if_neg (by omega), if_neg (by omega), if_neg (by omega), if_neg (by omega), if_pos (by omega)]; done) | (rw [if_neg (by omega), if_neg (by omega), if_neg (by omega), if_neg (by omega), if_neg (by omega)]; done) | (rw [if_neg (by omega), if_neg (by omega), if_neg (by omega), if_neg (by omega), if_neg (by omega), if_neg (by omega), if_pos (by omega)]; done) | (rw [if_neg (by omega), if_neg (by omega), if_neg (by omega), if_neg (by omega), if_neg (by omega), if_neg (by omega)]; done)
set_option maxHeartbeats 4000000 in
set_option maxRecDepth 100000 in
theorem n_mean {d : Nat} {h : Hp} {c : Nat → Nat → Int} {s : Nat → Int} (hL : Lay h) (hM : Mc c) (hs : c 44 = s) (hA : Inv s) {n : Int} (hn : inR n) {p : Int} (hp : inR p) : Ok (d + 6) 207 [(1, ((43 : Nat) : Int)), (0, n), (0, p)] (wC h c) (fun r h2 => r = some (2, a_mean s n p) ∧ ∃ c2, h2 = wC h c2 ∧ Eqk PQ c c2) := by
  show Ex _ none t_X11_mean 0 0 _ [] (wC h c) _
  have hAA := hA
  have hG := hA.G
  obtain ⟨hI, hH, ⟨⟨n29, n30, n31, n32, n33, n34, n36⟩, nM⟩, hX⟩ := hA
  refine E_load rfl rfl rfl ?_
  refine E_const rfl ?_
  refine E_const rfl ?_
  refine E_S3 (y := 139) rfl rfl rfl rfl rfl (m_in (by omega) (by omega) (by omega)) (fun r h2 hq => ?_)
  obtain ⟨rfl, hh⟩ := hq
  subst hh
  refine E_if0 rfl (bI_R _) (fun q1 => ?_) (fun q1 => ?_)
  · replace q1 := bI_z q1
    refine E_lcon rfl ?_
    refine E_lret rfl ?_
    refine qrylL ?_ (Eqk.PQ_of Eqk.nil (hs.trans hs.symm))
    unfold a_mean
    try simp only [Int.toNat_natCast]
    first | (exfalso; omega) | (rw [if_pos (by omega)]; done) | (rw [if_neg (by omega), if_pos (by omega)]; done) | (rw [if_neg (by omega)]; done) | (rw [if_neg (by omega), if_neg (by omega), if_pos (by omega)]; done) | (rw [if_neg (by omega), if_neg (by omega)]; done) | (rw [if_neg (by omega), if_neg (by omega), if_neg (by omega), if_pos (by omega)]; done) | (rw [if_neg (by omega), if_neg (by omega), if_neg (by omega)]; done) | (rw [if_neg (by omega), if_neg (by omega), if_neg (by omega), if_neg (by omega), if_pos (by omega)]; done) | (rw [if_neg (by omega), if_neg (by omega), if_neg (by omega), if_neg (by omega)]; done) | (rw [if_neg (by omega), if_neg (by omega), if_neg (by omega), if_neg (by omega), if_neg (by omega), if_pos (by omega)]; done) | (rw [if_neg (by omega), if_neg (by omega), if_neg (by omega), if_neg (by omega), if_neg (by omega)]; done) | (rw [if_neg (by omega), if_neg (by omega), if_neg (by omega), if_neg (by omega), if_neg (by omega), if_neg (by omega), if_pos (by omega)]; done) | (rw [if_neg (by omega), if_neg (by omega), if_neg (by omega), if_neg (by omega), if_neg (by omega), if_neg (by omega)]; done)
  · replace q1 := bI_nz q1
    obtain ⟨m, rfl⟩ := Int.eq_ofNat_of_zero_le q1.1
    have hG2 := hG.goN m
    have hal := alS_in hG2
    refine E_load rfl rfl rfl ?_
    refine E_const rfl ?_
    refine E_const rfl ?_
    refine E_S3 (y := 139) rfl rfl rfl rfl rfl (m_in (by omega) (by omega) (by omega)) (fun r h2 hq => ?_)
    obtain ⟨rfl, hh⟩ := hq
    subst hh
    refine E_if0 rfl (bI_R _) (fun q2 => ?_) (fun q2 => ?_)
    · replace q2 := bI_z q2
      refine E_lcon rfl ?_
      refine E_lret rfl ?_
      refine qrylL ?_ (Eqk.PQ_of Eqk.nil (hs.trans hs.symm))
      unfold a_mean
      try simp only [Int.toNat_natCast]
      first | (exfalso; omega) | (rw [if_pos (by omega)]; done) | (rw [if_neg (by omega), if_pos (by omega)]; done) | (rw [if_neg (by omega)]; done) | (rw [if_neg (by omega), if_neg (by omega), if_pos (by omega)]; done) | (rw [if_neg (by omega), if_neg (by omega)]; done) | (rw [if_neg (by omega), if_neg (by omega), if_neg (by omega), if_pos (by omega)]; done) | (rw [if_neg (by omega), if_neg (by omega), if_neg (by omega)]; done) | (rw [if_neg (by omega), if_neg (by omega), if_neg (by omega), if_neg (by omega), if_pos (by omega)]; done) | (rw [if_neg (by omega), if_neg (by omega), if_neg (by omega), if_neg (by omega)]; done) | (rw [if_neg (by omega), if_neg (by omega), if_neg (by omega), if_neg (by omega), if_neg (by omega), if_pos (by omega)]; done) | (rw [if_neg (by omega), if_neg (by omega), if_neg (by omega), if_neg (by omega), if_neg (by omega)]; done) | (rw [if_neg (by omega), if_neg (by omega), if_neg (by omega), if_neg (by omega), if_neg (by omega), if_neg (by omega), if_pos (by omega)]; done) | (rw [if_neg (by omega), if_neg (by omega), if_neg (by omega), if_neg (by omega), if_neg (by omega), if_neg (by omega)]; done)
    · replace q2 := bI_nz q2
      refine E_load rfl rfl rfl ?_
      refine E_V0 (q := 43) (c := 12) (y := 174) rfl rfl (hL.lt 43 rfl) (hL.k 43 rfl) rfl rfl rfl rfl (n_fullN hL hM hs hG) (fun r h2 hq => ?_)
      obtain ⟨rfl, hh⟩ := hq
      subst hh
      have hfl := fuN_lt n29.2
      refine E_if1 rfl (by omega) (fun q3 => ?_) (fun q3 => ?_)
      · have hcp := cn_pos hG (by omega)
        have hcl := cnN_le (fuN s) 6
        refine E_load rfl rfl rfl ?_
        refine E_V0 (q := 43) (c := 12) (y := 147) rfl rfl (hL.lt 43 rfl) (hL.k 43 rfl) rfl rfl rfl rfl (n_keeps hL hM hs) (fun r h2 hq => ?_)
        obtain ⟨rfl, c_1, hh, h46_1, hE0_1⟩ := hq
        subst hh
        have hE_1 : Eqk PS c c_1 := hE0_1.mono P46_PS
        have hM_1 : Mc c_1 := hM.of (hE0_1.row 43 (fun _ => rfl))
        have hs_1 : c_1 44 = s := (hE0_1.row 44 (fun _ => rfl)).trans hs
        obtain ⟨f46, hr46_1⟩ : ∃ f, c_1 46 = f := ⟨_, rfl⟩
        have h46 : ∀ k, k < 29 → f46 k = s k := fun k hk => by rw [← hr46_1]; exact h46_1 k hk
        refine E_load rfl rfl rfl ?_
        refine E_load rfl rfl rfl ?_
        refine E_V1 (q := 43) (c := 12) (y := 183) rfl rfl (hL.lt 43 rfl) (hL.k 43 rfl) rfl rfl rfl rfl (n_goesOn hL hM_1 hs_1 hG (by omega)) (fun r h2 hq => ?_)
        obtain ⟨rfl, c_2, hh, hs_2, hE0_2⟩ := hq
        subst hh
        have hE_2 : Eqk PS c_1 c_2 := hE0_2.mono P44_PS
        have hM_2 : Mc c_2 := hM_1.of (hE0_2.row 43 (fun _ => rfl))
        have hr46_2 : c_2 46 = f46 := (hE0_2.row 46 (fun _ => rfl)).trans hr46_1
        refine E_load rfl rfl rfl ?_
        refine E_V0 (q := 43) (c := 12) (y := 175) rfl rfl (hL.lt 43 rfl) (hL.k 43 rfl) rfl rfl rfl rfl (n_allSay hL hM_2 hs_2 hG2) (fun r h2 hq => ?_)
        obtain ⟨rfl, c_3, hh, hE0_3⟩ := hq
        subst hh
        have hE_3 : Eqk PS c_2 c_3 := hE0_3.mono P47_PS
        have hM_3 : Mc c_3 := hM_2.of (hE0_3.row 43 (fun _ => rfl))
        have hs_3 : c_3 44 = goN s m := (hE0_3.row 44 (fun _ => rfl)).trans hs_2
        have hr46_3 : c_3 46 = f46 := (hE0_3.row 46 (fun _ => rfl)).trans hr46_2
        refine E_store rfl rfl rfl ?_
        refine E_load rfl rfl rfl ?_
        refine E_V0 (q := 43) (c := 12) (y := 148) rfl rfl (hL.lt 43 rfl) (hL.k 43 rfl) rfl rfl rfl rfl (n_goesBack (s0 := s) hL hM_3 hs_3 (fun k hk => by rw [hr46_3]; exact h46 k hk) (fun k hk => goN_hi hG hk _)) (fun r h2 hq => ?_)
        obtain ⟨rfl, c_4, hh, hs_4, hE0_4⟩ := hq
        subst hh
        have hE_4 : Eqk PS c_3 c_4 := hE0_4.mono P44_PS
        have hM_4 : Mc c_4 := hM_3.of (hE0_4.row 43 (fun _ => rfl))
        have hr46_4 : c_4 46 = f46 := (hE0_4.row 46 (fun _ => rfl)).trans hr46_3
        refine E_load rfl rfl rfl ?_
        refine E_i2l rfl (by omega) ?_
        refine E_load rfl rfl rfl ?_
        refine E_V0 (q := 43) (c := 12) (y := 174) rfl rfl (hL.lt 43 rfl) (hL.k 43 rfl) rfl rfl rfl rfl (n_fullN hL hM_4 hs_4 hG) (fun r h2 hq => ?_)
        obtain ⟨rfl, hh⟩ := hq
        subst hh
        refine E_S1 (y := 190) rfl rfl rfl rfl rfl (n_countOf hL hM_4 hs_4 (by omega)) (fun r h2 hq => ?_)
        obtain ⟨rfl, hh⟩ := hq
        subst hh
        refine E_i2l rfl (by omega) ?_
        refine E_load rfl rfl rfl ?_
        refine E_S3 (y := 205) rfl rfl rfl rfl rfl (n_lowest (by omega) (by omega) (by omega)) (fun r h2 hq => ?_)
        obtain ⟨rfl, hh⟩ := hq
        subst hh
        refine E_lret rfl ?_
        refine qrylL ?_ (Eqk.PQ_of (hE_1.trans (hE_2.trans (hE_3.trans hE_4))) (hs_4.trans hs.symm))
        unfold a_mean
        try simp only [Int.toNat_natCast]
        first | (exfalso; omega) | (rw [if_pos (by omega)]; done) | (rw [if_neg (by omega), if_pos (by omega)]; done) | (rw [if_neg (by omega)]; done) | (rw [if_neg (by omega), if_neg (by omega), if_pos (by omega)]; done) | (rw [if_neg (by omega), if_neg (by omega)]; done) | (rw [if_neg (by omega), if_neg (by omega), if_neg (by omega), if_pos (by omega)]; done) | (rw [if_neg (by omega), if_neg (by omega), if_neg (by omega)]; done) | (rw [if_neg (by omega), if_neg (by omega), if_neg (by omega), if_neg (by omega), if_pos (by omega)]; done) | (rw [if_neg (by omega), if_neg (by omega), if_neg (by omega), if_neg (by omega)]; done) | (rw [if_neg (by omega), if_neg (by omega), if_neg (by omega), if_neg (by omega), if_neg (by omega), if_pos (by omega)]; done) | (rw [if_neg (by omega), if_neg (by omega), if_neg (by omega), if_neg (by omega), if_neg (by omega)]; done) | (rw [if_neg (by omega), if_neg (by omega), if_neg (by omega), if_neg (by omega), if_neg (by omega), if_neg (by omega), if_pos (by omega)]; done) | (rw [if_neg (by omega), if_neg (by omega), if_neg (by omega), if_neg (by omega), if_neg (by omega), if_neg (by omega)]; done)
      · refine E_lcon rfl ?_
        refine E_lret rfl ?_
        refine qrylL ?_ (Eqk.PQ_of Eqk.nil (hs.trans hs.symm))
        unfold a_mean
        try simp only [Int.toNat_natCast]
        first | (exfalso; omega) | (rw [if_pos (by omega)]; done) | (rw [if_neg (by omega), if_pos (by omega)]; done) | (rw [if_neg (by omega)]; done) | (rw [if_neg (by omega), if_neg (by omega), if_pos (by omega)]; done) | (rw [if_neg (by omega), if_neg (by omega)]; done) | (rw [if_neg (by omega), if_neg (by omega), if_neg (by omega), if_pos (by omega)]; done) | (rw [if_neg (by omega), if_neg (by omega), if_neg (by omega)]; done) | (rw [if_neg (by omega), if_neg (by omega), if_neg (by omega), if_neg (by omega), if_pos (by omega)]; done) | (rw [if_neg (by omega), if_neg (by omega), if_neg (by omega), if_neg (by omega)]; done) | (rw [if_neg (by omega), if_neg (by omega), if_neg (by omega), if_neg (by omega), if_neg (by omega), if_pos (by omega)]; done) | (rw [if_neg (by omega), if_neg (by omega), if_neg (by omega), if_neg (by omega), if_neg (by omega)]; done) | (rw [if_neg (by omega), if_neg (by omega), if_neg (by omega), if_neg (by omega), if_neg (by omega), if_neg (by omega), if_pos (by omega)]; done) | (rw [if_neg (by omega), if_neg (by omega), if_neg (by omega), if_neg (by omega), if_neg (by omega), if_neg (by omega)]; done)
