/-! MATCH of the class: the table of sets -/
def lwN (x : Nat) : Nat := if x = 0 then 32 else if x % 2 = 1 then 0 else if x % 4 = 2 then 1 else if x % 8 = 4 then 2 else if x % 16 = 8 then 3 else if x % 32 = 16 then 4 else 5
theorem lw0 : ∀ x : Fin 64, x.val ≠ 0 → lwN x.val < 6 ∧ bt x.val (lwN x.val) = 1 ∧ ∀ j : Fin 6, j.val < lwN x.val → bt x.val j.val = 0 := by decide +kernel
theorem lwB {x : Nat} (hx : x < 64) (h0 : x ≠ 0) : lwN x < 6 ∧ bt x (lwN x) = 1 ∧ ∀ j, j < lwN x → bt x j = 0 := by
  obtain ⟨h1, h2, h3⟩ := lw0 ⟨x, hx⟩ h0
  exact ⟨h1, h2, fun j hj => h3 ⟨j, Nat.lt_trans hj h1⟩ hj⟩
theorem ntz0 : ∀ x : Fin 64, mBit 5 (mBit 7 ((x.val : Nat) : Int) (-1)) (((x.val : Nat) : Int) - 1) = if x.val = 0 then -1 else ((2 ^ lwN x.val - 1 : Nat) : Int) := by decide +kernel
theorem rst0 : ∀ x : Fin 64, mBit 5 ((x.val : Nat) : Int) (((x.val : Nat) : Int) - 1) = if x.val = 0 then 0 else ((x.val - 2 ^ lwN x.val : Nat) : Int) := by decide +kernel
theorem lwC {x : Nat} (hx : x < 64) : x = 0 ∨ (x ≠ 0 ∧ lwN x = 0) ∨ (x ≠ 0 ∧ lwN x = 1) ∨ (x ≠ 0 ∧ lwN x = 2) ∨ (x ≠ 0 ∧ lwN x = 3) ∨ (x ≠ 0 ∧ lwN x = 4) ∨ (x ≠ 0 ∧ lwN x = 5) := by
  by_cases h0 : x = 0
  · exact Or.inl h0
  · have := (lwB hx h0).1
    omega
theorem clr0 : ∀ x : Fin 64, ∀ b : Fin 6, mBit 5 ((x.val : Nat) : Int) (mBit 7 (mBit 8 1 ((b.val : Nat) : Int)) (-1)) = ((if bt x.val b.val = 1 then x.val - 2 ^ b.val else x.val : Nat) : Int) := by decide +kernel
theorem clrB {x b : Nat} (hx : x < 64) (hb : b < 6) : mBit 5 (x : Int) (mBit 7 (mBit 8 1 (b : Int)) (-1)) = ((if bt x b = 1 then x - 2 ^ b else x : Nat) : Int) := clr0 ⟨x, hx⟩ ⟨b, hb⟩
set_option maxHeartbeats 4000000 in
set_option maxRecDepth 100000 in
theorem j_ntz {d : Nat} {h : Hp} {c : Nat → Nat → Int} {x : Nat} (hx : x < 64) : Ok (d) 227 [(0, (x : Int))] (wC h c) (fun r h2 => r = some (0, ((lwN x : Nat) : Int)) ∧ h2 = wC h c) := by
  show Ex _ none t_J6_numberOfTrailingZeros_0f7a4 0 0 _ [] (wC h c) _
  have hy := ntz0 ⟨x, hx⟩
  simp only at hy
  rcases lwC hx with e | e | e | e | e | e | e
  · refine E_load rfl rfl rfl ?_
    refine E_const rfl ?_
    refine E_bit (z := (mBit 7 ((x : Nat) : Int) (-1))) rfl rfl rfl ?_
    refine E_load rfl rfl rfl ?_
    refine E_const rfl ?_
    refine E_sub rfl ?_
    refine E_bit (z := (-1)) rfl rfl (hy.trans (if_pos e)) ?_
    refine E_store rfl rfl rfl ?_
    refine E_load rfl rfl rfl ?_
    refine E_if4 rfl (by omega) (fun q1 => ?_) (fun q1 => ?_)
    · exfalso; omega
    · refine E_load rfl rfl rfl ?_
      refine E_const rfl ?_
      refine E_bit (z := 32) rfl rfl (by decide +kernel) ?_
      refine E_iret rfl (fun h => absurd h (by decide)) ?_
      exact ⟨by rw [e]; rfl, rfl⟩
  · refine E_load rfl rfl rfl ?_
    refine E_const rfl ?_
    refine E_bit (z := (mBit 7 ((x : Nat) : Int) (-1))) rfl rfl rfl ?_
    refine E_load rfl rfl rfl ?_
    refine E_const rfl ?_
    refine E_sub rfl ?_
    refine E_bit (z := 0) rfl rfl (hy.trans (by rw [if_neg e.1, e.2]; rfl)) ?_
    refine E_store rfl rfl rfl ?_
    refine E_load rfl rfl rfl ?_
    refine E_if4 rfl (by omega) (fun q2 => ?_) (fun q2 => ?_)
    · exfalso; omega
    · refine E_load rfl rfl rfl ?_
      refine E_const rfl ?_
      refine E_bit (z := 0) rfl rfl (by decide +kernel) ?_
      refine E_iret rfl (fun h => absurd h (by decide)) ?_
      exact ⟨by rw [e.2]; rfl, rfl⟩
  · refine E_load rfl rfl rfl ?_
    refine E_const rfl ?_
    refine E_bit (z := (mBit 7 ((x : Nat) : Int) (-1))) rfl rfl rfl ?_
    refine E_load rfl rfl rfl ?_
    refine E_const rfl ?_
    refine E_sub rfl ?_
    refine E_bit (z := 1) rfl rfl (hy.trans (by rw [if_neg e.1, e.2]; rfl)) ?_
    refine E_store rfl rfl rfl ?_
    refine E_load rfl rfl rfl ?_
    refine E_if4 rfl (by omega) (fun q3 => ?_) (fun q3 => ?_)
    · refine E_const rfl ?_
      refine E_store rfl rfl rfl ?_
      refine E_load rfl rfl rfl ?_
      refine E_const rfl ?_
      refine E_cmp5 rfl (by omega) (fun q4 => ?_) (fun q4 => ?_)
      · refine E_load rfl rfl rfl ?_
        refine E_const rfl ?_
        refine E_cmp5 rfl (by omega) (fun q5 => ?_) (fun q5 => ?_)
        · refine E_load rfl rfl rfl ?_
          refine E_const rfl ?_
          refine E_cmp5 rfl (by omega) (fun q6 => ?_) (fun q6 => ?_)
          · refine E_load rfl rfl rfl ?_
            refine E_const rfl ?_
            refine E_cmp5 rfl (by omega) (fun q7 => ?_) (fun q7 => ?_)
            · refine E_load rfl rfl rfl ?_
              refine E_load rfl rfl rfl ?_
              refine E_const rfl ?_
              refine E_bit (z := 0) rfl rfl (by decide +kernel) ?_
              refine E_add rfl ?_
              refine E_iret rfl (fun h => absurd h (by decide)) ?_
              exact ⟨by rw [e.2]; rfl, rfl⟩
            · exfalso; omega
          · exfalso; omega
        · exfalso; omega
      · exfalso; omega
    · exfalso; omega
  · refine E_load rfl rfl rfl ?_
    refine E_const rfl ?_
    refine E_bit (z := (mBit 7 ((x : Nat) : Int) (-1))) rfl rfl rfl ?_
    refine E_load rfl rfl rfl ?_
    refine E_const rfl ?_
    refine E_sub rfl ?_
    refine E_bit (z := 3) rfl rfl (hy.trans (by rw [if_neg e.1, e.2]; rfl)) ?_
    refine E_store rfl rfl rfl ?_
    refine E_load rfl rfl rfl ?_
    refine E_if4 rfl (by omega) (fun q8 => ?_) (fun q8 => ?_)
    · refine E_const rfl ?_
      refine E_store rfl rfl rfl ?_
      refine E_load rfl rfl rfl ?_
      refine E_const rfl ?_
      refine E_cmp5 rfl (by omega) (fun q9 => ?_) (fun q9 => ?_)
      · refine E_load rfl rfl rfl ?_
        refine E_const rfl ?_
        refine E_cmp5 rfl (by omega) (fun q10 => ?_) (fun q10 => ?_)
        · refine E_load rfl rfl rfl ?_
          refine E_const rfl ?_
          refine E_cmp5 rfl (by omega) (fun q11 => ?_) (fun q11 => ?_)
          · refine E_load rfl rfl rfl ?_
            refine E_const rfl ?_
            refine E_cmp5 rfl (by omega) (fun q12 => ?_) (fun q12 => ?_)
            · refine E_load rfl rfl rfl ?_
              refine E_load rfl rfl rfl ?_
              refine E_const rfl ?_
              refine E_bit (z := 1) rfl rfl (by decide +kernel) ?_
              refine E_add rfl ?_
              refine E_iret rfl (fun h => absurd h (by decide)) ?_
              exact ⟨by rw [e.2]; rfl, rfl⟩
            · exfalso; omega
          · exfalso; omega
        · exfalso; omega
      · exfalso; omega
    · exfalso; omega
  · refine E_load rfl rfl rfl ?_
    refine E_const rfl ?_
    refine E_bit (z := (mBit 7 ((x : Nat) : Int) (-1))) rfl rfl rfl ?_
    refine E_load rfl rfl rfl ?_
    refine E_const rfl ?_
    refine E_sub rfl ?_
    refine E_bit (z := 7) rfl rfl (hy.trans (by rw [if_neg e.1, e.2]; rfl)) ?_
    refine E_store rfl rfl rfl ?_
    refine E_load rfl rfl rfl ?_
    refine E_if4 rfl (by omega) (fun q13 => ?_) (fun q13 => ?_)
    · refine E_const rfl ?_
      refine E_store rfl rfl rfl ?_
      refine E_load rfl rfl rfl ?_
      refine E_const rfl ?_
      refine E_cmp5 rfl (by omega) (fun q14 => ?_) (fun q14 => ?_)
      · refine E_load rfl rfl rfl ?_
        refine E_const rfl ?_
        refine E_cmp5 rfl (by omega) (fun q15 => ?_) (fun q15 => ?_)
        · refine E_load rfl rfl rfl ?_
          refine E_const rfl ?_
          refine E_cmp5 rfl (by omega) (fun q16 => ?_) (fun q16 => ?_)
          · refine E_load rfl rfl rfl ?_
            refine E_const rfl ?_
            refine E_cmp5 rfl (by omega) (fun q17 => ?_) (fun q17 => ?_)
            · exfalso; omega
            · refine E_iinc rfl rfl rfl ?_
              refine E_load rfl rfl rfl ?_
              refine E_const rfl ?_
              refine E_bit (z := 1) rfl rfl (by decide +kernel) ?_
              refine E_store rfl rfl rfl ?_
              refine E_load rfl rfl rfl ?_
              refine E_load rfl rfl rfl ?_
              refine E_const rfl ?_
              refine E_bit (z := 0) rfl rfl (by decide +kernel) ?_
              refine E_add rfl ?_
              refine E_iret rfl (fun h => absurd h (by decide)) ?_
              exact ⟨by rw [e.2]; rfl, rfl⟩
          · exfalso; omega
        · exfalso; omega
      · exfalso; omega
    · exfalso; omega
  · refine E_load rfl rfl rfl ?_
    refine E_const rfl ?_
    refine E_bit (z := (mBit 7 ((x : Nat) : Int) (-1))) rfl rfl rfl ?_
    refine E_load rfl rfl rfl ?_
    refine E_const rfl ?_
    refine E_sub rfl ?_
    refine E_bit (z := 15) rfl rfl (hy.trans (by rw [if_neg e.1, e.2]; rfl)) ?_
    refine E_store rfl rfl rfl ?_
    refine E_load rfl rfl rfl ?_
    refine E_if4 rfl (by omega) (fun q18 => ?_) (fun q18 => ?_)
    · refine E_const rfl ?_
      refine E_store rfl rfl rfl ?_
      refine E_load rfl rfl rfl ?_
      refine E_const rfl ?_
      refine E_cmp5 rfl (by omega) (fun q19 => ?_) (fun q19 => ?_)
      · refine E_load rfl rfl rfl ?_
        refine E_const rfl ?_
        refine E_cmp5 rfl (by omega) (fun q20 => ?_) (fun q20 => ?_)
        · refine E_load rfl rfl rfl ?_
          refine E_const rfl ?_
          refine E_cmp5 rfl (by omega) (fun q21 => ?_) (fun q21 => ?_)
          · refine E_load rfl rfl rfl ?_
            refine E_const rfl ?_
            refine E_cmp5 rfl (by omega) (fun q22 => ?_) (fun q22 => ?_)
            · exfalso; omega
            · refine E_iinc rfl rfl rfl ?_
              refine E_load rfl rfl rfl ?_
              refine E_const rfl ?_
              refine E_bit (z := 3) rfl rfl (by decide +kernel) ?_
              refine E_store rfl rfl rfl ?_
              refine E_load rfl rfl rfl ?_
              refine E_load rfl rfl rfl ?_
              refine E_const rfl ?_
              refine E_bit (z := 1) rfl rfl (by decide +kernel) ?_
              refine E_add rfl ?_
              refine E_iret rfl (fun h => absurd h (by decide)) ?_
              exact ⟨by rw [e.2]; rfl, rfl⟩
          · exfalso; omega
        · exfalso; omega
      · exfalso; omega
    · exfalso; omega
  · refine E_load rfl rfl rfl ?_
    refine E_const rfl ?_
    refine E_bit (z := (mBit 7 ((x : Nat) : Int) (-1))) rfl rfl rfl ?_
    refine E_load rfl rfl rfl ?_
    refine E_const rfl ?_
    refine E_sub rfl ?_
    refine E_bit (z := 31) rfl rfl (hy.trans (by rw [if_neg e.1, e.2]; rfl)) ?_
    refine E_store rfl rfl rfl ?_
    refine E_load rfl rfl rfl ?_
    refine E_if4 rfl (by omega) (fun q23 => ?_) (fun q23 => ?_)
    · refine E_const rfl ?_
      refine E_store rfl rfl rfl ?_
      refine E_load rfl rfl rfl ?_
      refine E_const rfl ?_
      refine E_cmp5 rfl (by omega) (fun q24 => ?_) (fun q24 => ?_)
      · refine E_load rfl rfl rfl ?_
        refine E_const rfl ?_
        refine E_cmp5 rfl (by omega) (fun q25 => ?_) (fun q25 => ?_)
        · refine E_load rfl rfl rfl ?_
          refine E_const rfl ?_
          refine E_cmp5 rfl (by omega) (fun q26 => ?_) (fun q26 => ?_)
          · exfalso; omega
          · refine E_iinc rfl rfl rfl ?_
            refine E_load rfl rfl rfl ?_
            refine E_const rfl ?_
            refine E_bit (z := 1) rfl rfl (by decide +kernel) ?_
            refine E_store rfl rfl rfl ?_
            refine E_load rfl rfl rfl ?_
            refine E_const rfl ?_
            refine E_cmp5 rfl (by omega) (fun q27 => ?_) (fun q27 => ?_)
            · refine E_load rfl rfl rfl ?_
              refine E_load rfl rfl rfl ?_
              refine E_const rfl ?_
              refine E_bit (z := 0) rfl rfl (by decide +kernel) ?_
              refine E_add rfl ?_
              refine E_iret rfl (fun h => absurd h (by decide)) ?_
              exact ⟨by rw [e.2]; rfl, rfl⟩
            · exfalso; omega
        · exfalso; omega
      · exfalso; omega
    · exfalso; omega
/-- what the table says of sets below m -/
def TabR (c : Nat → Nat → Int) (s : Nat → Int) (m : Nat) : Prop := c 25 3 = (m : Int) ∧ ∀ y, y < m → c 26 y = mpS s (s 29).toNat 0 y
theorem tab_at {c : Nat → Nat → Int} {s : Nat → Int} {m y : Nat} (hT : TabR c s m) (hy : y < m ∨ y = 0) : atS c 25 1 (y : Int) 0 = mpS s (s 29).toNat 0 y := by
  by_cases h : y < m
  · exact atM (by rw [hT.1]; omega) (hT.2 y h)
  · obtain rfl : y = 0 := by omega
    have hm := hT.1
    unfold atS
    rw [if_neg (by omega), mpS_zero]
/-- the recursion of the table, by sets alone -/
theorem mp_set {s : Nat → Int} {N x : Nat} (hN : N ≤ 6) (hx : x < 64) (h0 : x ≠ 0) (ho : lwN x < N) : mpS s N 0 x = mpF s (mpS s (N - (lwN x + 1)) (lwN x + 1)) (lwN x) (x - 2 ^ lwN x) (N - (lwN x + 1)) ∧ mpS s N 0 (x - 2 ^ lwN x) = mpS s (N - (lwN x + 1)) (lwN x + 1) (x - 2 ^ lwN x) ∧ ∀ q, lwN x < q → q < 6 → bt (x - 2 ^ lwN x) q = 1 → mpS s N 0 (x - 2 ^ lwN x - 2 ^ q) = mpS s (N - (lwN x + 1)) (lwN x + 1) (x - 2 ^ lwN x - 2 ^ q) := by
  obtain ⟨h1, h2, h3⟩ := lwB hx h0
  have hr : ∀ j, j < lwN x + 1 → bt (x - 2 ^ lwN x) j = 0 := fun j hj => by
    rw [bt_tk hx h1 h2 (by omega)]
    split
    · rfl
    · exact h3 j (by omega)
  refine ⟨?_, mpS_low (lwN x + 1) ho hr, fun q hq hq6 hb => mpS_low (lwN x + 1) ho fun j hj => ?_⟩
  · rw [mpS_low (lwN x) (by omega) h3, show N - lwN x = N - (lwN x + 1) + 1 by omega, mpS_t h2]
  · rw [bt_tk (Nat.lt_of_le_of_lt (Nat.sub_le _ _) hx) hq6 hb (by omega), if_neg (by omega)]
    exact hr j hj
theorem lw_lt {s : Nat → Int} (n29 : 0 ≤ s 29 ∧ s 29 ≤ 6) {x : Nat} (hx : x ≤ fuN s) (h0 : x ≠ 0) : lwN x < (s 29).toNat := by
  have hf : fuN s < 2 ^ (s 29).toNat := fbN_lt _ _
  have hf6 := fuN_lt n29.2
  obtain ⟨h1, h2, -⟩ := lwB (x := x) (by omega) h0
  have h3 := (takeB (by omega) h1 h2).1.1
  refine Classical.byContradiction fun hn => ?_
  have : 2 ^ (s 29).toNat ≤ 2 ^ lwN x := Nat.pow_le_pow_right (by decide) (by omega)
  omega
set_option maxHeartbeats 4000000 in
set_option maxRecDepth 100000 in
theorem c_mkP {d : Nat} {h : Hp} {c : Nat → Nat → Int} {B : Nat → Nat} {s im : Nat → Int} {hi : Int} {L : List Int} (hL : Lay h) (hR : RepC h c B s im hi L) (hG : InvG s) (hSd : SaidR c s) {i j : Nat} (hi1 : (i : Int) < s 29) (hj1 : (j : Int) < s 29) : Ok (d + 4) 132 [(1, ((0 : Nat) : Int)), (0, (i : Int)), (0, (j : Int))] (wC h c) (fun r h2 => r = some (0, bI (pcC s i j)) ∧ h2 = wC h c) := by
  show Ex _ none t_X10_makesPeace 3 0 _ [] (wC h c) _
  have hGG := hG
  obtain ⟨hI, hH, ⟨⟨n29, n30, n31, n32, n33, n34, n36⟩, nM⟩⟩ := hGG
  have y1 := hG.bs (b := i) (by omega)
  have y2 := hG.bs (b := j) (by omega)
  have tp := tl_peace hH
  have hsz : -1000 ≤ szI (syS s i + syS s j) ∧ szI (syS s i + syS s j) ≤ 1000 := by unfold szI; split <;> omega
  refine E_load rfl rfl rfl ?_
  refine E_getr (c := 11) (r := 22) rfl (hL.lt 0 rfl) (hL.k 0 rfl) rfl (hR.C.g 0 7 22 (by decide)) ?_
  refine E_load rfl rfl rfl ?_
  refine E_const rfl ?_
  refine E_V2 (q := 22) (c := 8) (y := 60) rfl rfl (hL.lt 22 rfl) (hL.k 22 rfl) rfl rfl rfl rfl (s_atv (v := syS s i) (sh22 hL hR.C) (by decide) (by decide) (by omega) (by omega) (by rw [hSd.1]; omega) (by rw [hSd.1]; omega) (atM (by rw [hSd.1]; omega) (hSd.2 i (by omega)))) (fun r h2 hq => ?_)
  obtain ⟨rfl, hh⟩ := hq
  subst hh
  refine E_load rfl rfl rfl ?_
  refine E_getr (c := 11) (r := 22) rfl (hL.lt 0 rfl) (hL.k 0 rfl) rfl (hR.C.g 0 7 22 (by decide)) ?_
  refine E_load rfl rfl rfl ?_
  refine E_const rfl ?_
  refine E_V2 (q := 22) (c := 8) (y := 60) rfl rfl (hL.lt 22 rfl) (hL.k 22 rfl) rfl rfl rfl rfl (s_atv (v := syS s j) (sh22 hL hR.C) (by decide) (by decide) (by omega) (by omega) (by rw [hSd.1]; omega) (by rw [hSd.1]; omega) (atM (by rw [hSd.1]; omega) (hSd.2 j (by omega)))) (fun r h2 hq => ?_)
  obtain ⟨rfl, hh⟩ := hq
  subst hh
  refine E_add rfl ?_
  refine E_abs rfl (by omega) rfl ?_
  refine E_load rfl rfl rfl ?_
  refine E_getr (c := 11) (r := 28) rfl (hL.lt 0 rfl) (hL.k 0 rfl) rfl (hR.C.g 0 9 28 (by decide)) ?_
  refine E_V0 (q := 28) (c := 2) (y := 24) rfl rfl (hL.lt 28 rfl) (hL.k 28 rfl) rfl rfl rfl rfl (c_peaceR hL hR) (fun r h2 hq => ?_)
  obtain ⟨rfl, hh⟩ := hq
  subst hh
  refine E_cmp4 rfl (by omega) (fun q1 => ?_) (fun q1 => ?_)
  · refine E_const rfl ?_
    refine E_iret rfl (fun _ => by decide) ?_
    exact ⟨by first | (rw [bI_t (show szI (syS s i + syS s j) ≤ tlI s 233 5 by omega)]) | (rw [bI_f (show ¬ szI (syS s i + syS s j) ≤ tlI s 233 5 by omega)]), rfl⟩
  · refine E_const rfl ?_
    refine E_goto rfl ?_
    refine E_iret rfl (fun _ => by decide) ?_
    exact ⟨by first | (rw [bI_t (show szI (syS s i + syS s j) ≤ tlI s 233 5 by omega)]) | (rw [bI_f (show ¬ szI (syS s i + syS s j) ≤ tlI s 233 5 by omega)]), rfl⟩
set_option maxHeartbeats 4000000 in
set_option maxRecDepth 100000 in
theorem Cl_cntB {d : Nat} {h : Hp} {c : Nat → Nat → Int} {B : Nat → Nat} {s im : Nat → Int} {hi : Int} {L : List Int} (hL : Lay h) (hR : RepC h c B s im hi L) (hG : InvG s) (hSd : SaidR c s) {x : Nat} (hT : TabR c s x) (hx : x ≤ fuN s) (h0 : x ≠ 0) {Q : Option AV → Hp → Prop}
    (K : ∀ (v6 : AV), Ex (d + 5) none t_X10_countPairs 0 105 [(1, ((0 : Nat) : Int)), (0, (fuN s : Int)), (0, (x : Int)), (0, (lwN x : Int)), (0, ((x - 2 ^ lwN x : Nat) : Int)), (0, mpS s (s 29).toNat 0 x), v6] [] (wC h c) Q) :
    ∀ (n i : Nat), i + n = (s 29).toNat - (lwN x + 1) → ∀ (a : Int), a = mpF s (mpS s ((s 29).toNat - (lwN x + 1)) (lwN x + 1)) (lwN x) (x - 2 ^ lwN x) i → Ex (d + 5) none t_X10_countPairs 0 43 [(1, ((0 : Nat) : Int)), (0, (fuN s : Int)), (0, (x : Int)), (0, (lwN x : Int)), (0, ((x - 2 ^ lwN x : Nat) : Int)), (0, a), (0, ((lwN x + 1 + i : Nat) : Int))] [] (wC h c) Q := by
  have hGG := hG
  obtain ⟨hI, hH, ⟨n29, n30, n31, n32, n33, n34, n36⟩, nM⟩ := hG
  have hG := hGG
  have hfl := fuN_lt n29.2
  have hlt := lw_lt n29 hx h0
  obtain ⟨l1, l2, l3⟩ := lwB (x := x) (by omega) h0
  obtain ⟨m1, m2, m3⟩ := mp_set (s := s) (N := (s 29).toNat) (by omega) (show x < 64 by omega) h0 hlt
  have hrx : x - 2 ^ lwN x ≤ x := Nat.sub_le _ _
  have hx64 : x < 64 := by omega
  have hr64 : x - 2 ^ lwN x < 64 := Nat.lt_of_le_of_lt hrx hx64
  intro n
  induction n with
  | zero =>
    intro i hin a ha
    refine E_load rfl rfl rfl ?_
    refine E_load rfl rfl rfl ?_
    refine E_getr (c := 11) (r := 22) rfl (hL.lt 0 rfl) (hL.k 0 rfl) rfl (hR.C.g 0 7 22 (by decide)) ?_
    refine E_getf (c := 8) (v := (0, (s 29))) rfl (hL.lt 22 rfl) (hL.k 22 rfl) rfl (fv (hSd.1)) ?_
    refine E_cmp3 rfl (by omega) (fun q1 => ?_) (fun q1 => ?_)
    · have e := K (0, ((lwN x + 1 + i : Nat) : Int))
      have ea : mpS s (s 29).toNat 0 x = a := by
        rw [m1, ha]
        congr 1
        omega
      rw [ea] at e
      exact e
    · exfalso; omega
  | succ n ih =>
    intro i hin a ha
    have ho6 : lwN x + 1 + i < 6 := by omega
    have hmf := mpF_in (s := s) (mpS_in (s := s) ((s 29).toNat - (lwN x + 1)) (lwN x + 1)) (b := lwN x) (r := x - 2 ^ lwN x) i
    rw [← ha] at hmf
    refine E_load rfl rfl rfl ?_
    refine E_load rfl rfl rfl ?_
    refine E_getr (c := 11) (r := 22) rfl (hL.lt 0 rfl) (hL.k 0 rfl) rfl (hR.C.g 0 7 22 (by decide)) ?_
    refine E_getf (c := 8) (v := (0, (s 29))) rfl (hL.lt 22 rfl) (hL.k 22 rfl) rfl (fv (hSd.1)) ?_
    refine E_cmp3 rfl (by omega) (fun q1 => ?_) (fun q1 => ?_)
    · exfalso; omega
    · refine E_load rfl rfl rfl ?_
      refine E_load rfl rfl rfl ?_
      refine E_S2 (y := 112) rfl rfl rfl rfl rfl (c_isIn (x := x - 2 ^ lwN x) (b := lwN x + 1 + i) hr64 ho6) (fun r h2 hq => ?_)
      obtain ⟨rfl, hh⟩ := hq
      subst hh
      refine E_if0 rfl (bI_R _) (fun q2 => ?_) (fun q2 => ?_)
      · replace q2 := bI_z q2
        refine E_iinc rfl rfl rfl ?_
        refine E_goto rfl ?_
        exact ih (i + 1) (by omega) _ (by rw [ha, mpF_f (fun z => by have z1 := z.1; have z2 : szI (syS s (lwN x) + syS s (lwN x + 1 + i)) ≤ tlI s 233 5 := z.2; exact absurd z1 (by assumption))])
      · replace q2 := bI_nz q2
        refine E_load rfl rfl rfl ?_
        refine E_load rfl rfl rfl ?_
        refine E_load rfl rfl rfl ?_
        refine E_V2 (q := 0) (c := 11) (y := 132) rfl rfl (hL.lt 0 rfl) (hL.k 0 rfl) rfl rfl rfl rfl (c_mkP hL hR hG hSd (i := (lwN x)) (j := (lwN x + 1 + i)) (by omega) (by omega)) (fun r h2 hq => ?_)
        obtain ⟨rfl, hh⟩ := hq
        subst hh
        refine E_if0 rfl (bI_R _) (fun q3 => ?_) (fun q3 => ?_)
        · replace q3 := bI_z q3
          refine E_iinc rfl rfl rfl ?_
          refine E_goto rfl ?_
          exact ih (i + 1) (by omega) _ (by rw [ha, mpF_f (fun z => by have z1 := z.1; have z2 : szI (syS s (lwN x) + syS s (lwN x + 1 + i)) ≤ tlI s 233 5 := z.2; exact absurd z2 (by assumption))])
        · replace q3 := bI_nz q3
          have hpc := q3
          have hb1 : bt (x - 2 ^ lwN x) (lwN x + 1 + i) = 1 := by assumption
          have hq1 := (takeB hr64 ho6 hb1).1.1
          have hq0 := Nat.pos_of_ne_zero (show 2 ^ (lwN x + 1 + i) ≠ 0 by simp)
          have hq2 : x - 2 ^ lwN x - 2 ^ (lwN x + 1 + i) < x := Nat.lt_of_lt_of_le (Nat.sub_lt_of_pos_le hq0 hq1) hrx
          have hq3 : x - 2 ^ lwN x - 2 ^ (lwN x + 1 + i) < 64 := Nat.lt_trans hq2 hx64
          clear hq1 hq0
          have hm3 := mpS_in (s := s) (s 29).toNat 0 (x - 2 ^ lwN x - 2 ^ (lwN x + 1 + i))
          refine E_load rfl rfl rfl ?_
          refine E_const rfl ?_
          refine E_load rfl rfl rfl ?_
          refine E_getr (c := 11) (r := 25) rfl (hL.lt 0 rfl) (hL.k 0 rfl) rfl (hR.C.g 0 8 25 (by decide)) ?_
          refine E_load rfl rfl rfl ?_
          refine E_const rfl ?_
          refine E_load rfl rfl rfl ?_
          refine E_bit (z := (mBit 8 1 (((lwN x + 1 + i) : Nat) : Int))) rfl rfl rfl ?_
          refine E_bit (z := (((x - 2 ^ lwN x - 2 ^ (lwN x + 1 + i)) : Nat) : Int)) rfl rfl (tkX hr64 ho6 hb1) ?_
          refine E_const rfl ?_
          refine E_V2 (q := 25) (c := 8) (y := 60) rfl rfl (hL.lt 25 rfl) (hL.k 25 rfl) rfl rfl rfl rfl (s_atv (v := mpS s (s 29).toNat 0 (x - 2 ^ lwN x - 2 ^ (lwN x + 1 + i))) (sh25 hL hR.C) (by decide) (by decide) (by omega) (by omega) (by rw [hT.1]; omega) (by rw [hT.1]; omega) (tab_at hT (by omega))) (fun r h2 hq => ?_)
          obtain ⟨rfl, hh⟩ := hq
          subst hh
          refine E_add rfl ?_
          refine E_max rfl (by omega) rfl ?_
          refine E_store rfl rfl rfl ?_
          refine E_iinc rfl rfl rfl ?_
          refine E_goto rfl ?_
          exact ih (i + 1) (by omega) _ (by rw [mpF_t ⟨hb1, hpc⟩, ← ha, m3 _ (by omega) ho6 hb1])
