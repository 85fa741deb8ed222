theorem c_bestN {d : Nat} {h : Hp} {c : Nat → Nat → Int} {B : Nat → Nat} {s im : Nat → Int} {hi : Int} {L : List Int} (hL : Lay h) (hR : RepC h c B s im hi L) (hG : InvG s) (hSd : SaidR c s) {mood : Int} (hmd : -99 ≤ mood ∧ mood ≤ 99) : Ok (d + 8) 129 [(1, ((22 : Nat) : Int)), (0, ((fuN s : Nat) : Int)), (0, mood), (0, 0)] (wC h c) (fun r h2 => r = some (0, (cdN 0 (cnN (fuN s) 6) (boS s (cnN (fuN s) 6) (fuN s) mood) : Int)) ∧ h2 = wC h c) := by
  have hc := cnN_le (fuN s) 6
  have e := c_best (d := d + (6 - cnN (fuN s) 6)) hL hR hG hSd (cnN (fuN s) 6) (fuN s) mood 0 (fuN_BN hG) rfl hmd (Nat.pos_of_ne_zero (by simp))
  rw [show d + (6 - cnN (fuN s) 6) + cnN (fuN s) 6 + 2 = d + 8 by omega] at e
  exact e
theorem lineDig {K : Nat} {gr : GR} (hK : K ≤ 6) {j : Int} (h0 : 0 ≤ j) (hj : j < (K : Int)) (hd : dgR gr) (hr : -99 ≤ gr.1 ∧ gr.1 ≤ 99) : mBit 5 (mBit 9 (cdN 0 K gr : Int) (3 * ((K : Int) - 1 - j))) 7 = gr.2 j.toNat := by
  obtain ⟨n, rfl⟩ := Int.eq_ofNat_of_zero_le h0
  have hlt := cdN_lt (o := 0) (m := 6 - K) (k := K) (r := gr) (Nat.pos_of_ne_zero (by simp)) (by omega) hr.2
  obtain ⟨t, ht⟩ : ∃ t, t = K - 1 - n := ⟨_, rfl⟩
  have e1 : (3 * ((K : Int) - 1 - (n : Int))) = ((3 * t : Nat) : Int) := by omega
  rw [e1, B_shrk (by omega) (by omega)]
  have e2 : cdN 0 K gr / 2 ^ (3 * t) < 2147483648 := Nat.lt_of_le_of_lt (Nat.div_le_self _ _) (by omega)
  refine (B_and (b := 7) e2).trans ?_
  rw [show (7 : Nat) = 2 ^ 3 - 1 from rfl, Nat.and_two_pow_sub_one_eq_mod, Nat.pow_mul]
  have h8 : (2 ^ 3 : Nat) = 8 := rfl
  rw [h8]
  have e3 := (ordN_dig K 0 gr.2).2 n (by omega)
  rw [← ht] at e3
  have e4 : cdN 0 K gr = ordN 0 K gr.2 + 8 ^ t * (8 * (8 ^ (5 - t) * (gr.1 + 99).toNat)) := by
    have e5 : (262144 : Nat) = 8 ^ t * (8 * 8 ^ (5 - t)) := by
      rw [← Nat.pow_succ', ← Nat.pow_add, show t + (5 - t + 1) = 6 by omega]
    unfold cdN
    rw [e5, Nat.add_comm, Nat.mul_comm (gr.1 + 99).toNat, Nat.mul_assoc, Nat.mul_assoc]
  rw [e4, Nat.add_mul_div_left _ _ (Nat.pos_of_ne_zero (by simp)), Nat.add_mul_mod_self_left, e3]
  have := hd n
  rw [Int.toNat_natCast]
  omega
set_option maxHeartbeats 4000000 in
set_option maxRecDepth 100000 in
theorem C_line {d : Nat} {h : Hp} {c : Nat → Nat → Int} {B : Nat → Nat} {s im : Nat → Int} {hi : Int} {L : List Int} (hL : Lay h) (hR : RepC h c B s im hi L) (hA : Inv s) {x : Int} (hx : inR x) {k : Int} (hk : inR k) : Ok (d + 14) 91 [(1, ((0 : Nat) : Int)), (0, x), (0, k)] (wC h c) (fun r h2 => r = some (0, a_line s x k) ∧ ∃ c2, h2 = wC h c2 ∧ EqP (ScrP B (s 29)) c c2) := by
  show Ex _ none t_X10_line 0 0 _ [] (wC h c) _
  have hAA := hA
  have hG := hA.G
  obtain ⟨hI, hH, ⟨⟨n29, n30, n31, n32, n33, n34, n36⟩, nM⟩, hX⟩ := hA
  refine E_load rfl rfl rfl ?_
  refine E_load rfl rfl rfl ?_
  refine E_V1 (q := 0) (c := 11) (y := 119) rfl rfl (hL.lt 0 rfl) (hL.k 0 rfl) rfl rfl rfl rfl (c_isG hL hR hG (by omega)) (fun r h2 hq => ?_)
  obtain ⟨rfl, hh⟩ := hq
  subst hh
  refine E_if0 rfl (bI_R _) (fun q1 => ?_) (fun q1 => ?_)
  · replace q1 := bI_z q1
    refine E_const rfl ?_
    refine E_iret rfl (fun h => absurd h (by decide)) ?_
    refine qryc ?_ EqP.nil
    unfold a_line
    try simp only [Int.toNat_natCast]
    first | (exfalso; omega) | (rw [if_pos (by omega)] <;> rfl) | (rw [if_neg (by omega), if_pos (by omega)] <;> rfl) | (rw [if_neg (by omega)] <;> rfl) | (rw [if_neg (by omega), if_neg (by omega), if_pos (by omega)] <;> rfl) | (rw [if_neg (by omega), if_neg (by omega)] <;> rfl) | (rw [if_neg (by omega), if_neg (by omega), if_neg (by omega), if_pos (by omega)] <;> rfl) | (rw [if_neg (by omega), if_neg (by omega), if_neg (by omega)] <;> rfl) | (rw [if_neg (by omega), if_neg (by omega), if_neg (by omega), if_neg (by omega), if_pos (by omega)] <;> rfl) | (rw [if_neg (by omega), if_neg (by omega), if_neg (by omega), if_neg (by omega)] <;> rfl) | (rw [if_neg (by omega), if_neg (by omega), if_neg (by omega), if_neg (by omega), if_neg (by omega), if_pos (by omega)] <;> rfl) | (rw [if_neg (by omega), if_neg (by omega), if_neg (by omega), if_neg (by omega), if_neg (by omega)] <;> rfl) | (rw [if_neg (by omega), if_neg (by omega), if_neg (by omega), if_neg (by omega), if_neg (by omega), if_neg (by omega), if_pos (by omega)] <;> rfl) | (rw [if_neg (by omega), if_neg (by omega), if_neg (by omega), if_neg (by omega), if_neg (by omega), if_neg (by omega)] <;> rfl)
  · replace q1 := bI_nz q1
    obtain ⟨gn, rfl⟩ := Int.eq_ofNat_of_zero_le q1.1
    have hmg := nM gn (by omega)
    have hcf := cnN_le (fuN s) 6
    have hrr := boS_in n29.2 (cnN (fuN s) 6) (fuN s) (fuN_BN hG) rfl (s (25 + gn)) hmg
    have hdg := boS_dg n29.2 (cnN (fuN s) 6) (fuN s) (s (25 + gn))
    have hfl := fuN_lt n29.2
    refine E_load rfl rfl rfl ?_
    refine E_const rfl ?_
    refine E_const rfl ?_
    refine E_S3 (y := 111) rfl rfl rfl rfl rfl (c_within (by omega) (by omega) (by omega)) (fun r h2 hq => ?_)
    obtain ⟨rfl, hh⟩ := hq
    subst hh
    refine E_if1 rfl (bI_R _) (fun q2 => ?_) (fun q2 => ?_)
    · replace q2 := bI_nz q2
      refine E_load rfl rfl rfl ?_
      refine E_V0 (q := 0) (c := 11) (y := 125) rfl rfl (hL.lt 0 rfl) (hL.k 0 rfl) rfl rfl rfl rfl (c_hear hL hR hG) (fun r h2 hq => ?_)
      obtain ⟨rfl, c_1, hh, hS_1, hE0_1⟩ := hq
      subst hh
      have hE_1 : EqP (ScrP B (s 29)) c c_1 := hE0_1.mono (fun a k e => Or.inl (by unfold fixS; omega))
      have hR_1 := hR.scr hE_1
      refine E_load rfl rfl rfl ?_
      refine E_V0 (q := 0) (c := 11) (y := 124) rfl rfl (hL.lt 0 rfl) (hL.k 0 rfl) rfl rfl rfl rfl (c_full hL hR_1 hG) (fun r h2 hq => ?_)
      obtain ⟨rfl, hh⟩ := hq
      subst hh
      refine E_store rfl rfl rfl ?_
      refine E_load rfl rfl rfl ?_
      refine E_getr (c := 11) (r := 22) rfl (hL.lt 0 rfl) (hL.k 0 rfl) rfl (hR_1.C.g 0 7 22 (by decide)) ?_
      refine E_load rfl rfl rfl ?_
      refine E_load rfl rfl rfl ?_
      refine E_getr (c := 11) (r := 4) rfl (hL.lt 0 rfl) (hL.k 0 rfl) rfl (hR_1.C.g 0 1 4 (by decide)) ?_
      refine E_load rfl rfl rfl ?_
      refine E_const rfl ?_
      refine E_V2 (q := 4) (c := 8) (y := 60) rfl rfl (hL.lt 4 rfl) (hL.k 4 rfl) rfl rfl rfl rfl (s_atv (sh4 hL hR_1.C) (by decide) (by decide) (by omega) (by omega) (by rw [hR_1.mood.1]; omega) (by rw [hR_1.mood.1]; omega) (atM (by rw [hR_1.mood.1]; omega) (hR_1.mood.2 gn (by omega)))) (fun r h2 hq => ?_)
      obtain ⟨rfl, hh⟩ := hq
      subst hh
      refine E_const rfl ?_
      refine E_S4 (y := 129) rfl rfl rfl rfl rfl (c_bestN hL hR_1 hG hS_1 hmg) (fun r h2 hq => ?_)
      obtain ⟨rfl, hh⟩ := hq
      subst hh
      refine E_store rfl rfl rfl ?_
      refine E_load rfl rfl rfl ?_
      refine E_if3 rfl (by omega) (fun q3 => ?_) (fun q3 => ?_)
      · refine E_load rfl rfl rfl ?_
        refine E_S1 (y := 228) rfl rfl rfl rfl rfl (j_bitCount (by omega)) (fun r h2 hq => ?_)
        obtain ⟨rfl, hh⟩ := hq
        subst hh
        refine E_const rfl ?_
        refine E_sub rfl ?_
        refine E_load rfl rfl rfl ?_
        refine E_sub rfl ?_
        refine E_store rfl rfl rfl ?_
        refine E_load rfl rfl rfl ?_
        refine E_if3 rfl (by omega) (fun q4 => ?_) (fun q4 => ?_)
        · refine E_load rfl rfl rfl ?_
          refine E_const rfl ?_
          refine E_load rfl rfl rfl ?_
          refine E_mul rfl ?_
          refine E_bit (z := (mBit 9 (((cdN 0 (cnN (fuN s) 6) (boS s (cnN (fuN s) 6) (fuN s) (s (25 + gn)))) : Nat) : Int) (3 * ((((cnN (fuN s) 6 : Nat) : Int) - 1) - k)))) rfl rfl rfl ?_
          refine E_const rfl ?_
          refine E_bit (z := (boS s (cnN (fuN s) 6) (fuN s) (s (25 + gn))).2 k.toNat) rfl rfl (lineDig (by omega) (by omega) (by omega) hdg hrr) ?_
          refine E_iret rfl (fun h => absurd h (by decide)) ?_
          refine qryc ?_ hE_1
          unfold a_line
          try simp only [Int.toNat_natCast]
          first | (exfalso; omega) | (rw [if_pos (by omega)] <;> rfl) | (rw [if_neg (by omega), if_pos (by omega)] <;> rfl) | (rw [if_neg (by omega)] <;> rfl) | (rw [if_neg (by omega), if_neg (by omega), if_pos (by omega)] <;> rfl) | (rw [if_neg (by omega), if_neg (by omega)] <;> rfl) | (rw [if_neg (by omega), if_neg (by omega), if_neg (by omega), if_pos (by omega)] <;> rfl) | (rw [if_neg (by omega), if_neg (by omega), if_neg (by omega)] <;> rfl) | (rw [if_neg (by omega), if_neg (by omega), if_neg (by omega), if_neg (by omega), if_pos (by omega)] <;> rfl) | (rw [if_neg (by omega), if_neg (by omega), if_neg (by omega), if_neg (by omega)] <;> rfl) | (rw [if_neg (by omega), if_neg (by omega), if_neg (by omega), if_neg (by omega), if_neg (by omega), if_pos (by omega)] <;> rfl) | (rw [if_neg (by omega), if_neg (by omega), if_neg (by omega), if_neg (by omega), if_neg (by omega)] <;> rfl) | (rw [if_neg (by omega), if_neg (by omega), if_neg (by omega), if_neg (by omega), if_neg (by omega), if_neg (by omega), if_pos (by omega)] <;> rfl) | (rw [if_neg (by omega), if_neg (by omega), if_neg (by omega), if_neg (by omega), if_neg (by omega), if_neg (by omega)] <;> rfl)
        · refine E_const rfl ?_
          refine E_goto rfl ?_
          refine E_iret rfl (fun h => absurd h (by decide)) ?_
          refine qryc ?_ hE_1
          unfold a_line
          try simp only [Int.toNat_natCast]
          first | (exfalso; omega) | (rw [if_pos (by omega)] <;> rfl) | (rw [if_neg (by omega), if_pos (by omega)] <;> rfl) | (rw [if_neg (by omega)] <;> rfl) | (rw [if_neg (by omega), if_neg (by omega), if_pos (by omega)] <;> rfl) | (rw [if_neg (by omega), if_neg (by omega)] <;> rfl) | (rw [if_neg (by omega), if_neg (by omega), if_neg (by omega), if_pos (by omega)] <;> rfl) | (rw [if_neg (by omega), if_neg (by omega), if_neg (by omega)] <;> rfl) | (rw [if_neg (by omega), if_neg (by omega), if_neg (by omega), if_neg (by omega), if_pos (by omega)] <;> rfl) | (rw [if_neg (by omega), if_neg (by omega), if_neg (by omega), if_neg (by omega)] <;> rfl) | (rw [if_neg (by omega), if_neg (by omega), if_neg (by omega), if_neg (by omega), if_neg (by omega), if_pos (by omega)] <;> rfl) | (rw [if_neg (by omega), if_neg (by omega), if_neg (by omega), if_neg (by omega), if_neg (by omega)] <;> rfl) | (rw [if_neg (by omega), if_neg (by omega), if_neg (by omega), if_neg (by omega), if_neg (by omega), if_neg (by omega), if_pos (by omega)] <;> rfl) | (rw [if_neg (by omega), if_neg (by omega), if_neg (by omega), if_neg (by omega), if_neg (by omega), if_neg (by omega)] <;> rfl)
      · refine E_load rfl rfl rfl ?_
        refine E_S1 (y := 130) rfl rfl rfl rfl rfl (c_moodOf (o := 0) (k := (cnN (fuN s) 6)) (m := 6 - (cnN (fuN s) 6)) (gr := (boS s (cnN (fuN s) 6) (fuN s) (s (25 + gn)))) (Nat.pos_of_ne_zero (by simp)) (by omega) hrr) (fun r h2 hq => ?_)
        obtain ⟨rfl, hh⟩ := hq
        subst hh
        refine E_iret rfl (fun h => absurd h (by decide)) ?_
        refine qryc ?_ hE_1
        unfold a_line
        try simp only [Int.toNat_natCast]
        first | (exfalso; omega) | (rw [if_pos (by omega)] <;> rfl) | (rw [if_neg (by omega), if_pos (by omega)] <;> rfl) | (rw [if_neg (by omega)] <;> rfl) | (rw [if_neg (by omega), if_neg (by omega), if_pos (by omega)] <;> rfl) | (rw [if_neg (by omega), if_neg (by omega)] <;> rfl) | (rw [if_neg (by omega), if_neg (by omega), if_neg (by omega), if_pos (by omega)] <;> rfl) | (rw [if_neg (by omega), if_neg (by omega), if_neg (by omega)] <;> rfl) | (rw [if_neg (by omega), if_neg (by omega), if_neg (by omega), if_neg (by omega), if_pos (by omega)] <;> rfl) | (rw [if_neg (by omega), if_neg (by omega), if_neg (by omega), if_neg (by omega)] <;> rfl) | (rw [if_neg (by omega), if_neg (by omega), if_neg (by omega), if_neg (by omega), if_neg (by omega), if_pos (by omega)] <;> rfl) | (rw [if_neg (by omega), if_neg (by omega), if_neg (by omega), if_neg (by omega), if_neg (by omega)] <;> rfl) | (rw [if_neg (by omega), if_neg (by omega), if_neg (by omega), if_neg (by omega), if_neg (by omega), if_neg (by omega), if_pos (by omega)] <;> rfl) | (rw [if_neg (by omega), if_neg (by omega), if_neg (by omega), if_neg (by omega), if_neg (by omega), if_neg (by omega)] <;> rfl)
    · replace q2 := bI_z q2
      refine E_const rfl ?_
      refine E_iret rfl (fun h => absurd h (by decide)) ?_
      refine qryc ?_ EqP.nil
      unfold a_line
      try simp only [Int.toNat_natCast]
      first | (exfalso; omega) | (rw [if_pos (by omega)] <;> rfl) | (rw [if_neg (by omega), if_pos (by omega)] <;> rfl) | (rw [if_neg (by omega)] <;> rfl) | (rw [if_neg (by omega), if_neg (by omega), if_pos (by omega)] <;> rfl) | (rw [if_neg (by omega), if_neg (by omega)] <;> rfl) | (rw [if_neg (by omega), if_neg (by omega), if_neg (by omega), if_pos (by omega)] <;> rfl) | (rw [if_neg (by omega), if_neg (by omega), if_neg (by omega)] <;> rfl) | (rw [if_neg (by omega), if_neg (by omega), if_neg (by omega), if_neg (by omega), if_pos (by omega)] <;> rfl) | (rw [if_neg (by omega), if_neg (by omega), if_neg (by omega), if_neg (by omega)] <;> rfl) | (rw [if_neg (by omega), if_neg (by omega), if_neg (by omega), if_neg (by omega), if_neg (by omega), if_pos (by omega)] <;> rfl) | (rw [if_neg (by omega), if_neg (by omega), if_neg (by omega), if_neg (by omega), if_neg (by omega)] <;> rfl) | (rw [if_neg (by omega), if_neg (by omega), if_neg (by omega), if_neg (by omega), if_neg (by omega), if_neg (by omega), if_pos (by omega)] <;> rfl) | (rw [if_neg (by omega), if_neg (by omega), if_neg (by omega), if_neg (by omega), if_neg (by omega), if_neg (by omega)] <;> rfl)
