theorem n_fullN {d : Nat} {h : Hp} {c : Nat → Nat → Int} {s : Nat → Int} (hL : Lay h) (hM : Mc c) (hs : c 44 = s) (hG : InvG s) : Ok (d) 174 [(1, ((43 : Nat) : Int))] (wC h c) (fun r h2 => r = some (0, (fuN s : Int)) ∧ h2 = wC h c) := by
  rw [← fuS_N hG.2.2.1.1.2]
  exact n_fullOnes hL hM hs hG
theorem fuN_BN {s : Nat → Int} (hG : InvG s) : BN s (fuN s) := by
  have n29 := hG.2.2.1.1
  refine ⟨fuN_lt n29.2, fun b hb hb1 => ?_⟩
  by_cases h : b < (s 29).toNat
  · omega
  · exfalso
    have hl := fbN_lt (fun b => decide (s (19 + b) = 0)) (s 29).toNat
    have hp : 2 ^ (s 29).toNat ≤ 2 ^ b := Nat.pow_le_pow_right (by decide) (by omega)
    have e : fuN s / 2 ^ b = 0 := Nat.div_eq_of_lt (Nat.lt_of_lt_of_le hl hp)
    unfold bt at hb1
    rw [e] at hb1
    cases hb1
theorem fuN_bt {s : Nat → Int} {b : Nat} (hb : (b : Int) < s 29) : bt (fuN s) b = if s (19 + b) = 0 then 1 else 0 := by
  have := bt_fb (fun b => decide (s (19 + b) = 0)) (s 29).toNat b (by omega)
  unfold fuN
  rw [this]
  by_cases h : s (19 + b) = 0 <;> simp [h]
def a_line (s : Nat → Int) (x k : Int) : Int := if ¬ isG s x ∨ ¬ btw (-1) k 5 then -10001 else if k = -1 then (boS s (cnN (fuN s) 6) (fuN s) (s (25 + x.toNat))).1 else if k < (cnN (fuN s) 6 : Int) then (boS s (cnN (fuN s) 6) (fuN s) (s (25 + x.toNat))).2 k.toNat else -5
set_option maxHeartbeats 4000000 in
set_option maxRecDepth 100000 in
theorem n_line {d : Nat} {h : Hp} {c : Nat → Nat → Int} {s : Nat → Int} (hL : Lay h) (hM : Mc c) (hs : c 44 = s) (hA : Inv s) {x : Int} (hx : inR x) {k : Int} (hk : inR k) : Ok (d + 12) 194 [(1, ((43 : Nat) : Int)), (0, x), (0, k)] (wC h c) (fun r h2 => r = some (0, a_line s x k) ∧ ∃ c2, h2 = wC h c2 ∧ Eqk PQ c c2) := by
  show Ex _ none t_X11_line 0 0 _ [] (wC h c) _
  have hAA := hA
  have hG := hA.G
  obtain ⟨hI, hH, ⟨⟨n29, n30, n31, n32, n33, n34, n36⟩, nM⟩, hX⟩ := hA
  refine E_load rfl rfl rfl ?_
  refine E_load rfl rfl rfl ?_
  refine E_V1 (q := 43) (c := 12) (y := 144) rfl rfl (hL.lt 43 rfl) (hL.k 43 rfl) rfl rfl rfl rfl (n_isGuest hL hM hs (by omega) (by omega)) (fun r h2 hq => ?_)
  obtain ⟨rfl, hh⟩ := hq
  subst hh
  refine E_if0 rfl (bI_R _) (fun q1 => ?_) (fun q1 => ?_)
  · replace q1 := bI_z q1
    refine E_const rfl ?_
    refine E_iret rfl (fun h => absurd h (by decide)) ?_
    refine qryl ?_ Eqk.nil
    unfold a_line
    try simp only [Int.toNat_natCast]
    first | (exfalso; omega) | (rw [if_pos (by omega)]; done) | (rw [if_neg (by omega), if_pos (by omega)]; done) | (rw [if_neg (by omega)]; done) | (rw [if_neg (by omega), if_neg (by omega), if_pos (by omega)]; done) | (rw [if_neg (by omega), if_neg (by omega)]; done) | (rw [if_neg (by omega), if_neg (by omega), if_neg (by omega), if_pos (by omega)]; done) | (rw [if_neg (by omega), if_neg (by omega), if_neg (by omega)]; done) | (rw [if_neg (by omega), if_neg (by omega), if_neg (by omega), if_neg (by omega), if_pos (by omega)]; done) | (rw [if_neg (by omega), if_neg (by omega), if_neg (by omega), if_neg (by omega)]; done) | (rw [if_neg (by omega), if_neg (by omega), if_neg (by omega), if_neg (by omega), if_neg (by omega), if_pos (by omega)]; done) | (rw [if_neg (by omega), if_neg (by omega), if_neg (by omega), if_neg (by omega), if_neg (by omega)]; done) | (rw [if_neg (by omega), if_neg (by omega), if_neg (by omega), if_neg (by omega), if_neg (by omega), if_neg (by omega), if_pos (by omega)]; done) | (rw [if_neg (by omega), if_neg (by omega), if_neg (by omega), if_neg (by omega), if_neg (by omega), if_neg (by omega)]; done)
  · replace q1 := bI_nz q1
    obtain ⟨k1, rfl⟩ := Int.eq_ofNat_of_zero_le q1.1
    refine E_load rfl rfl rfl ?_
    refine E_const rfl ?_
    refine E_const rfl ?_
    refine E_S3 (y := 139) rfl rfl rfl rfl rfl (m_in (by omega) (by omega) (by omega)) (fun r h2 hq => ?_)
    obtain ⟨rfl, hh⟩ := hq
    subst hh
    refine E_if1 rfl (bI_R _) (fun q2 => ?_) (fun q2 => ?_)
    · replace q2 := bI_nz q2
      have hfl := fuN_lt n29.2
      refine E_load rfl rfl rfl ?_
      refine E_V0 (q := 43) (c := 12) (y := 189) rfl rfl (hL.lt 43 rfl) (hL.k 43 rfl) rfl rfl rfl rfl (n_lookS hL hM hs hG) (fun r h2 hq => ?_)
      obtain ⟨rfl, c_1, hh, h49_1, hE0_1⟩ := hq
      subst hh
      have hE_1 : Eqk PQ c c_1 := hE0_1.mono P49_PQ
      have hM_1 : Mc c_1 := hM.of (hE0_1.row 43 (fun _ => rfl))
      have hs_1 : c_1 44 = s := (hE0_1.row 44 (fun _ => rfl)).trans hs
      obtain ⟨f49, hr49_1⟩ : ∃ f, c_1 49 = f := ⟨_, rfl⟩
      have hsay : SAY s f49 := by rw [← hr49_1]; exact h49_1
      refine E_load rfl rfl rfl ?_
      refine E_const rfl ?_
      refine E_putg (cl := 12) rfl (hL.lt 43 rfl) (hL.k 43 rfl) rfl (fun c_2 hc_2 => ?_)
      have hE_2 : Eqk PQ c_1 c_2 := by rw [hc_2]; exact Eqk.up rfl
      have hM_2 : Mc c_2 := by rw [hc_2]; exact hM_1.up43 rfl
      have hs_2 : c_2 44 = s := by rw [hc_2]; exact (up2_oth rfl).trans hs_1
      have hf15_2 : c_2 43 15 = (-1000000) := by rw [hc_2]; exact up2_same
      have hr49_2 : c_2 49 = f49 := by rw [hc_2]; exact (up2_oth rfl).trans hr49_1
      refine E_load rfl rfl rfl ?_
      refine E_const rfl ?_
      refine E_load rfl rfl rfl ?_
      refine E_V0 (q := 43) (c := 12) (y := 174) rfl rfl (hL.lt 43 rfl) (hL.k 43 rfl) rfl rfl rfl rfl (n_fullN hL hM_2 hs_2 hG) (fun r h2 hq => ?_)
      obtain ⟨rfl, hh⟩ := hq
      subst hh
      refine E_load rfl rfl rfl ?_
      refine E_getr (c := 12) (r := 44) rfl (hL.lt 43 rfl) (hL.k 43 rfl) rfl hM_2.c1 ?_
      refine E_const rfl ?_
      refine E_load rfl rfl rfl ?_
      refine E_add rfl ?_
      refine E_ialn (n := 943) (v := (s ((25 + k1)))) rfl (hL.lt 44 rfl) (hL.k 44 rfl) (hL.l 44 rfl) (by omega) (rdS hs_2 (by omega)) ?_
      have hBN := fuN_BN hG
      have hmk := nM k1 (by omega)
      have hcl := cnN_le (fuN s) 6
      have hbo := boS_in n29.2 (cnN (fuN s) 6) (fuN s) hBN rfl (s (25 + k1)) hmk
      have ko := n_ord (d := d + 10 - cnN (fuN s) 6) hL hG hsay (K := cnN (fuN s) 6) hcl (cnN (fuN s) 6) 0 (fuN s) (s (25 + k1)) (by omega) hBN rfl hmk (fun _ => 0) (-1000000, fun j => c_2 51 j) ⟨Int.le_refl _, show (-1000000 : Int) ≤ 99 by omega⟩ c_2 hM_2 hs_2 hr49_2 ⟨hf15_2, fun j hj => rfl, fun j hj => absurd hj (Nat.not_lt_zero j)⟩
      rw [show d + 10 - cnN (fuN s) 6 + cnN (fuN s) 6 + 1 = d + 11 by omega] at ko
      refine E_V3 (q := 43) (c := 12) (y := 193) rfl rfl (hL.lt 43 rfl) (hL.k 43 rfl) rfl rfl rfl rfl (ko) (fun r h2 hq => ?_)
      obtain ⟨rfl, c_3, hh, hO3, hE0_3⟩ := hq
      subst hh
      have hE_3 : Eqk PQ c_2 c_3 := hE0_3.mono P51_PQ
      have hM_3 := hM_2.p51 hE0_3
      have hs_3 : c_3 44 = s := (hE0_3.row 44 (fun _ => rfl)).trans hs_2
      rw [show upG (-1000000, fun j => c_2 51 j) (fl 0 (fun _ => 0) (boS s (cnN (fuN s) 6) (fuN s) (s (25 + k1)))) = fl 0 (fun _ => 0) (boS s (cnN (fuN s) 6) (fuN s) (s (25 + k1))) from if_pos (show (-1000000 : Int) < (boS s (cnN (fuN s) 6) (fuN s) (s (25 + k1))).1 by omega)] at hO3
      refine E_load rfl rfl rfl ?_
      refine E_const rfl ?_
      refine E_cmp1 rfl (by omega) (fun q3 => ?_) (fun q3 => ?_)
      · refine E_load rfl rfl rfl ?_
        refine E_load rfl rfl rfl ?_
        refine E_V0 (q := 43) (c := 12) (y := 174) rfl rfl (hL.lt 43 rfl) (hL.k 43 rfl) rfl rfl rfl rfl (n_fullN hL hM_3 hs_3 hG) (fun r h2 hq => ?_)
        obtain ⟨rfl, hh⟩ := hq
        subst hh
        refine E_S1 (y := 190) rfl rfl rfl rfl rfl (n_countOf hL hM_3 hs_3 (by omega)) (fun r h2 hq => ?_)
        obtain ⟨rfl, hh⟩ := hq
        subst hh
        refine E_cmp3 rfl (by omega) (fun q4 => ?_) (fun q4 => ?_)
        · refine E_const rfl ?_
          refine E_iret rfl (fun h => absurd h (by decide)) ?_
          refine qryl ?_ (hE_1.trans (hE_2.trans hE_3))
          unfold a_line
          try simp only [Int.toNat_natCast]
          first | (exfalso; omega) | (rw [if_pos (by omega)]; done) | (rw [if_neg (by omega), if_pos (by omega)]; done) | (rw [if_neg (by omega)]; done) | (rw [if_neg (by omega), if_neg (by omega), if_pos (by omega)]; done) | (rw [if_neg (by omega), if_neg (by omega)]; done) | (rw [if_neg (by omega), if_neg (by omega), if_neg (by omega), if_pos (by omega)]; done) | (rw [if_neg (by omega), if_neg (by omega), if_neg (by omega)]; done) | (rw [if_neg (by omega), if_neg (by omega), if_neg (by omega), if_neg (by omega), if_pos (by omega)]; done) | (rw [if_neg (by omega), if_neg (by omega), if_neg (by omega), if_neg (by omega)]; done) | (rw [if_neg (by omega), if_neg (by omega), if_neg (by omega), if_neg (by omega), if_neg (by omega), if_pos (by omega)]; done) | (rw [if_neg (by omega), if_neg (by omega), if_neg (by omega), if_neg (by omega), if_neg (by omega)]; done) | (rw [if_neg (by omega), if_neg (by omega), if_neg (by omega), if_neg (by omega), if_neg (by omega), if_neg (by omega), if_pos (by omega)]; done) | (rw [if_neg (by omega), if_neg (by omega), if_neg (by omega), if_neg (by omega), if_neg (by omega), if_neg (by omega)]; done)
        · refine E_load rfl rfl rfl ?_
          refine E_getr (c := 12) (r := 51) rfl (hL.lt 43 rfl) (hL.k 43 rfl) rfl hM_3.c14 ?_
          refine E_load rfl rfl rfl ?_
          refine E_ialn (n := 6) (v := (boS s (cnN (fuN s) 6) (fuN s) (s (25 + k1))).2 k.toNat) rfl (hL.lt 51 rfl) (hL.k 51 rfl) (hL.l 51 rfl) (by omega) ((rdS rfl rfl).trans (hO3.2.1 _ (by omega))) ?_
          refine E_goto rfl ?_
          refine E_iret rfl (fun h => absurd h (by decide)) ?_
          refine qryl ?_ (hE_1.trans (hE_2.trans hE_3))
          unfold a_line
          try simp only [Int.toNat_natCast]
          first | (exfalso; omega) | (rw [if_pos (by omega)]; done) | (rw [if_neg (by omega), if_pos (by omega)]; done) | (rw [if_neg (by omega)]; done) | (rw [if_neg (by omega), if_neg (by omega), if_pos (by omega)]; done) | (rw [if_neg (by omega), if_neg (by omega)]; done) | (rw [if_neg (by omega), if_neg (by omega), if_neg (by omega), if_pos (by omega)]; done) | (rw [if_neg (by omega), if_neg (by omega), if_neg (by omega)]; done) | (rw [if_neg (by omega), if_neg (by omega), if_neg (by omega), if_neg (by omega), if_pos (by omega)]; done) | (rw [if_neg (by omega), if_neg (by omega), if_neg (by omega), if_neg (by omega)]; done) | (rw [if_neg (by omega), if_neg (by omega), if_neg (by omega), if_neg (by omega), if_neg (by omega), if_pos (by omega)]; done) | (rw [if_neg (by omega), if_neg (by omega), if_neg (by omega), if_neg (by omega), if_neg (by omega)]; done) | (rw [if_neg (by omega), if_neg (by omega), if_neg (by omega), if_neg (by omega), if_neg (by omega), if_neg (by omega), if_pos (by omega)]; done) | (rw [if_neg (by omega), if_neg (by omega), if_neg (by omega), if_neg (by omega), if_neg (by omega), if_neg (by omega)]; done)
      · refine E_load rfl rfl rfl ?_
        refine E_getf (c := 12) (v := (0, (boS s (cnN (fuN s) 6) (fuN s) (s (25 + k1))).1)) rfl (hL.lt 43 rfl) (hL.k 43 rfl) rfl (fv hO3.1) ?_
        refine E_goto rfl ?_
        refine E_iret rfl (fun h => absurd h (by decide)) ?_
        refine qryl ?_ (hE_1.trans (hE_2.trans hE_3))
        unfold a_line
        try simp only [Int.toNat_natCast]
        first | (exfalso; omega) | (rw [if_pos (by omega)]; done) | (rw [if_neg (by omega), if_pos (by omega)]; done) | (rw [if_neg (by omega)]; done) | (rw [if_neg (by omega), if_neg (by omega), if_pos (by omega)]; done) | (rw [if_neg (by omega), if_neg (by omega)]; done) | (rw [if_neg (by omega), if_neg (by omega), if_neg (by omega), if_pos (by omega)]; done) | (rw [if_neg (by omega), if_neg (by omega), if_neg (by omega)]; done) | (rw [if_neg (by omega), if_neg (by omega), if_neg (by omega), if_neg (by omega), if_pos (by omega)]; done) | (rw [if_neg (by omega), if_neg (by omega), if_neg (by omega), if_neg (by omega)]; done) | (rw [if_neg (by omega), if_neg (by omega), if_neg (by omega), if_neg (by omega), if_neg (by omega), if_pos (by omega)]; done) | (rw [if_neg (by omega), if_neg (by omega), if_neg (by omega), if_neg (by omega), if_neg (by omega)]; done) | (rw [if_neg (by omega), if_neg (by omega), if_neg (by omega), if_neg (by omega), if_neg (by omega), if_neg (by omega), if_pos (by omega)]; done) | (rw [if_neg (by omega), if_neg (by omega), if_neg (by omega), if_neg (by omega), if_neg (by omega), if_neg (by omega)]; done)
    · replace q2 := bI_z q2
      refine E_const rfl ?_
      refine E_iret rfl (fun h => absurd h (by decide)) ?_
      refine qryl ?_ Eqk.nil
      unfold a_line
      try simp only [Int.toNat_natCast]
      first | (exfalso; omega) | (rw [if_pos (by omega)]; done) | (rw [if_neg (by omega), if_pos (by omega)]; done) | (rw [if_neg (by omega)]; done) | (rw [if_neg (by omega), if_neg (by omega), if_pos (by omega)]; done) | (rw [if_neg (by omega), if_neg (by omega)]; done) | (rw [if_neg (by omega), if_neg (by omega), if_neg (by omega), if_pos (by omega)]; done) | (rw [if_neg (by omega), if_neg (by omega), if_neg (by omega)]; done) | (rw [if_neg (by omega), if_neg (by omega), if_neg (by omega), if_neg (by omega), if_pos (by omega)]; done) | (rw [if_neg (by omega), if_neg (by omega), if_neg (by omega), if_neg (by omega)]; done) | (rw [if_neg (by omega), if_neg (by omega), if_neg (by omega), if_neg (by omega), if_neg (by omega), if_pos (by omega)]; done) | (rw [if_neg (by omega), if_neg (by omega), if_neg (by omega), if_neg (by omega), if_neg (by omega)]; done) | (rw [if_neg (by omega), if_neg (by omega), if_neg (by omega), if_neg (by omega), if_neg (by omega), if_neg (by omega), if_pos (by omega)]; done) | (rw [if_neg (by omega), if_neg (by omega), if_neg (by omega), if_neg (by omega), if_neg (by omega), if_neg (by omega)]; done)
