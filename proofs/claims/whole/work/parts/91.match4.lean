theorem mp_set2 {s : Nat → Int} {N x b : Nat} (hN : N ≤ 6) (hx : x < 64) (hb : b < N) (h1 : bt x b = 1) (h0 : ∀ j, j < b → bt x j = 0) : mpS s N 0 x = mpS s (N - (b + 1) + 1) b x ∧ ∀ q, b < q → q < 6 → bt (x - 2 ^ b) q = 1 → mpS s N 0 (x - 2 ^ b - 2 ^ q) = mpS s (N - (b + 1)) (b + 1) (x - 2 ^ b - 2 ^ q) := by
  have hr : ∀ j, j < b + 1 → bt (x - 2 ^ b) j = 0 := fun j hj => by
    rw [bt_tk hx (by omega) h1 (by omega)]
    split
    · rfl
    · exact h0 j (by omega)
  refine ⟨?_, fun q hq hq6 hb2 => mpS_low (b + 1) hb fun j hj => ?_⟩
  · rw [mpS_low b (by omega) h0, show N - b = N - (b + 1) + 1 by omega]
  · rw [bt_tk (Nat.lt_of_le_of_lt (Nat.sub_le _ _) hx) hq6 hb2 (by omega), if_neg (by omega)]
    exact hr j hj
theorem lpN_or {s : Nat → Int} {rec : Nat → Int} {b r : Nat} {tot : Int} : ∀ k q, lpN s rec b r tot k q = -5 ∨ ∃ j, q ≤ j ∧ j < q + k ∧ bt r j = 1 ∧ lpN s rec b r tot k q = (j : Int)
  | 0, _ => Or.inl rfl
  | k + 1, q => by
    rw [lpN]
    by_cases h : bt r q = 1 ∧ pcC s b q ∧ 1 + rec (r - 2 ^ q) = tot
    · rw [if_pos h]; exact Or.inr ⟨q, by omega, by omega, h.1, rfl⟩
    · rw [if_neg h]
      rcases lpN_or k (q + 1) with e | ⟨j, h1, h2, h3, h4⟩
      · exact Or.inl e
      · exact Or.inr ⟨j, by omega, by omega, h3, h4⟩
theorem ptS_or {s : Nat → Int} {n b x : Nat} : ptS s n b x = -5 ∨ ∃ q, b < q ∧ q < b + 1 + n ∧ bt x b = 1 ∧ bt (x - 2 ^ b) q = 1 ∧ ptS s n b x = (q : Int) := by
  unfold ptS
  by_cases h : bt x b = 1
  · rw [if_pos h]
    rcases lpN_or (s := s) (rec := mpS s n (b + 1)) (b := b) (r := x - 2 ^ b) (tot := mpS s (n + 1) b x) n (b + 1) with e | ⟨j, h1, h2, h3, h4⟩
    · exact Or.inl e
    · exact Or.inr ⟨j, by omega, h2, h, h3, h4⟩
  · rw [if_neg h]; exact Or.inl rfl
theorem clr_lo {x b j : Nat} (hx : x < 64) (hb : b < 6) (hj : j < 6) : bt (if bt x b = 1 then x - 2 ^ b else x) j = if j = b then 0 else bt x j := by
  by_cases h : bt x b = 1
  · rw [if_pos h]; exact bt_tk hx hb h hj
  · rw [if_neg h]
    split
    · next e => rw [e]; have := bt_01 x b; omega
    · rfl
theorem clr_le {x b : Nat} : (if bt x b = 1 then x - 2 ^ b else x) ≤ x := by
  split
  · exact Nat.sub_le _ _
  · exact Nat.le_refl _
theorem lfS_ok {s : Nat → Int} {n b x : Nat} (hx : x < 64) (hn : b + 1 + n ≤ 6) (h0 : ∀ j, j < b → bt x j = 0) : lfS b x (ptS s n b x) ≤ x ∧ ∀ j, j < b + 1 → bt (lfS b x (ptS s n b x)) j = 0 := by
  have hc : ∀ j, j < b + 1 → bt (if bt x b = 1 then x - 2 ^ b else x) j = 0 := fun j hj => by
    rw [clr_lo hx (by omega) (by omega)]
    split
    · rfl
    · exact h0 j (by omega)
  unfold lfS
  rcases ptS_or (s := s) (n := n) (b := b) (x := x) with e | ⟨q, h1, h2, h3, h4, e⟩
  · rw [e, if_pos rfl]
    exact ⟨clr_le, hc⟩
  · rw [e, if_neg (by omega), Int.toNat_natCast, if_pos h3]
    refine ⟨Nat.le_trans (Nat.sub_le _ _) (Nat.sub_le _ _), fun j hj => ?_⟩
    rw [bt_tk (Nat.lt_of_le_of_lt (Nat.sub_le _ _) hx) (by omega) h4 (by omega), if_neg (by omega), bt_tk hx (by omega) h3 (by omega)]
    split
    · rfl
    · exact h0 j (by omega)
set_option maxHeartbeats 4000000 in
set_option maxRecDepth 100000 in
theorem Cl_lp {d : Nat} {h : Hp} {c : Nat → Nat → Int} {B : Nat → Nat} {s im : Nat → Int} {hi : Int} {L : List Int} (hL : Lay h) (hR : RepC h c B s im hi L) (hG : InvG s) (hSd : SaidR c s) {x b : Nat} (hT : TabR c s (fuN s + 1)) (hx : x ≤ fuN s) (hb : (b : Int) < s 29) (h1 : bt x b = 1) (h0 : ∀ j, j < b → bt x j = 0) : ∀ (k i : Nat), i + k = (s 29).toNat - (b + 1) → Ex (d + 5) none t_X10_leastPartner 0 11 [(1, ((0 : Nat) : Int)), (0, (b : Int)), (0, (x : Int)), (0, ((x - 2 ^ b : Nat) : Int)), (0, ((b + 1 + i : Nat) : Int))] [] (wC h c) (fun r h2 => r = some (0, lpN s (mpS s ((s 29).toNat - (b + 1)) (b + 1)) b (x - 2 ^ b) (mpS s ((s 29).toNat - (b + 1) + 1) b x) k (b + 1 + i)) ∧ h2 = wC h c) := by
  have hGG := hG
  obtain ⟨hI, hH, ⟨n29, n30, n31, n32, n33, n34, n36⟩, nM⟩ := hG
  have hG := hGG
  have hfl := fuN_lt n29.2
  have hx64 : x < 64 := by omega
  have hrx : x - 2 ^ b ≤ x := Nat.sub_le _ _
  have hr64 : x - 2 ^ b < 64 := Nat.lt_of_le_of_lt hrx hx64
  obtain ⟨m1, m3⟩ := mp_set2 (s := s) (N := (s 29).toNat) (by omega) hx64 (show b < (s 29).toNat by omega) h1 h0
  have hmx := mpS_in (s := s) (s 29).toNat 0 x
  intro k
  induction k with
  | zero =>
    intro i hin
    refine E_load rfl rfl rfl ?_
    refine E_load rfl rfl rfl ?_
    refine E_getr (c := 11) (r := 22) rfl (hL.lt 0 rfl) (hL.k 0 rfl) rfl (hR.C.g 0 7 22 (by decide)) ?_
    refine E_getf (c := 8) (v := (0, (s 29))) rfl (hL.lt 22 rfl) (hL.k 22 rfl) rfl (fv (hSd.1)) ?_
    refine E_cmp3 rfl (by omega) (fun q1 => ?_) (fun q1 => ?_)
    · refine E_const rfl ?_
      refine E_iret rfl (fun h => absurd h (by decide)) ?_
      exact ⟨rfl, rfl⟩
    · exfalso; omega
  | succ k ih =>
    intro i hin
    have ho6 : b + 1 + i < 6 := by omega
    refine E_load rfl rfl rfl ?_
    refine E_load rfl rfl rfl ?_
    refine E_getr (c := 11) (r := 22) rfl (hL.lt 0 rfl) (hL.k 0 rfl) rfl (hR.C.g 0 7 22 (by decide)) ?_
    refine E_getf (c := 8) (v := (0, (s 29))) rfl (hL.lt 22 rfl) (hL.k 22 rfl) rfl (fv (hSd.1)) ?_
    refine E_cmp3 rfl (by omega) (fun q1 => ?_) (fun q1 => ?_)
    · exfalso; omega
    · refine E_load rfl rfl rfl ?_
      refine E_load rfl rfl rfl ?_
      refine E_S2 (y := 112) rfl rfl rfl rfl rfl (c_isIn (x := x - 2 ^ b) (b := b + 1 + i) hr64 ho6) (fun r h2 hq => ?_)
      obtain ⟨rfl, hh⟩ := hq
      subst hh
      refine E_if0 rfl (bI_R _) (fun q2 => ?_) (fun q2 => ?_)
      · replace q2 := bI_z q2
        refine E_iinc rfl rfl rfl ?_
        refine E_goto rfl ?_
        refine (ih (i + 1) (by omega)).mono ?_
        rintro r hE ⟨rfl, rfl⟩
        refine ⟨?_, rfl⟩
        have hno : ¬ (bt (x - 2 ^ b) (b + 1 + i) = 1 ∧ pcC s b (b + 1 + i) ∧ 1 + mpS s ((s 29).toNat - (b + 1)) (b + 1) (x - 2 ^ b - 2 ^ (b + 1 + i)) = mpS s ((s 29).toNat - (b + 1) + 1) b x) := fun z => absurd z.1 (by assumption)
        rw [lpN, if_neg hno]
        rfl
      · replace q2 := bI_nz q2
        refine E_load rfl rfl rfl ?_
        refine E_load rfl rfl rfl ?_
        refine E_load rfl rfl rfl ?_
        refine E_V2 (q := 0) (c := 11) (y := 132) rfl rfl (hL.lt 0 rfl) (hL.k 0 rfl) rfl rfl rfl rfl (c_mkP hL hR hG hSd (i := b) (j := (b + 1 + i)) (by omega) (by omega)) (fun r h2 hq => ?_)
        obtain ⟨rfl, hh⟩ := hq
        subst hh
        refine E_if0 rfl (bI_R _) (fun q3 => ?_) (fun q3 => ?_)
        · replace q3 := bI_z q3
          refine E_iinc rfl rfl rfl ?_
          refine E_goto rfl ?_
          refine (ih (i + 1) (by omega)).mono ?_
          rintro r hE ⟨rfl, rfl⟩
          refine ⟨?_, rfl⟩
          have hno : ¬ (bt (x - 2 ^ b) (b + 1 + i) = 1 ∧ pcC s b (b + 1 + i) ∧ 1 + mpS s ((s 29).toNat - (b + 1)) (b + 1) (x - 2 ^ b - 2 ^ (b + 1 + i)) = mpS s ((s 29).toNat - (b + 1) + 1) b x) := fun z => absurd z.2.1 (by assumption)
          rw [lpN, if_neg hno]
          rfl
        · replace q3 := bI_nz q3
          have hpc := q3
          have hb1 : bt (x - 2 ^ b) (b + 1 + i) = 1 := by assumption
          have hq1 := (takeB hr64 ho6 hb1).1.1
          have hq0 := Nat.pos_of_ne_zero (show 2 ^ (b + 1 + i) ≠ 0 by simp)
          have hq2 : x - 2 ^ b - 2 ^ (b + 1 + i) < x := Nat.lt_of_lt_of_le (Nat.sub_lt_of_pos_le hq0 hq1) hrx
          clear hq1 hq0
          have hm3 := mpS_in (s := s) (s 29).toNat 0 (x - 2 ^ b - 2 ^ (b + 1 + i))
          refine E_const rfl ?_
          refine E_load rfl rfl rfl ?_
          refine E_getr (c := 11) (r := 25) rfl (hL.lt 0 rfl) (hL.k 0 rfl) rfl (hR.C.g 0 8 25 (by decide)) ?_
          refine E_load rfl rfl rfl ?_
          refine E_const rfl ?_
          refine E_load rfl rfl rfl ?_
          refine E_bit (z := (mBit 8 1 (((b + 1 + i) : Nat) : Int))) rfl rfl rfl ?_
          refine E_bit (z := (((x - 2 ^ b - 2 ^ (b + 1 + i)) : Nat) : Int)) rfl rfl (tkX hr64 ho6 hb1) ?_
          refine E_const rfl ?_
          refine E_V2 (q := 25) (c := 8) (y := 60) rfl rfl (hL.lt 25 rfl) (hL.k 25 rfl) rfl rfl rfl rfl (s_atv (v := mpS s (s 29).toNat 0 (x - 2 ^ b - 2 ^ (b + 1 + i))) (sh25 hL hR.C) (by decide) (by decide) (by omega) (by omega) (by rw [hT.1]; omega) (by rw [hT.1]; omega) (tab_at hT (by omega))) (fun r h2 hq => ?_)
          obtain ⟨rfl, hh⟩ := hq
          subst hh
          refine E_add rfl ?_
          refine E_load rfl rfl rfl ?_
          refine E_getr (c := 11) (r := 25) rfl (hL.lt 0 rfl) (hL.k 0 rfl) rfl (hR.C.g 0 8 25 (by decide)) ?_
          refine E_load rfl rfl rfl ?_
          refine E_const rfl ?_
          refine E_V2 (q := 25) (c := 8) (y := 60) rfl rfl (hL.lt 25 rfl) (hL.k 25 rfl) rfl rfl rfl rfl (s_atv (v := mpS s (s 29).toNat 0 x) (sh25 hL hR.C) (by decide) (by decide) (by omega) (by omega) (by rw [hT.1]; omega) (by rw [hT.1]; omega) (tab_at hT (by omega))) (fun r h2 hq => ?_)
          obtain ⟨rfl, hh⟩ := hq
          subst hh
          refine E_cmp1 rfl (by omega) (fun q4 => ?_) (fun q4 => ?_)
          · have hne := q4
            refine E_iinc rfl rfl rfl ?_
            refine E_goto rfl ?_
            refine (ih (i + 1) (by omega)).mono ?_
            rintro r hE ⟨rfl, rfl⟩
            refine ⟨?_, rfl⟩
            have hno : ¬ (bt (x - 2 ^ b) (b + 1 + i) = 1 ∧ pcC s b (b + 1 + i) ∧ 1 + mpS s ((s 29).toNat - (b + 1)) (b + 1) (x - 2 ^ b - 2 ^ (b + 1 + i)) = mpS s ((s 29).toNat - (b + 1) + 1) b x) := fun z => by have z3 := z.2.2; rw [← m3 _ (by omega) ho6 hb1, ← m1] at z3; exact hne z3
            rw [lpN, if_neg hno]
            rfl
          · have heq := q4
            refine E_load rfl rfl rfl ?_
            refine E_iret rfl (fun h => absurd h (by decide)) ?_
            refine ⟨?_, rfl⟩
            rw [lpN, if_pos ⟨hb1, hpc, by rw [← m3 _ (by omega) ho6 hb1, ← m1]; exact heq⟩]
set_option maxHeartbeats 4000000 in
set_option maxRecDepth 100000 in
theorem c_lp {d : Nat} {h : Hp} {c : Nat → Nat → Int} {B : Nat → Nat} {s im : Nat → Int} {hi : Int} {L : List Int} (hL : Lay h) (hR : RepC h c B s im hi L) (hG : InvG s) (hSd : SaidR c s) {x b : Nat} (hT : TabR c s (fuN s + 1)) (hx : x ≤ fuN s) (hb : (b : Int) < s 29) (h1 : bt x b = 1) (h0 : ∀ j, j < b → bt x j = 0) : Ok (d + 5) 134 [(1, ((0 : Nat) : Int)), (0, (b : Int)), (0, (x : Int))] (wC h c) (fun r h2 => r = some (0, ptS s ((s 29).toNat - (b + 1)) b x) ∧ h2 = wC h c) := by
  show Ex _ none t_X10_leastPartner 0 0 _ [] (wC h c) _
  have hGG := hG
  obtain ⟨hI, hH, ⟨⟨n29, n30, n31, n32, n33, n34, n36⟩, nM⟩⟩ := hGG
  have hfl := fuN_lt n29.2
  refine E_load rfl rfl rfl ?_
  refine E_const rfl ?_
  refine E_load rfl rfl rfl ?_
  refine E_bit (z := (mBit 8 1 ((b : Nat) : Int))) rfl rfl rfl ?_
  refine E_bit (z := (((x - 2 ^ b) : Nat) : Int)) rfl rfl (tkX (by omega) (by omega) h1) ?_
  refine E_store rfl rfl rfl ?_
  refine E_load rfl rfl rfl ?_
  refine E_const rfl ?_
  refine E_add rfl ?_
  refine E_store rfl rfl rfl ?_
  refine (Cl_lp hL hR hG hSd hT hx hb h1 h0 _ 0 (Nat.zero_add _)).mono ?_
  rintro r hE ⟨rfl, rfl⟩
  exact ⟨by rw [ptS, if_pos h1], rfl⟩
set_option maxHeartbeats 4000000 in
set_option maxRecDepth 100000 in
theorem Cl_who {d : Nat} {h : Hp} {c : Nat → Nat → Int} {B : Nat → Nat} {s im : Nat → Int} {hi : Int} {L : List Int} (hL : Lay h) (hR : RepC h c B s im hi L) (hG : InvG s) (hSd : SaidR c s) (hT : TabR c s (fuN s + 1)) {w : Nat} (hw : w < 6) : ∀ (n b : Nat), b + n = (s 29).toNat → ∀ (x : Nat), x ≤ fuN s → (∀ j, j < b → bt x j = 0) → ∀ (v5 : AV), Ex (d + 6) none t_X10_partnerOf 0 5 [(1, ((0 : Nat) : Int)), (0, (w : Int)), (0, (fuN s : Int)), (0, (x : Int)), (0, (b : Int)), v5] [] (wC h c) (fun r h2 => r = some (0, grS s n b x w) ∧ h2 = wC h c) := by
  have hGG := hG
  obtain ⟨hI, hH, ⟨n29, n30, n31, n32, n33, n34, n36⟩, nM⟩ := hG
  have hG := hGG
  have hfl := fuN_lt n29.2
  intro n
  induction n with
  | zero =>
    intro b hbn x hx h0 v5
    refine E_load rfl rfl rfl ?_
    refine E_load rfl rfl rfl ?_
    refine E_getr (c := 11) (r := 22) rfl (hL.lt 0 rfl) (hL.k 0 rfl) rfl (hR.C.g 0 7 22 (by decide)) ?_
    refine E_getf (c := 8) (v := (0, (s 29))) rfl (hL.lt 22 rfl) (hL.k 22 rfl) rfl (fv (hSd.1)) ?_
    refine E_cmp3 rfl (by omega) (fun q1 => ?_) (fun q1 => ?_)
    · refine E_const rfl ?_
      refine E_iret rfl (fun h => absurd h (by decide)) ?_
      exact ⟨rfl, rfl⟩
    · exfalso; omega
  | succ n ih =>
    intro b hbn x hx h0 v5
    have hx64 : x < 64 := by omega
    have hnn : (s 29).toNat - (b + 1) = n := by omega
    have hor := ptS_or (s := s) (n := n) (b := b) (x := x)
    have hpin : -5 ≤ ptS s n b x ∧ ptS s n b x ≤ 6 := by rcases hor with e | ⟨q, g1, g2, g3, g4, e⟩ <;> omega
    have hlf := lfS_ok (s := s) (n := n) (b := b) hx64 (by omega) h0
    refine E_load rfl rfl rfl ?_
    refine E_load rfl rfl rfl ?_
    refine E_getr (c := 11) (r := 22) rfl (hL.lt 0 rfl) (hL.k 0 rfl) rfl (hR.C.g 0 7 22 (by decide)) ?_
    refine E_getf (c := 8) (v := (0, (s 29))) rfl (hL.lt 22 rfl) (hL.k 22 rfl) rfl (fv (hSd.1)) ?_
    refine E_cmp3 rfl (by omega) (fun q1 => ?_) (fun q1 => ?_)
    · exfalso; omega
    · refine E_load rfl rfl rfl ?_
      refine E_load rfl rfl rfl ?_
      refine E_S2 (y := 112) rfl rfl rfl rfl rfl (c_isIn (x := x) (b := b) hx64 (by omega)) (fun r h2 hq => ?_)
      obtain ⟨rfl, hh⟩ := hq
      subst hh
      refine E_if0 rfl (bI_R _) (fun q2 => ?_) (fun q2 => ?_)
      · replace q2 := bI_z q2
        have hp5 : ptS s n b x = -5 := if_neg (by assumption)
        refine E_const rfl ?_
        refine E_store rfl rfl rfl ?_
        refine E_load rfl rfl rfl ?_
        refine E_load rfl rfl rfl ?_
        refine E_cmp0 rfl (by omega) (fun q3 => ?_) (fun q3 => ?_)
        · refine E_load rfl rfl rfl ?_
          refine E_load rfl rfl rfl ?_
          refine E_cmp1 rfl (by omega) (fun q4 => ?_) (fun q4 => ?_)
          · refine E_load rfl rfl rfl ?_
            refine E_iret rfl (fun h => absurd h (by decide)) ?_
            refine ⟨?_, rfl⟩
            rw [grS_s]
            (repeat' split) <;> first | rfl | (exfalso; omega) | (congr 2; omega)
          · refine E_load rfl rfl rfl ?_
            refine E_goto rfl ?_
            refine E_iret rfl (fun h => absurd h (by decide)) ?_
            refine ⟨?_, rfl⟩
            rw [grS_s]
            (repeat' split) <;> first | rfl | (exfalso; omega) | (congr 2; omega)
        · refine E_load rfl rfl rfl ?_
          refine E_load rfl rfl rfl ?_
          refine E_cmp1 rfl (by omega) (fun q5 => ?_) (fun q5 => ?_)
          · refine E_load rfl rfl rfl ?_
            refine E_const rfl ?_
            refine E_load rfl rfl rfl ?_
            refine E_bit (z := (mBit 8 1 ((b : Nat) : Int))) rfl rfl rfl ?_
            refine E_const rfl ?_
            refine E_bit (z := (mBit 7 (mBit 8 1 ((b : Nat) : Int)) (-1))) rfl rfl rfl ?_
            refine E_bit (z := (((if bt x b = 1 then x - 2 ^ b else x) : Nat) : Int)) rfl rfl (clrB hx64 (by omega)) ?_
            refine E_store rfl rfl rfl ?_
            refine E_load rfl rfl rfl ?_
            refine E_if2 rfl (by omega) (fun q6 => ?_) (fun q6 => ?_)
            · refine E_iinc rfl rfl rfl ?_
              refine E_goto rfl ?_
              rw [show (if bt x b = 1 then x - 2 ^ b else x) = lfS b x (ptS s n b x) by unfold lfS; rw [hp5, if_pos rfl]]
              refine (ih (b + 1) (by omega) _ (Nat.le_trans hlf.1 hx) hlf.2 _).mono ?_
              rintro r hE ⟨rfl, rfl⟩
              exact ⟨by rw [grS_s, if_neg (by omega), if_neg (by omega)], rfl⟩
            · exfalso; omega
          · refine E_load rfl rfl rfl ?_
            refine E_load rfl rfl rfl ?_
            refine E_cmp1 rfl (by omega) (fun q7 => ?_) (fun q7 => ?_)
            · refine E_load rfl rfl rfl ?_
              refine E_iret rfl (fun h => absurd h (by decide)) ?_
              refine ⟨?_, rfl⟩
              rw [grS_s]
              (repeat' split) <;> first | rfl | (exfalso; omega) | (congr 2; omega)
            · refine E_load rfl rfl rfl ?_
              refine E_goto rfl ?_
              refine E_iret rfl (fun h => absurd h (by decide)) ?_
              refine ⟨?_, rfl⟩
              rw [grS_s]
              (repeat' split) <;> first | rfl | (exfalso; omega) | (congr 2; omega)
      · replace q2 := bI_nz q2
        refine E_load rfl rfl rfl ?_
        refine E_load rfl rfl rfl ?_
        refine E_load rfl rfl rfl ?_
        refine E_V2 (q := 0) (c := 11) (y := 134) rfl rfl (hL.lt 0 rfl) (hL.k 0 rfl) rfl rfl rfl rfl ((by rw [← hnn]; exact c_lp hL hR hG hSd hT hx (by omega) (by assumption) h0 : Ok (d + 5) 134 [(1, ((0 : Nat) : Int)), (0, (b : Int)), (0, (x : Int))] (wC h c) (fun r h2 => r = some (0, ptS s n b x) ∧ h2 = wC h c))) (fun r h2 hq => ?_)
        obtain ⟨rfl, hh⟩ := hq
        subst hh
        refine E_goto rfl ?_
        refine E_store rfl rfl rfl ?_
        refine E_load rfl rfl rfl ?_
        refine E_load rfl rfl rfl ?_
        refine E_cmp0 rfl (by omega) (fun q8 => ?_) (fun q8 => ?_)
        · refine E_load rfl rfl rfl ?_
          refine E_load rfl rfl rfl ?_
          refine E_cmp1 rfl (by omega) (fun q9 => ?_) (fun q9 => ?_)
          · refine E_load rfl rfl rfl ?_
            refine E_iret rfl (fun h => absurd h (by decide)) ?_
            refine ⟨?_, rfl⟩
            rw [grS_s]
            (repeat' split) <;> first | rfl | (exfalso; omega) | (congr 2; omega)
          · refine E_load rfl rfl rfl ?_
            refine E_goto rfl ?_
            refine E_iret rfl (fun h => absurd h (by decide)) ?_
            refine ⟨?_, rfl⟩
            rw [grS_s]
            (repeat' split) <;> first | rfl | (exfalso; omega) | (congr 2; omega)
        · refine E_load rfl rfl rfl ?_
          refine E_load rfl rfl rfl ?_
          refine E_cmp1 rfl (by omega) (fun q10 => ?_) (fun q10 => ?_)
          · refine E_load rfl rfl rfl ?_
            refine E_const rfl ?_
            refine E_load rfl rfl rfl ?_
            refine E_bit (z := (mBit 8 1 ((b : Nat) : Int))) rfl rfl rfl ?_
            refine E_const rfl ?_
            refine E_bit (z := (mBit 7 (mBit 8 1 ((b : Nat) : Int)) (-1))) rfl rfl rfl ?_
            refine E_bit (z := (((if bt x b = 1 then x - 2 ^ b else x) : Nat) : Int)) rfl rfl (clrB hx64 (by omega)) ?_
            refine E_store rfl rfl rfl ?_
            refine E_load rfl rfl rfl ?_
            refine E_if2 rfl (by omega) (fun q11 => ?_) (fun q11 => ?_)
            · refine E_iinc rfl rfl rfl ?_
              refine E_goto rfl ?_
              have hp6 : ptS s n b x = -5 := by rcases hor with e | ⟨q, g1, g2, g3, g4, e⟩ <;> omega
              rw [show (if bt x b = 1 then x - 2 ^ b else x) = lfS b x (ptS s n b x) by unfold lfS; rw [hp6, if_pos rfl]]
              refine (ih (b + 1) (by omega) _ (Nat.le_trans hlf.1 hx) hlf.2 _).mono ?_
              rintro r hE ⟨rfl, rfl⟩
              exact ⟨by rw [grS_s, if_neg (by omega), if_neg (by omega)], rfl⟩
            · obtain ⟨q, g1, g2, g3, g4, hq⟩ : ∃ q, b < q ∧ q < b + 1 + n ∧ bt x b = 1 ∧ bt (x - 2 ^ b) q = 1 ∧ ptS s n b x = (q : Int) := hor.resolve_left (by omega)
              clear hor
              refine E_load rfl rfl rfl ?_
              refine E_const rfl ?_
              refine E_load rfl rfl rfl ?_
              refine E_bit (z := (mBit 8 1 (ptS s n b x))) rfl rfl rfl ?_
              refine E_bit (z := ((((if bt x b = 1 then x - 2 ^ b else x) - 2 ^ q) : Nat) : Int)) rfl rfl (by rw [hq]; exact tkX (Nat.lt_of_le_of_lt clr_le hx64) (by omega) (by rw [if_pos g3]; exact g4)) ?_
              refine E_store rfl rfl rfl ?_
              refine E_iinc rfl rfl rfl ?_
              refine E_goto rfl ?_
              rw [show (if bt x b = 1 then x - 2 ^ b else x) - 2 ^ q = lfS b x (ptS s n b x) by unfold lfS; rw [hq, if_neg (show ¬ ((q : Int) = -5) by omega), Int.toNat_natCast]]
              refine (ih (b + 1) (by omega) _ (Nat.le_trans hlf.1 hx) hlf.2 _).mono ?_
              rintro r hE ⟨rfl, rfl⟩
              exact ⟨by rw [grS_s, if_neg (by omega), if_neg (by omega)], rfl⟩
          · refine E_load rfl rfl rfl ?_
            refine E_load rfl rfl rfl ?_
            refine E_cmp1 rfl (by omega) (fun q12 => ?_) (fun q12 => ?_)
            · refine E_load rfl rfl rfl ?_
              refine E_iret rfl (fun h => absurd h (by decide)) ?_
              refine ⟨?_, rfl⟩
              rw [grS_s]
              (repeat' split) <;> first | rfl | (exfalso; omega) | (congr 2; omega)
            · refine E_load rfl rfl rfl ?_
              refine E_goto rfl ?_
              refine E_iret rfl (fun h => absurd h (by decide)) ?_
              refine ⟨?_, rfl⟩
              rw [grS_s]
              (repeat' split) <;> first | rfl | (exfalso; omega) | (congr 2; omega)
set_option maxHeartbeats 4000000 in
set_option maxRecDepth 100000 in
theorem c_who {d : Nat} {h : Hp} {c : Nat → Nat → Int} {B : Nat → Nat} {s im : Nat → Int} {hi : Int} {L : List Int} (hL : Lay h) (hR : RepC h c B s im hi L) (hG : InvG s) (hSd : SaidR c s) (hT : TabR c s (fuN s + 1)) {w : Nat} (hw : w < 6) : Ok (d + 6) 133 [(1, ((0 : Nat) : Int)), (0, (w : Int)), (0, (fuN s : Int))] (wC h c) (fun r h2 => r = some (0, grS s (s 29).toNat 0 (fuN s) w) ∧ h2 = wC h c) := by
  show Ex _ none t_X10_partnerOf 0 0 _ [] (wC h c) _
  have hGG := hG
  obtain ⟨hI, hH, ⟨⟨n29, n30, n31, n32, n33, n34, n36⟩, nM⟩⟩ := hGG
  refine E_load rfl rfl rfl ?_
  refine E_store rfl rfl rfl ?_
  refine E_const rfl ?_
  refine E_store rfl rfl rfl ?_
  exact Cl_who hL hR hG hSd hT hw _ 0 (Nat.zero_add _) _ (Nat.le_refl _) (fun j hj => absurd hj (Nat.not_lt_zero j)) _
