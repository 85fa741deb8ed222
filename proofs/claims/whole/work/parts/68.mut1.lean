theorem mutC {h : Hp} {c c2 : Nat → Nat → Int} {B : Nat → Nat} {im : Nat → Int} {hi : Int} {L : List Int} {F : AS} {v : Int} {s' : Nat → Int} (e : F = (v, s')) (hR : RepC h c2 B s' im hi L) (fr : EqP FrC c c2) : some ((0, v) : AV) = some (0, F.1) ∧ ∃ c3, wC h c2 = wC h c3 ∧ RepC h c3 B F.2 im hi L ∧ EqP FrC c c3 := by
  subst e
  exact ⟨rfl, c2, rfl, hR, fr⟩
set_option maxHeartbeats 4000000 in
set_option maxRecDepth 100000 in
theorem c_added1 {d : Nat} {h : Hp} {c : Nat → Nat → Int} {a m : Nat} (hS : Sh h c a 1 m) (hm : m ≤ 400) {x y z : Int} (hR : 0 ≤ c a 3 ∧ c a 3 * 1 ≤ m) (hR2 : c a 3 ≤ 400) : Ok (d + 1) 116 [(1, ((a : Nat) : Int)), (0, x), (0, y), (0, z)] (wC h c) (fun r h2 => r = some (0, if c a 3 * 1 + 1 ≤ m then c a 3 + 1 else -4) ∧ ∃ c2, h2 = wC h c2 ∧ c2 = if c a 3 * 1 + 1 ≤ m then adS c a 1 x y z else c) := by
  show Ex _ none t_X10_added 0 0 _ [] (wC h c) _
  refine E_load rfl rfl rfl ?_
  refine E_load rfl rfl rfl ?_
  refine E_load rfl rfl rfl ?_
  refine E_load rfl rfl rfl ?_
  rcases Classical.em (c a 3 * 1 + 1 ≤ m) with hc | hc
  · refine E_V3 (q := a) (c := 8) (y := 59) rfl rfl (by have := hS.1; omega : a < mN h) hS.2.1 rfl rfl rfl rfl (s_add1 hS hm hR hR2) (fun r h2 hq => ?_)
    obtain ⟨rfl, c_1, hh, hc_1⟩ := hq
    subst hh
    rw [bI_t hc]
    rw [if_pos hc] at hc_1
    refine E_if0 rfl (by omega) (fun q1 => ?_) (fun q1 => ?_)
    · exfalso; omega
    · refine E_load rfl rfl rfl ?_
      refine E_getf (c := 8) (v := (0, (c a 3 + 1))) rfl (by have := hS.1; omega : a < mN h) hS.2.1 rfl (fv (by rw [hc_1]; exact up2_same)) ?_
      refine E_goto rfl ?_
      refine E_iret rfl (fun h => absurd h (by decide)) ?_
      exact ⟨by rw [if_pos hc], c_1, rfl, by rw [if_pos hc]; exact hc_1⟩
  · refine E_V3 (q := a) (c := 8) (y := 59) rfl rfl (by have := hS.1; omega : a < mN h) hS.2.1 rfl rfl rfl rfl (s_add1 hS hm hR hR2) (fun r h2 hq => ?_)
    obtain ⟨rfl, c_1, hh, hc_1⟩ := hq
    subst hh
    rw [bI_f hc]
    rw [if_neg hc] at hc_1
    refine E_if0 rfl (by omega) (fun q2 => ?_) (fun q2 => ?_)
    · refine E_const rfl ?_
      refine E_iret rfl (fun h => absurd h (by decide)) ?_
      exact ⟨by rw [if_neg hc], c_1, rfl, by rw [if_neg hc]; exact hc_1⟩
    · exfalso; omega
set_option maxHeartbeats 4000000 in
set_option maxRecDepth 100000 in
theorem c_added2 {d : Nat} {h : Hp} {c : Nat → Nat → Int} {a m : Nat} (hS : Sh h c a 2 m) (hm : m ≤ 400) {x y z : Int} (hR : 0 ≤ c a 3 ∧ c a 3 * 2 ≤ m) (hR2 : c a 3 ≤ 400) : Ok (d + 1) 116 [(1, ((a : Nat) : Int)), (0, x), (0, y), (0, z)] (wC h c) (fun r h2 => r = some (0, if c a 3 * 2 + 2 ≤ m then c a 3 + 1 else -4) ∧ ∃ c2, h2 = wC h c2 ∧ c2 = if c a 3 * 2 + 2 ≤ m then adS c a 2 x y z else c) := by
  show Ex _ none t_X10_added 0 0 _ [] (wC h c) _
  refine E_load rfl rfl rfl ?_
  refine E_load rfl rfl rfl ?_
  refine E_load rfl rfl rfl ?_
  refine E_load rfl rfl rfl ?_
  rcases Classical.em (c a 3 * 2 + 2 ≤ m) with hc | hc
  · refine E_V3 (q := a) (c := 8) (y := 59) rfl rfl (by have := hS.1; omega : a < mN h) hS.2.1 rfl rfl rfl rfl (s_add2 hS hm hR hR2) (fun r h2 hq => ?_)
    obtain ⟨rfl, c_1, hh, hc_1⟩ := hq
    subst hh
    rw [bI_t hc]
    rw [if_pos hc] at hc_1
    refine E_if0 rfl (by omega) (fun q1 => ?_) (fun q1 => ?_)
    · exfalso; omega
    · refine E_load rfl rfl rfl ?_
      refine E_getf (c := 8) (v := (0, (c a 3 + 1))) rfl (by have := hS.1; omega : a < mN h) hS.2.1 rfl (fv (by rw [hc_1]; exact up2_same)) ?_
      refine E_goto rfl ?_
      refine E_iret rfl (fun h => absurd h (by decide)) ?_
      exact ⟨by rw [if_pos hc], c_1, rfl, by rw [if_pos hc]; exact hc_1⟩
  · refine E_V3 (q := a) (c := 8) (y := 59) rfl rfl (by have := hS.1; omega : a < mN h) hS.2.1 rfl rfl rfl rfl (s_add2 hS hm hR hR2) (fun r h2 hq => ?_)
    obtain ⟨rfl, c_1, hh, hc_1⟩ := hq
    subst hh
    rw [bI_f hc]
    rw [if_neg hc] at hc_1
    refine E_if0 rfl (by omega) (fun q2 => ?_) (fun q2 => ?_)
    · refine E_const rfl ?_
      refine E_iret rfl (fun h => absurd h (by decide)) ?_
      exact ⟨by rw [if_neg hc], c_1, rfl, by rw [if_neg hc]; exact hc_1⟩
    · exfalso; omega
set_option maxHeartbeats 4000000 in
set_option maxRecDepth 100000 in
theorem c_added3 {d : Nat} {h : Hp} {c : Nat → Nat → Int} {a m : Nat} (hS : Sh h c a 3 m) (hm : m ≤ 400) {x y z : Int} (hR : 0 ≤ c a 3 ∧ c a 3 * 3 ≤ m) (hR2 : c a 3 ≤ 400) : Ok (d + 1) 116 [(1, ((a : Nat) : Int)), (0, x), (0, y), (0, z)] (wC h c) (fun r h2 => r = some (0, if c a 3 * 3 + 3 ≤ m then c a 3 + 1 else -4) ∧ ∃ c2, h2 = wC h c2 ∧ c2 = if c a 3 * 3 + 3 ≤ m then adS c a 3 x y z else c) := by
  show Ex _ none t_X10_added 0 0 _ [] (wC h c) _
  refine E_load rfl rfl rfl ?_
  refine E_load rfl rfl rfl ?_
  refine E_load rfl rfl rfl ?_
  refine E_load rfl rfl rfl ?_
  rcases Classical.em (c a 3 * 3 + 3 ≤ m) with hc | hc
  · refine E_V3 (q := a) (c := 8) (y := 59) rfl rfl (by have := hS.1; omega : a < mN h) hS.2.1 rfl rfl rfl rfl (s_add3 hS hm hR hR2) (fun r h2 hq => ?_)
    obtain ⟨rfl, c_1, hh, hc_1⟩ := hq
    subst hh
    rw [bI_t hc]
    rw [if_pos hc] at hc_1
    refine E_if0 rfl (by omega) (fun q1 => ?_) (fun q1 => ?_)
    · exfalso; omega
    · refine E_load rfl rfl rfl ?_
      refine E_getf (c := 8) (v := (0, (c a 3 + 1))) rfl (by have := hS.1; omega : a < mN h) hS.2.1 rfl (fv (by rw [hc_1]; exact up2_same)) ?_
      refine E_goto rfl ?_
      refine E_iret rfl (fun h => absurd h (by decide)) ?_
      exact ⟨by rw [if_pos hc], c_1, rfl, by rw [if_pos hc]; exact hc_1⟩
  · refine E_V3 (q := a) (c := 8) (y := 59) rfl rfl (by have := hS.1; omega : a < mN h) hS.2.1 rfl rfl rfl rfl (s_add3 hS hm hR hR2) (fun r h2 hq => ?_)
    obtain ⟨rfl, c_1, hh, hc_1⟩ := hq
    subst hh
    rw [bI_f hc]
    rw [if_neg hc] at hc_1
    refine E_if0 rfl (by omega) (fun q2 => ?_) (fun q2 => ?_)
    · refine E_const rfl ?_
      refine E_iret rfl (fun h => absurd h (by decide)) ?_
      exact ⟨by rw [if_neg hc], c_1, rfl, by rw [if_neg hc]; exact hc_1⟩
    · exfalso; omega
set_option maxHeartbeats 4000000 in
set_option maxRecDepth 100000 in
theorem C_feed {d : Nat} {h : Hp} {c : Nat → Nat → Int} {B : Nat → Nat} {s im : Nat → Int} {hi : Int} {L : List Int} (hL : Lay h) (hR : RepC h c B s im hi L) (hA : Inv s) {x : Int} (hx : inR x) : Ok (d + 8) 74 [(1, ((0 : Nat) : Int)), (0, x)] (wC h c) (fun r h2 => r = some (0, (f_feed s x).1) ∧ ∃ c2, h2 = wC h c2 ∧ RepC h c2 B (f_feed s x).2 im hi L ∧ EqP FrC c c2) := by
  show Ex _ none t_X10_feed 0 0 _ [] (wC h c) _
  have hAA := hA
  have hG := hA.G
  obtain ⟨hI, hH, ⟨⟨n29, n30, n31, n32, n33, n34, n36⟩, nM⟩, hX⟩ := hA
  refine E_load rfl rfl rfl ?_
  refine E_const rfl ?_
  refine E_const rfl ?_
  refine E_S3 (y := 111) rfl rfl rfl rfl rfl (c_within (by omega) (by omega) (by omega)) (fun r h2 hq => ?_)
  obtain ⟨rfl, hh⟩ := hq
  subst hh
  refine E_if1 rfl (bI_R _) (fun q1 => ?_) (fun q1 => ?_)
  · replace q1 := bI_nz q1
    refine E_load rfl rfl rfl ?_
    refine E_getr (c := 11) (r := 1) rfl (hL.lt 0 rfl) (hL.k 0 rfl) rfl (hR.C.g 0 0 1 (by decide)) ?_
    refine E_load rfl rfl rfl ?_
    refine E_const rfl ?_
    refine E_const rfl ?_
    rcases Classical.em (s 34 < 100) with hlt | hlt
    · obtain ⟨n, hn⟩ := Int.eq_ofNat_of_zero_le (show 0 ≤ s 34 by omega)
      refine E_S4 (y := 116) rfl rfl rfl rfl rfl (c_added1 (sh1 hL hR.C) (by decide) (by rw [show c 1 3 = s 34 from hR.tape.1]; omega) (by rw [show c 1 3 = s 34 from hR.tape.1]; omega)) (fun r h2 hq => ?_)
      obtain ⟨rfl, c_1, hh, hc_1⟩ := hq
      subst hh
      rw [show c 1 3 = s 34 from hR.tape.1] at hc_1 ⊢
      rw [if_pos (by omega)] at hc_1 ⊢
      have hc : c_1 = up2 (up2 c 2 n x) 1 3 (s 34 + 1) := by
        rw [hc_1]
        unfold adS
        rw [show c 1 3 = s 34 from hR.tape.1, hn, show ((n : Int) * ((1 : Nat) : Int)).toNat = n by omega]
        rfl
      have hE : EqP (fun a k => a = 2 ∨ (a = 1 ∧ k = 3)) c c_1 := by
        rw [hc]
        exact (EqP.up (by omega)).trans (EqP.up (by omega))
      refine E_iret rfl (fun h => absurd h (by decide)) ?_
      refine mutC (s' := upd1 (upd1 s (128 + n) x) 34 (s 34 + 1)) ?_ ?_ (hE.mono (fun a k e => by unfold FrC; omega))
      · unfold f_feed
        try simp only [hn, Int.toNat_natCast]
        first | (exfalso; omega) | (rw [if_pos (by omega)] <;> rfl) | (rw [if_neg (by omega), if_pos (by omega)] <;> rfl) | (rw [if_neg (by omega)] <;> rfl) | (rw [if_neg (by omega), if_neg (by omega), if_pos (by omega)] <;> rfl) | (rw [if_neg (by omega), if_neg (by omega)] <;> rfl) | (rw [if_neg (by omega), if_neg (by omega), if_neg (by omega), if_pos (by omega)] <;> rfl) | (rw [if_neg (by omega), if_neg (by omega), if_neg (by omega)] <;> rfl) | (rw [if_neg (by omega), if_neg (by omega), if_neg (by omega), if_neg (by omega), if_pos (by omega)] <;> rfl) | (rw [if_neg (by omega), if_neg (by omega), if_neg (by omega), if_neg (by omega)] <;> rfl) | (rw [if_neg (by omega), if_neg (by omega), if_neg (by omega), if_neg (by omega), if_neg (by omega), if_pos (by omega)] <;> rfl) | (rw [if_neg (by omega), if_neg (by omega), if_neg (by omega), if_neg (by omega), if_neg (by omega)] <;> rfl) | (rw [if_neg (by omega), if_neg (by omega), if_neg (by omega), if_neg (by omega), if_neg (by omega), if_neg (by omega), if_pos (by omega)] <;> rfl) | (rw [if_neg (by omega), if_neg (by omega), if_neg (by omega), if_neg (by omega), if_neg (by omega), if_neg (by omega)] <;> rfl)
      refine RepC.mkS hR hAA (fun a k hk => hE a k (by unfold shW at hk; omega)) (fun k hk => by rw [upd1_ne (by omega), upd1_ne (by omega)]) ?_ ?_ ?_ ?_ ?_
      · refine ⟨by rw [hc]; exact up2_same.trans upd1_same.symm, fun k hk => ?_⟩
        rw [upd1_same] at hk
        rw [hc, up2_fldN (by omega)]
        by_cases e : k = n
        · rw [e, upd1_ne (by omega), upd1_same]; exact up2_same
        · rw [up2_fldN (by omega), upd1_ne (by omega), upd1_ne (by omega)]; exact hR.tape.2 k (by omega)
      · rw [hE 4 3 (by omega), hE.row 5 (fun k => by omega)]; exact hR.mood.tr (fun k hk => by rw [upd1_ne (by omega), upd1_ne (by omega)]) n36.2
      · rw [hE 10 3 (by omega), hE.row 11 (fun k => by omega)]; exact hR.seen.tr (fun k hk => by rw [upd1_ne (by omega), upd1_ne (by omega)]) n31.2
      · rw [hE 13 3 (by omega), hE.row 14 (fun k => by omega)]; exact hR.eve.tr (fun k hk => by rw [upd1_ne (by omega), upd1_ne (by omega)]) n32.2
      · rw [hE 16 3 (by omega), hE.row 17 (fun k => by omega)]; exact hR.book.tr (fun k hk => by rw [upd1_ne (by omega), upd1_ne (by omega)]) n33.2
    · refine E_S4 (y := 116) rfl rfl rfl rfl rfl (c_added1 (sh1 hL hR.C) (by decide) (by rw [show c 1 3 = s 34 from hR.tape.1]; omega) (by rw [show c 1 3 = s 34 from hR.tape.1]; omega)) (fun r h2 hq => ?_)
      obtain ⟨rfl, c_1, hh, hc_1⟩ := hq
      subst hh
      rw [show c 1 3 = s 34 from hR.tape.1] at hc_1 ⊢
      rw [if_neg (by omega)] at hc_1 ⊢
      subst hc_1
      refine E_iret rfl (fun h => absurd h (by decide)) ?_
      refine mutC (s' := s) ?_ hR EqP.nil
      unfold f_feed
      try simp only [Int.toNat_natCast]
      first | (exfalso; omega) | (rw [if_pos (by omega)] <;> rfl) | (rw [if_neg (by omega), if_pos (by omega)] <;> rfl) | (rw [if_neg (by omega)] <;> rfl) | (rw [if_neg (by omega), if_neg (by omega), if_pos (by omega)] <;> rfl) | (rw [if_neg (by omega), if_neg (by omega)] <;> rfl) | (rw [if_neg (by omega), if_neg (by omega), if_neg (by omega), if_pos (by omega)] <;> rfl) | (rw [if_neg (by omega), if_neg (by omega), if_neg (by omega)] <;> rfl) | (rw [if_neg (by omega), if_neg (by omega), if_neg (by omega), if_neg (by omega), if_pos (by omega)] <;> rfl) | (rw [if_neg (by omega), if_neg (by omega), if_neg (by omega), if_neg (by omega)] <;> rfl) | (rw [if_neg (by omega), if_neg (by omega), if_neg (by omega), if_neg (by omega), if_neg (by omega), if_pos (by omega)] <;> rfl) | (rw [if_neg (by omega), if_neg (by omega), if_neg (by omega), if_neg (by omega), if_neg (by omega)] <;> rfl) | (rw [if_neg (by omega), if_neg (by omega), if_neg (by omega), if_neg (by omega), if_neg (by omega), if_neg (by omega), if_pos (by omega)] <;> rfl) | (rw [if_neg (by omega), if_neg (by omega), if_neg (by omega), if_neg (by omega), if_neg (by omega), if_neg (by omega)] <;> rfl)
  · replace q1 := bI_z q1
    refine E_const rfl ?_
    refine E_iret rfl (fun h => absurd h (by decide)) ?_
    refine mutC (s' := s) ?_ hR EqP.nil
    unfold f_feed
    try simp only [Int.toNat_natCast]
    first | (exfalso; omega) | (rw [if_pos (by omega)] <;> rfl) | (rw [if_neg (by omega), if_pos (by omega)] <;> rfl) | (rw [if_neg (by omega)] <;> rfl) | (rw [if_neg (by omega), if_neg (by omega), if_pos (by omega)] <;> rfl) | (rw [if_neg (by omega), if_neg (by omega)] <;> rfl) | (rw [if_neg (by omega), if_neg (by omega), if_neg (by omega), if_pos (by omega)] <;> rfl) | (rw [if_neg (by omega), if_neg (by omega), if_neg (by omega)] <;> rfl) | (rw [if_neg (by omega), if_neg (by omega), if_neg (by omega), if_neg (by omega), if_pos (by omega)] <;> rfl) | (rw [if_neg (by omega), if_neg (by omega), if_neg (by omega), if_neg (by omega)] <;> rfl) | (rw [if_neg (by omega), if_neg (by omega), if_neg (by omega), if_neg (by omega), if_neg (by omega), if_pos (by omega)] <;> rfl) | (rw [if_neg (by omega), if_neg (by omega), if_neg (by omega), if_neg (by omega), if_neg (by omega)] <;> rfl) | (rw [if_neg (by omega), if_neg (by omega), if_neg (by omega), if_neg (by omega), if_neg (by omega), if_neg (by omega), if_pos (by omega)] <;> rfl) | (rw [if_neg (by omega), if_neg (by omega), if_neg (by omega), if_neg (by omega), if_neg (by omega), if_neg (by omega)] <;> rfl)
