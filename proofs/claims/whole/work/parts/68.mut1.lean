theorem mutC {h : Hp} {c c2 : Nat → Nat → Int} {B : Nat → Nat} {im : Nat → Int} {hi : Int} {L : List Int} {F : AS} {v : Int} {s' : Nat → Int} (e : F = (v, s')) (hR : RepC h c2 B s' im hi L) (fr : EqP FrC c c2) : some ((0, v) : AV) = some (0, F.1) ∧ ∃ c3, wC h c2 = wC h c3 ∧ RepC h c3 B F.2 im hi L ∧ EqP FrC c c3 := by
  subst e
  exact ⟨rfl, c2, rfl, hR, fr⟩
set_option maxHeartbeats 4000000 in
set_option maxRecDepth 100000 in
theorem c_added1 {d : Nat} {h : Hp} {c : Nat → Nat → Int} {a m : Nat} (hS : Sh h c a 1 m) (hm : m ≤ 400) {x y z : Int} (hR : 0 ≤ c a 3 ∧ c a 3 * 1 ≤ m) (hR2 : c a 3 ≤ 400) : Ok (d + 1) 116 [(1, ((a : Nat) : Int)), (0, x), (0, y), (0, z)] (wC h c) (fun r h2 => r = some (0, if c a 3 * 1 + 1 ≤ m then c a 3 + 1 else -4) ∧ ∃ c2, h2 = wC h c2 ∧ c2 = if c a 3 * 1 + 1 ≤ m then adS c a 1 x y z else c) := by
  show Ex _ none t_X10_added 0 0 _ [] (wC h c) _
  refine E_load rfl rfl rfl ?_
  refine E_load rfl rfl rfl ?_
  refine E_load rfl rfl rfl ?_
  refine E_load rfl rfl rfl ?_
  rcases Classical.em (c a 3 * 1 + 1 ≤ m) with hc | hc
  · refine E_V3 (q := a) (c := 8) (y := 59) rfl rfl (by have := hS.1; omega : a < mN h) hS.2.1 rfl rfl rfl rfl (s_add1 hS hm hR hR2) (fun r h2 hq => ?_)
    obtain ⟨rfl, c_1, hh, hc_1⟩ := hq
    subst hh
    rw [bI_t hc]
    rw [if_pos hc] at hc_1
    refine E_if0 rfl (by omega) (fun q1 => ?_) (fun q1 => ?_)
    · exfalso; omega
    · refine E_load rfl rfl rfl ?_
      refine E_getf (c := 8) (v := (0, (c a 3 + 1))) rfl (by have := hS.1; omega : a < mN h) hS.2.1 rfl (fv (by rw [hc_1]; exact up2_same)) ?_
      refine E_goto rfl ?_
      refine E_iret rfl (fun h => absurd h (by decide)) ?_
      exact ⟨by rw [if_pos hc], c_1, rfl, by rw [if_pos hc]; exact hc_1⟩
  · refine E_V3 (q := a) (c := 8) (y := 59) rfl rfl (by have := hS.1; omega : a < mN h) hS.2.1 rfl rfl rfl rfl (s_add1 hS hm hR hR2) (fun r h2 hq => ?_)
    obtain ⟨rfl, c_1, hh, hc_1⟩ := hq
    subst hh
    rw [bI_f hc]
    rw [if_neg hc] at hc_1
    refine E_if0 rfl (by omega) (fun q2 => ?_) (fun q2 => ?_)
    · refine E_const rfl ?_
      refine E_iret rfl (fun h => absurd h (by decide)) ?_
      exact ⟨by rw [if_neg hc], c_1, rfl, by rw [if_neg hc]; exact hc_1⟩
    · exfalso; omega
set_option maxHeartbeats 4000000 in
set_option maxRecDepth 100000 in
theorem c_added2 {d : Nat} {h : Hp} {c : Nat → Nat → Int} {a m : Nat} (hS : Sh h c a 2 m) (hm : m ≤ 400) {x y z : Int} (hR : 0 ≤ c a 3 ∧ c a 3 * 2 ≤ m) (hR2 : c a 3 ≤ 400) : Ok (d + 1) 116 [(1, ((a : Nat) : Int)), (0, x), (0, y), (0, z)] (wC h c) (fun r h2 => r = some (0, if c a 3 * 2 + 2 ≤ m then c a 3 + 1 else -4) ∧ ∃ c2, h2 = wC h c2 ∧ c2 = if c a 3 * 2 + 2 ≤ m then adS c a 2 x y z else c) := by
  show Ex _ none t_X10_added 0 0 _ [] (wC h c) _
  refine E_load rfl rfl rfl ?_
  refine E_load rfl rfl rfl ?_
  refine E_load rfl rfl rfl ?_
  refine E_load rfl rfl rfl ?_
  rcases Classical.em (c a 3 * 2 + 2 ≤ m) with hc | hc
  · refine E_V3 (q := a) (c := 8) (y := 59) rfl rfl (by have := hS.1; omega : a < mN h) hS.2.1 rfl rfl rfl rfl (s_add2 hS hm hR hR2) (fun r h2 hq => ?_)
    obtain ⟨rfl, c_1, hh, hc_1⟩ := hq
    subst hh
    rw [bI_t hc]
    rw [if_pos hc] at hc_1
    refine E_if0 rfl (by omega) (fun q1 => ?_) (fun q1 => ?_)
    · exfalso; omega
    · refine E_load rfl rfl rfl ?_
      refine E_getf (c := 8) (v := (0, (c a 3 + 1))) rfl (by have := hS.1; omega : a < mN h) hS.2.1 rfl (fv (by rw [hc_1]; exact up2_same)) ?_
      refine E_goto rfl ?_
      refine E_iret rfl (fun h => absurd h (by decide)) ?_
      exact ⟨by rw [if_pos hc], c_1, rfl, by rw [if_pos hc]; exact hc_1⟩
  · refine E_V3 (q := a) (c := 8) (y := 59) rfl rfl (by have := hS.1; omega : a < mN h) hS.2.1 rfl rfl rfl rfl (s_add2 hS hm hR hR2) (fun r h2 hq => ?_)
    obtain ⟨rfl, c_1, hh, hc_1⟩ := hq
    subst hh
    rw [bI_f hc]
    rw [if_neg hc] at hc_1
    refine E_if0 rfl (by omega) (fun q2 => ?_) (fun q2 => ?_)
    · refine E_const rfl ?_
      refine E_iret rfl (fun h => absurd h (by decide)) ?_
      exact ⟨by rw [if_neg hc], c_1, rfl, by rw [if_neg hc]; exact hc_1⟩
    · exfalso; omega
set_option maxHeartbeats 4000000 in
set_option maxRecDepth 100000 in
theorem c_added3 {d : Nat} {h : Hp} {c : Nat → Nat → Int} {a m : Nat} (hS : Sh h c a 3 m) (hm : m ≤ 400) {x y z : Int} (hR : 0 ≤ c a 3 ∧ c a 3 * 3 ≤ m) (hR2 : c a 3 ≤ 400) : Ok (d + 1) 116 [(1, ((a : Nat) : Int)), (0, x), (0, y), (0, z)] (wC h c) (fun r h2 => r = some (0, if c a 3 * 3 + 3 ≤ m then c a 3 + 1 else -4) ∧ ∃ c2, h2 = wC h c2 ∧ c2 = if c a 3 * 3 + 3 ≤ m then adS c a 3 x y z else c) := by
  show Ex _ none t_X10_added 0 0 _ [] (wC h c) _
  refine E_load rfl rfl rfl ?_
  refine E_load rfl rfl rfl ?_
  refine E_load rfl rfl rfl ?_
  refine E_load rfl rfl rfl ?_
  rcases Classical.em (c a 3 * 3 + 3 ≤ m) with hc | hc
  · refine E_V3 (q := a) (c := 8) (y := 59) rfl rfl (by have := hS.1; omega : a < mN h) hS.2.1 rfl rfl rfl rfl (s_add3 hS hm hR hR2) (fun r h2 hq => ?_)
    obtain ⟨rfl, c_1, hh, hc_1⟩ := hq
    subst hh
    rw [bI_t hc]
    rw [if_pos hc] at hc_1
    refine E_if0 rfl (by omega) (fun q1 => ?_) (fun q1 => ?_)
    · exfalso; omega
    · refine E_load rfl rfl rfl ?_
      refine E_getf (c := 8) (v := (0, (c a 3 + 1))) rfl (by have := hS.1; omega : a < mN h) hS.2.1 rfl (fv (by rw [hc_1]; exact up2_same)) ?_
      refine E_goto rfl ?_
      refine E_iret rfl (fun h => absurd h (by decide)) ?_
      exact ⟨by rw [if_pos hc], c_1, rfl, by rw [if_pos hc]; exact hc_1⟩
  · refine E_V3 (q := a) (c := 8) (y := 59) rfl rfl (by have := hS.1; omega : a < mN h) hS.2.1 rfl rfl rfl rfl (s_add3 hS hm hR hR2) (fun r h2 hq => ?_)
    obtain ⟨rfl, c_1, hh, hc_1⟩ := hq
    subst hh
    rw [bI_f hc]
    rw [if_neg hc] at hc_1
    refine E_if0 rfl (by omega) (fun q2 => ?_) (fun q2 => ?_)
    · refine E_const rfl ?_
      refine E_iret rfl (fun h => absurd h (by decide)) ?_
      exact ⟨by rw [if_neg hc], c_1, rfl, by rw [if_neg hc]; exact hc_1⟩
    · exfalso; omega
set_option maxHeartbeats 4000000 in
set_option maxRecDepth 100000 in
theorem C_feed {d : Nat} {h : Hp} {c : Nat → Nat → Int} {B : Nat → Nat} {s im : Nat → Int} {hi : Int} {L : List Int} (hL : Lay h) (hR : RepC h c B s im hi L) (hA : Inv s) {x : Int} (hx : inR x) : Ok (d + 8) 74 [(1, ((0 : Nat) : Int)), (0, x)] (wC h c) (fun r h2 => r = some (0, (f_feed s x).1) ∧ ∃ c2, h2 = wC h c2 ∧ RepC h c2 B (f_feed s x).2 im hi L ∧ EqP FrC c c2) := by
  show Ex _ none t_X10_feed 0 0 _ [] (wC h c) _
  have hAA := hA
  have hG := hA.G
  obtain ⟨hI, hH, ⟨⟨n29, n30, n31, n32, n33, n34, n36⟩, nM⟩, hX⟩ := hA
  refine E_load rfl rfl rfl ?_
  refine E_const rfl ?_
  refine E_const rfl ?_
  refine E_S3 (y := 111) rfl rfl rfl rfl rfl (c_within (by omega) (by omega) (by omega)) (fun r h2 hq => ?_)
  obtain ⟨rfl, hh⟩ := hq
  subst hh
  refine E_if1 rfl (bI_R _) (fun q1 => ?_) (fun q1 => ?_)
  · replace q1 := bI_nz q1
    refine E_load rfl rfl rfl ?_
    refine E_getr (c := 11) (r := 1) rfl (hL.lt 0 rfl) (hL.k 0 rfl) rfl (hR.C.g 0 0 1 (by decide)) ?_
    refine E_load rfl rfl rfl ?_
    refine E_const rfl ?_
    refine E_const rfl ?_
    rcases Classical.em (s 34 < 100) with hlt | hlt
    · obtain ⟨n, hn⟩ := Int.eq_ofNat_of_zero_le (show 0 ≤ s 34 by omega)
      refine E_S4 (y := 116) rfl rfl rfl rfl rfl (c_added1 (sh1 hL hR.C) (by decide) (by rw [show c 1 3 = s 34 from hR.tape.1]; omega) (by rw [show c 1 3 = s 34 from hR.tape.1]; omega)) (fun r h2 hq => ?_)
      obtain ⟨rfl, c_1, hh, hc_1⟩ := hq
      subst hh
      rw [show c 1 3 = s 34 from hR.tape.1] at hc_1 ⊢
      rw [if_pos (by omega)] at hc_1 ⊢
      have hc : c_1 = up2 (up2 c 2 n x) 1 3 (s 34 + 1) := by
        rw [hc_1]
        unfold adS
        rw [show c 1 3 = s 34 from hR.tape.1, hn, show ((n : Int) * ((1 : Nat) : Int)).toNat = n by omega]
        rfl
      have hE : EqP (fun a k => a = 2 ∨ (a = 1 ∧ k = 3)) c c_1 := by
        rw [hc]
        exact (EqP.up (by omega)).trans (EqP.up (by omega))
      refine E_iret rfl (fun h => absurd h (by decide)) ?_
      refine mutC (s' := upd1 (upd1 s (128 + n) x) 34 (s 34 + 1)) ?_ ?_ (hE.mono (fun a k e => by unfold FrC; omega))
      · unfold f_feed
        try simp only [hn, Int.toNat_natCast]
        first | (exfalso; omega) | (rw [if_pos (by omega)] <;> rfl) | (rw [if_neg (by omega), if_pos (by omega)] <;> rfl) | (rw [if_neg (by omega)] <;> rfl) | (rw [if_neg (by omega), if_neg (by omega), if_pos (by omega)] <;> rfl) | (rw [if_neg (by omega), if_neg (by omega)] <;> rfl) | (rw [if_neg (by omega), if_neg (by omega), if_neg (by omega), if_pos (by omega)] <;> rfl) | (rw [if_neg (by omega), if_neg (by omega), if_neg (by omega)] <;> rfl) | (rw [if_neg (by omega), if_neg (by omega), if_neg (by omega), if_neg (by omega), if_pos (by omega)] <;> rfl) | (rw [if_neg (by omega), if_neg (by omega), if_neg (by omega), if_neg (by omega)] <;> rfl) | (rw [if_neg (by omega), if_neg (by omega), if_neg (by omega), if_neg (by omega), if_neg (by omega), if_pos (by omega)] <;> rfl) | (rw [if_neg (by omega), if_neg (by omega), if_neg (by omega), if_neg (by omega), if_neg (by omega)] <;> rfl) | (rw [if_neg (by omega), if_neg (by omega), if_neg (by omega), if_neg (by omega), if_neg (by omega), if_neg (by omega), if_pos (by omega)] <;> rfl) | (rw [if_neg (by omega), if_neg (by omega), if_neg (by omega), if_neg (by omega), if_neg (by omega), if_neg (by omega)] <;> rfl)
      refine RepC.mkS hR hAA (fun a k hk => hE a k (by unfold shW at hk; omega)) (fun k hk => by rw [upd1_ne (by omega), upd1_ne (by omega)]) ?_ ?_ ?_ ?_ ?_
      · refine ⟨by rw [hc]; exact up2_same.trans upd1_same.symm, fun k hk => ?_⟩
        rw [upd1_same] at hk
        rw [hc, up2_fldN (by omega)]
        by_cases e : k = n
        · rw [e, upd1_ne (by omega), upd1_same]; exact up2_same
        · rw [up2_fldN (by omega), upd1_ne (by omega), upd1_ne (by omega)]; exact hR.tape.2 k (by omega)
      · rw [hE 4 3 (by omega), hE.row 5 (fun k => by omega)]; exact hR.mood.tr (fun k hk => by rw [upd1_ne (by omega), upd1_ne (by omega)]) n36.2
      · rw [hE 10 3 (by omega), hE.row 11 (fun k => by omega)]; exact hR.seen.tr (fun k hk => by rw [upd1_ne (by omega), upd1_ne (by omega)]) n31.2
      · rw [hE 13 3 (by omega), hE.row 14 (fun k => by omega)]; exact hR.eve.tr (fun k hk => by rw [upd1_ne (by omega), upd1_ne (by omega)]) n32.2
      · rw [hE 16 3 (by omega), hE.row 17 (fun k => by omega)]; exact hR.book.tr (fun k hk => by rw [upd1_ne (by omega), upd1_ne (by omega)]) n33.2
    · refine E_S4 (y := 116) rfl rfl rfl rfl rfl (c_added1 (sh1 hL hR.C) (by decide) (by rw [show c 1 3 = s 34 from hR.tape.1]; omega) (by rw [show c 1 3 = s 34 from hR.tape.1]; omega)) (fun r h2 hq => ?_)
      obtain ⟨rfl, c_1, hh, hc_1⟩ := hq
      subst hh
      rw [show c 1 3 = s 34 from hR.tape.1] at hc_1 ⊢
      rw [if_neg (by omega)] at hc_1 ⊢
      subst hc_1
      refine E_iret rfl (fun h => absurd h (by decide)) ?_
      refine mutC (s' := s) ?_ hR EqP.nil
      unfold f_feed
      try simp only [Int.toNat_natCast]
      first | (exfalso; omega) | (rw [if_pos (by omega)] <;> rfl) | (rw [if_neg (by omega), if_pos (by omega)] <;> rfl) | (rw [if_neg (by omega)] <;> rfl) | (rw [if_neg (by omega), if_neg (by omega), if_pos (by omega)] <;> rfl) | (rw [if_neg (by omega), if_neg (by omega)] <;> rfl) | (rw [if_neg (by omega), if_neg (by omega), if_neg (by omega), if_pos (by omega)] <;> rfl) | (rw [if_neg (by omega), if_neg (by omega), if_neg (by omega)] <;> rfl) | (rw [if_neg (by omega), if_neg (by omega), if_neg (by omega), if_neg (by omega), if_pos (by omega)] <;> rfl) | (rw [if_neg (by omega), if_neg (by omega), if_neg (by omega), if_neg (by omega)] <;> rfl) | (rw [if_neg (by omega), if_neg (by omega), if_neg (by omega), if_neg (by omega), if_neg (by omega), if_pos (by omega)] <;> rfl) | (rw [if_neg (by omega), if_neg (by omega), if_neg (by omega), if_neg (by omega), if_neg (by omega)] <;> rfl) | (rw [if_neg (by omega), if_neg (by omega), if_neg (by omega), if_neg (by omega), if_neg (by omega), if_neg (by omega), if_pos (by omega)] <;> rfl) | (rw [if_neg (by omega), if_neg (by omega), if_neg (by omega), if_neg (by omega), if_neg (by omega), if_neg (by omega)] <;> rfl)
  · replace q1 := bI_z q1
    refine E_const rfl ?_
    refine E_iret rfl (fun h => absurd h (by decide)) ?_
    refine mutC (s' := s) ?_ hR EqP.nil
    unfold f_feed
    try simp only [Int.toNat_natCast]
    first | (exfalso; omega) | (rw [if_pos (by omega)] <;> rfl) | (rw [if_neg (by omega), if_pos (by omega)] <;> rfl) | (rw [if_neg (by omega)] <;> rfl) | (rw [if_neg (by omega), if_neg (by omega), if_pos (by omega)] <;> rfl) | (rw [if_neg (by omega), if_neg (by omega)] <;> rfl) | (rw [if_neg (by omega), if_neg (by omega), if_neg (by omega), if_pos (by omega)] <;> rfl) | (rw [if_neg (by omega), if_neg (by omega), if_neg (by omega)] <;> rfl) | (rw [if_neg (by omega), if_neg (by omega), if_neg (by omega), if_neg (by omega), if_pos (by omega)] <;> rfl) | (rw [if_neg (by omega), if_neg (by omega), if_neg (by omega), if_neg (by omega)] <;> rfl) | (rw [if_neg (by omega), if_neg (by omega), if_neg (by omega), if_neg (by omega), if_neg (by omega), if_pos (by omega)] <;> rfl) | (rw [if_neg (by omega), if_neg (by omega), if_neg (by omega), if_neg (by omega), if_neg (by omega)] <;> rfl) | (rw [if_neg (by omega), if_neg (by omega), if_neg (by omega), if_neg (by omega), if_neg (by omega), if_neg (by omega), if_pos (by omega)] <;> rfl) | (rw [if_neg (by omega), if_neg (by omega), if_neg (by omega), if_neg (by omega), if_neg (by omega), if_neg (by omega)] <;> rfl)
set_option maxHeartbeats 4000000 in
set_option maxRecDepth 100000 in
theorem C_guest {d : Nat} {h : Hp} {c : Nat → Nat → Int} {B : Nat → Nat} {s im : Nat → Int} {hi : Int} {L : List Int} (hL : Lay h) (hR : RepC h c B s im hi L) (hA : Inv s) {x : Int} (hx : inR x) : Ok (d + 8) 77 [(1, ((0 : Nat) : Int)), (0, x)] (wC h c) (fun r h2 => r = some (0, (f_guest s x).1) ∧ ∃ c2, h2 = wC h c2 ∧ RepC h c2 B (f_guest s x).2 im hi L ∧ EqP FrC c c2) := by
  show Ex _ none t_X10_guest 0 0 _ [] (wC h c) _
  have hAA := hA
  have hG := hA.G
  obtain ⟨hI, hH, ⟨⟨n29, n30, n31, n32, n33, n34, n36⟩, nM⟩, hX⟩ := hA
  refine E_load rfl rfl rfl ?_
  refine E_const rfl ?_
  refine E_const rfl ?_
  refine E_S3 (y := 111) rfl rfl rfl rfl rfl (c_within (by omega) (by omega) (by omega)) (fun r h2 hq => ?_)
  obtain ⟨rfl, hh⟩ := hq
  subst hh
  refine E_if1 rfl (bI_R _) (fun q1 => ?_) (fun q1 => ?_)
  · replace q1 := bI_nz q1
    refine E_load rfl rfl rfl ?_
    refine E_getr (c := 11) (r := 4) rfl (hL.lt 0 rfl) (hL.k 0 rfl) rfl (hR.C.g 0 1 4 (by decide)) ?_
    refine E_load rfl rfl rfl ?_
    refine E_const rfl ?_
    refine E_const rfl ?_
    rcases Classical.em (s 36 < 4) with hlt | hlt
    · obtain ⟨n, hn⟩ := Int.eq_ofNat_of_zero_le (show 0 ≤ s 36 by omega)
      refine E_V3 (q := 4) (c := 8) (y := 59) rfl rfl (hL.lt 4 rfl) (hL.k 4 rfl) rfl rfl rfl rfl (s_add1 (sh4 hL hR.C) (by decide) (by rw [show c 4 3 = s 36 from hR.mood.1]; omega) (by rw [show c 4 3 = s 36 from hR.mood.1]; omega)) (fun r h2 hq => ?_)
      obtain ⟨rfl, c_1, hh, hc_1⟩ := hq
      subst hh
      rw [show c 4 3 = s 36 from hR.mood.1] at hc_1 ⊢
      rw [if_pos (by omega)] at hc_1
      rw [bI_t (by omega)]
      have hc : c_1 = up2 (up2 c 5 n x) 4 3 (s 36 + 1) := by
        rw [hc_1]
        unfold adS
        rw [show c 4 3 = s 36 from hR.mood.1, hn, show ((n : Int) * ((1 : Nat) : Int)).toNat = n by omega]
        rfl
      have hE : EqP (fun a k => a = 5 ∨ (a = 4 ∧ k = 3)) c c_1 := by
        rw [hc]
        exact (EqP.up (by omega)).trans (EqP.up (by omega))
      refine E_if0 rfl (by omega) (fun q2 => ?_) (fun q2 => ?_)
      · exfalso; omega
      · refine E_load rfl rfl rfl ?_
        refine E_getr (c := 11) (r := 4) rfl (hL.lt 0 rfl) (hL.k 0 rfl) rfl ((hE 0 1 (by omega)).trans (hR.C.g 0 1 4 (by decide))) ?_
        refine E_getf (c := 8) (v := (0, (s 36 + 1))) rfl (hL.lt 4 rfl) (hL.k 4 rfl) rfl (fv (by show c_1 4 3 = _; rw [hc]; exact up2_same)) ?_
        refine E_const rfl ?_
        refine E_sub rfl ?_
        refine E_goto rfl ?_
        refine E_iret rfl (fun h => absurd h (by decide)) ?_
        refine mutC (s' := upd1 (upd1 s (25 + n) x) 36 (s 36 + 1)) ?_ ?_ (hE.mono (fun a k e => by unfold FrC; omega))
        · unfold f_guest
          try simp only [hn, Int.toNat_natCast]
          first | (exfalso; omega) | (rw [if_pos (by omega)] <;> rfl) | (rw [if_neg (by omega), if_pos (by omega)] <;> rfl) | (rw [if_neg (by omega)] <;> rfl) | (rw [if_neg (by omega), if_neg (by omega), if_pos (by omega)] <;> rfl) | (rw [if_neg (by omega), if_neg (by omega)] <;> rfl) | (rw [if_neg (by omega), if_neg (by omega), if_neg (by omega), if_pos (by omega)] <;> rfl) | (rw [if_neg (by omega), if_neg (by omega), if_neg (by omega)] <;> rfl) | (rw [if_neg (by omega), if_neg (by omega), if_neg (by omega), if_neg (by omega), if_pos (by omega)] <;> rfl) | (rw [if_neg (by omega), if_neg (by omega), if_neg (by omega), if_neg (by omega)] <;> rfl) | (rw [if_neg (by omega), if_neg (by omega), if_neg (by omega), if_neg (by omega), if_neg (by omega), if_pos (by omega)] <;> rfl) | (rw [if_neg (by omega), if_neg (by omega), if_neg (by omega), if_neg (by omega), if_neg (by omega)] <;> rfl) | (rw [if_neg (by omega), if_neg (by omega), if_neg (by omega), if_neg (by omega), if_neg (by omega), if_neg (by omega), if_pos (by omega)] <;> rfl) | (rw [if_neg (by omega), if_neg (by omega), if_neg (by omega), if_neg (by omega), if_neg (by omega), if_neg (by omega)] <;> rfl)
        refine RepC.mkS hR hAA (fun a k hk => hE a k (by unfold shW at hk; omega)) (fun k hk => by rw [upd1_ne (by omega), upd1_ne (by omega)]) ?_ ?_ ?_ ?_ ?_
        · rw [hE 1 3 (by omega), hE.row 2 (fun k => by omega)]; exact hR.tape.tr (fun k hk => by rw [upd1_ne (by omega), upd1_ne (by omega)]) n34.2
        · refine ⟨by rw [hc]; exact up2_same.trans upd1_same.symm, fun k hk => ?_⟩
          rw [upd1_same] at hk
          rw [hc, up2_fldN (by omega)]
          by_cases e : k = n
          · rw [e, upd1_ne (by omega), upd1_same]; exact up2_same
          · rw [up2_fldN (by omega), upd1_ne (by omega), upd1_ne (by omega)]; exact hR.mood.2 k (by omega)
        · rw [hE 10 3 (by omega), hE.row 11 (fun k => by omega)]; exact hR.seen.tr (fun k hk => by rw [upd1_ne (by omega), upd1_ne (by omega)]) n31.2
        · rw [hE 13 3 (by omega), hE.row 14 (fun k => by omega)]; exact hR.eve.tr (fun k hk => by rw [upd1_ne (by omega), upd1_ne (by omega)]) n32.2
        · rw [hE 16 3 (by omega), hE.row 17 (fun k => by omega)]; exact hR.book.tr (fun k hk => by rw [upd1_ne (by omega), upd1_ne (by omega)]) n33.2
    · refine E_V3 (q := 4) (c := 8) (y := 59) rfl rfl (hL.lt 4 rfl) (hL.k 4 rfl) rfl rfl rfl rfl (s_add1 (sh4 hL hR.C) (by decide) (by rw [show c 4 3 = s 36 from hR.mood.1]; omega) (by rw [show c 4 3 = s 36 from hR.mood.1]; omega)) (fun r h2 hq => ?_)
      obtain ⟨rfl, c_1, hh, hc_1⟩ := hq
      subst hh
      rw [show c 4 3 = s 36 from hR.mood.1] at hc_1 ⊢
      rw [if_neg (by omega)] at hc_1
      rw [bI_f (by omega)]
      subst hc_1
      refine E_if0 rfl (by omega) (fun q3 => ?_) (fun q3 => ?_)
      · refine E_const rfl ?_
        refine E_iret rfl (fun h => absurd h (by decide)) ?_
        refine mutC (s' := s) ?_ hR EqP.nil
        unfold f_guest
        try simp only [Int.toNat_natCast]
        first | (exfalso; omega) | (rw [if_pos (by omega)] <;> rfl) | (rw [if_neg (by omega), if_pos (by omega)] <;> rfl) | (rw [if_neg (by omega)] <;> rfl) | (rw [if_neg (by omega), if_neg (by omega), if_pos (by omega)] <;> rfl) | (rw [if_neg (by omega), if_neg (by omega)] <;> rfl) | (rw [if_neg (by omega), if_neg (by omega), if_neg (by omega), if_pos (by omega)] <;> rfl) | (rw [if_neg (by omega), if_neg (by omega), if_neg (by omega)] <;> rfl) | (rw [if_neg (by omega), if_neg (by omega), if_neg (by omega), if_neg (by omega), if_pos (by omega)] <;> rfl) | (rw [if_neg (by omega), if_neg (by omega), if_neg (by omega), if_neg (by omega)] <;> rfl) | (rw [if_neg (by omega), if_neg (by omega), if_neg (by omega), if_neg (by omega), if_neg (by omega), if_pos (by omega)] <;> rfl) | (rw [if_neg (by omega), if_neg (by omega), if_neg (by omega), if_neg (by omega), if_neg (by omega)] <;> rfl) | (rw [if_neg (by omega), if_neg (by omega), if_neg (by omega), if_neg (by omega), if_neg (by omega), if_neg (by omega), if_pos (by omega)] <;> rfl) | (rw [if_neg (by omega), if_neg (by omega), if_neg (by omega), if_neg (by omega), if_neg (by omega), if_neg (by omega)] <;> rfl)
      · exfalso; omega
  · replace q1 := bI_z q1
    refine E_const rfl ?_
    refine E_iret rfl (fun h => absurd h (by decide)) ?_
    refine mutC (s' := s) ?_ hR EqP.nil
    unfold f_guest
    try simp only [Int.toNat_natCast]
    first | (exfalso; omega) | (rw [if_pos (by omega)] <;> rfl) | (rw [if_neg (by omega), if_pos (by omega)] <;> rfl) | (rw [if_neg (by omega)] <;> rfl) | (rw [if_neg (by omega), if_neg (by omega), if_pos (by omega)] <;> rfl) | (rw [if_neg (by omega), if_neg (by omega)] <;> rfl) | (rw [if_neg (by omega), if_neg (by omega), if_neg (by omega), if_pos (by omega)] <;> rfl) | (rw [if_neg (by omega), if_neg (by omega), if_neg (by omega)] <;> rfl) | (rw [if_neg (by omega), if_neg (by omega), if_neg (by omega), if_neg (by omega), if_pos (by omega)] <;> rfl) | (rw [if_neg (by omega), if_neg (by omega), if_neg (by omega), if_neg (by omega)] <;> rfl) | (rw [if_neg (by omega), if_neg (by omega), if_neg (by omega), if_neg (by omega), if_neg (by omega), if_pos (by omega)] <;> rfl) | (rw [if_neg (by omega), if_neg (by omega), if_neg (by omega), if_neg (by omega), if_neg (by omega)] <;> rfl) | (rw [if_neg (by omega), if_neg (by omega), if_neg (by omega), if_neg (by omega), if_neg (by omega), if_neg (by omega), if_pos (by omega)] <;> rfl) | (rw [if_neg (by omega), if_neg (by omega), if_neg (by omega), if_neg (by omega), if_neg (by omega), if_neg (by omega)] <;> rfl)
set_option maxHeartbeats 4000000 in
set_option maxRecDepth 100000 in
theorem C_see {d : Nat} {h : Hp} {c : Nat → Nat → Int} {B : Nat → Nat} {s im : Nat → Int} {hi : Int} {L : List Int} (hL : Lay h) (hR : RepC h c B s im hi L) (hA : Inv s) {x : Int} (hx : inR x) {y : Int} (hy : inR y) {z : Int} (hz : inR z) : Ok (d + 8) 95 [(1, ((0 : Nat) : Int)), (0, x), (0, y), (0, z)] (wC h c) (fun r h2 => r = some (0, (f_see s x y z).1) ∧ ∃ c2, h2 = wC h c2 ∧ RepC h c2 B (f_see s x y z).2 im hi L ∧ EqP FrC c c2) := by
  show Ex _ none t_X10_see 0 0 _ [] (wC h c) _
  have hAA := hA
  have hG := hA.G
  obtain ⟨hI, hH, ⟨⟨n29, n30, n31, n32, n33, n34, n36⟩, nM⟩, hX⟩ := hA
  refine E_load rfl rfl rfl ?_
  refine E_const rfl ?_
  refine E_cmp1 rfl (by omega) (fun q1 => ?_) (fun q1 => ?_)
  · refine E_load rfl rfl rfl ?_
    refine E_load rfl rfl rfl ?_
    rcases Classical.em (0 ≤ x ∧ x < s 29) with hb | hb
    · obtain ⟨b, rfl⟩ := Int.eq_ofNat_of_zero_le hb.1
      have iB := hI b (by omega)
      refine E_V1 (q := 0) (c := 11) (y := 120) rfl rfl (hL.lt 0 rfl) (hL.k 0 rfl) rfl rfl rfl rfl (c_bY hL hR (b := b) (by omega)) (fun r h2 hq => ?_)
      obtain ⟨rfl, hh⟩ := hq
      subst hh
      refine E_null1 rfl (fun q2 => ?_) (fun q2 => ?_)
      · refine E_load rfl rfl rfl ?_
        refine E_const rfl ?_
        refine E_const rfl ?_
        refine E_S3 (y := 111) rfl rfl rfl rfl rfl (c_within (by omega) (by omega) (by omega)) (fun r h2 hq => ?_)
        obtain ⟨rfl, hh⟩ := hq
        subst hh
        refine E_if0 rfl (bI_R _) (fun q3 => ?_) (fun q3 => ?_)
        · replace q3 := bI_z q3
          refine E_const rfl ?_
          refine E_iret rfl (fun h => absurd h (by decide)) ?_
          refine mutC (s' := s) ?_ hR EqP.nil
          unfold f_see
          try simp only [Int.toNat_natCast]
          first | (exfalso; omega) | (rw [if_pos (by omega)] <;> rfl) | (rw [if_neg (by omega), if_pos (by omega)] <;> rfl) | (rw [if_neg (by omega)] <;> rfl) | (rw [if_neg (by omega), if_neg (by omega), if_pos (by omega)] <;> rfl) | (rw [if_neg (by omega), if_neg (by omega)] <;> rfl) | (rw [if_neg (by omega), if_neg (by omega), if_neg (by omega), if_pos (by omega)] <;> rfl) | (rw [if_neg (by omega), if_neg (by omega), if_neg (by omega)] <;> rfl) | (rw [if_neg (by omega), if_neg (by omega), if_neg (by omega), if_neg (by omega), if_pos (by omega)] <;> rfl) | (rw [if_neg (by omega), if_neg (by omega), if_neg (by omega), if_neg (by omega)] <;> rfl) | (rw [if_neg (by omega), if_neg (by omega), if_neg (by omega), if_neg (by omega), if_neg (by omega), if_pos (by omega)] <;> rfl) | (rw [if_neg (by omega), if_neg (by omega), if_neg (by omega), if_neg (by omega), if_neg (by omega)] <;> rfl) | (rw [if_neg (by omega), if_neg (by omega), if_neg (by omega), if_neg (by omega), if_neg (by omega), if_neg (by omega), if_pos (by omega)] <;> rfl) | (rw [if_neg (by omega), if_neg (by omega), if_neg (by omega), if_neg (by omega), if_neg (by omega), if_neg (by omega)] <;> rfl)
        · replace q3 := bI_nz q3
          refine E_load rfl rfl rfl ?_
          refine E_const rfl ?_
          refine E_const rfl ?_
          refine E_S3 (y := 111) rfl rfl rfl rfl rfl (c_within (by omega) (by omega) (by omega)) (fun r h2 hq => ?_)
          obtain ⟨rfl, hh⟩ := hq
          subst hh
          refine E_if1 rfl (bI_R _) (fun q4 => ?_) (fun q4 => ?_)
          · replace q4 := bI_nz q4
            refine E_load rfl rfl rfl ?_
            refine E_getr (c := 11) (r := 10) rfl (hL.lt 0 rfl) (hL.k 0 rfl) rfl (hR.C.g 0 3 10 (by decide)) ?_
            refine E_load rfl rfl rfl ?_
            refine E_load rfl rfl rfl ?_
            refine E_load rfl rfl rfl ?_
            rcases Classical.em (s 31 < 5) with hlt | hlt
            · obtain ⟨n, hn⟩ := Int.eq_ofNat_of_zero_le (show 0 ≤ s 31 by omega)
              refine E_S4 (y := 116) rfl rfl rfl rfl rfl (c_added3 (sh10 hL hR.C) (by decide) (by rw [show c 10 3 = s 31 from hR.seen.1]; omega) (by rw [show c 10 3 = s 31 from hR.seen.1]; omega)) (fun r h2 hq => ?_)
              obtain ⟨rfl, c_1, hh, hc_1⟩ := hq
              subst hh
              rw [show c 10 3 = s 31 from hR.seen.1] at hc_1 ⊢
              rw [if_pos (by omega)] at hc_1 ⊢
              have hc : c_1 = up2 (up2 (up2 (up2 c 11 (3 * n) ((b : Nat) : Int)) 11 (3 * n + 1) y) 11 (3 * n + 2) z) 10 3 (s 31 + 1) := by
                rw [hc_1]
                unfold adS
                rw [show c 10 3 = s 31 from hR.seen.1, hn, show ((n : Int) * ((3 : Nat) : Int)).toNat = 3 * n by omega]
                rfl
              have hE : EqP (fun a k => a = 11 ∨ (a = 10 ∧ k = 3)) c c_1 := by
                rw [hc]
                exact (EqP.up (by omega)).trans ((EqP.up (by omega)).trans ((EqP.up (by omega)).trans (EqP.up (by omega))))
              refine E_iret rfl (fun h => absurd h (by decide)) ?_
              refine mutC (s' := upd1 (upd1 (upd1 (upd1 s (73 + n) (b : Int)) (78 + n) y) (83 + n) z) 31 (s 31 + 1)) ?_ ?_ (hE.mono (fun a k e => by unfold FrC; omega))
              · unfold f_see
                try simp only [hn, Int.toNat_natCast]
                first | (exfalso; omega) | (rw [if_pos (by omega)] <;> rfl) | (rw [if_neg (by omega), if_pos (by omega)] <;> rfl) | (rw [if_neg (by omega)] <;> rfl) | (rw [if_neg (by omega), if_neg (by omega), if_pos (by omega)] <;> rfl) | (rw [if_neg (by omega), if_neg (by omega)] <;> rfl) | (rw [if_neg (by omega), if_neg (by omega), if_neg (by omega), if_pos (by omega)] <;> rfl) | (rw [if_neg (by omega), if_neg (by omega), if_neg (by omega)] <;> rfl) | (rw [if_neg (by omega), if_neg (by omega), if_neg (by omega), if_neg (by omega), if_pos (by omega)] <;> rfl) | (rw [if_neg (by omega), if_neg (by omega), if_neg (by omega), if_neg (by omega)] <;> rfl) | (rw [if_neg (by omega), if_neg (by omega), if_neg (by omega), if_neg (by omega), if_neg (by omega), if_pos (by omega)] <;> rfl) | (rw [if_neg (by omega), if_neg (by omega), if_neg (by omega), if_neg (by omega), if_neg (by omega)] <;> rfl) | (rw [if_neg (by omega), if_neg (by omega), if_neg (by omega), if_neg (by omega), if_neg (by omega), if_neg (by omega), if_pos (by omega)] <;> rfl) | (rw [if_neg (by omega), if_neg (by omega), if_neg (by omega), if_neg (by omega), if_neg (by omega), if_neg (by omega)] <;> rfl)
              refine RepC.mkS hR hAA (fun a k hk => hE a k (by unfold shW at hk; omega)) (fun k hk => by rw [upd1_ne (by omega), upd1_ne (by omega), upd1_ne (by omega), upd1_ne (by omega)]) ?_ ?_ ?_ ?_ ?_
              · rw [hE 1 3 (by omega), hE.row 2 (fun k => by omega)]; exact hR.tape.tr (fun k hk => by rw [upd1_ne (by omega), upd1_ne (by omega), upd1_ne (by omega), upd1_ne (by omega)]) n34.2
              · rw [hE 4 3 (by omega), hE.row 5 (fun k => by omega)]; exact hR.mood.tr (fun k hk => by rw [upd1_ne (by omega), upd1_ne (by omega), upd1_ne (by omega), upd1_ne (by omega)]) n36.2
              · refine ⟨by rw [hc]; exact up2_same.trans upd1_same.symm, fun k hk => ?_⟩
                rw [upd1_same] at hk
                rw [hc]
                by_cases e : k = n
                · subst e
                  refine ⟨?_, ?_, ?_⟩ <;> (repeat rw [up2_fldN (by omega)]) <;> (repeat rw [upd1_ne (by omega)]) <;> rw [up2_same, upd1_same]
                · have h9 := hR.seen.2 k (by omega)
                  refine ⟨?_, ?_, ?_⟩ <;> (repeat rw [up2_fldN (by omega)]) <;> (repeat rw [upd1_ne (by omega)])
                  · exact h9.1
                  · exact h9.2.1
                  · exact h9.2.2
              · rw [hE 13 3 (by omega), hE.row 14 (fun k => by omega)]; exact hR.eve.tr (fun k hk => by rw [upd1_ne (by omega), upd1_ne (by omega), upd1_ne (by omega), upd1_ne (by omega)]) n32.2
              · rw [hE 16 3 (by omega), hE.row 17 (fun k => by omega)]; exact hR.book.tr (fun k hk => by rw [upd1_ne (by omega), upd1_ne (by omega), upd1_ne (by omega), upd1_ne (by omega)]) n33.2
            · refine E_S4 (y := 116) rfl rfl rfl rfl rfl (c_added3 (sh10 hL hR.C) (by decide) (by rw [show c 10 3 = s 31 from hR.seen.1]; omega) (by rw [show c 10 3 = s 31 from hR.seen.1]; omega)) (fun r h2 hq => ?_)
              obtain ⟨rfl, c_1, hh, hc_1⟩ := hq
              subst hh
              rw [show c 10 3 = s 31 from hR.seen.1] at hc_1 ⊢
              rw [if_neg (by omega)] at hc_1 ⊢
              subst hc_1
              refine E_iret rfl (fun h => absurd h (by decide)) ?_
              refine mutC (s' := s) ?_ hR EqP.nil
              unfold f_see
              try simp only [Int.toNat_natCast]
              first | (exfalso; omega) | (rw [if_pos (by omega)] <;> rfl) | (rw [if_neg (by omega), if_pos (by omega)] <;> rfl) | (rw [if_neg (by omega)] <;> rfl) | (rw [if_neg (by omega), if_neg (by omega), if_pos (by omega)] <;> rfl) | (rw [if_neg (by omega), if_neg (by omega)] <;> rfl) | (rw [if_neg (by omega), if_neg (by omega), if_neg (by omega), if_pos (by omega)] <;> rfl) | (rw [if_neg (by omega), if_neg (by omega), if_neg (by omega)] <;> rfl) | (rw [if_neg (by omega), if_neg (by omega), if_neg (by omega), if_neg (by omega), if_pos (by omega)] <;> rfl) | (rw [if_neg (by omega), if_neg (by omega), if_neg (by omega), if_neg (by omega)] <;> rfl) | (rw [if_neg (by omega), if_neg (by omega), if_neg (by omega), if_neg (by omega), if_neg (by omega), if_pos (by omega)] <;> rfl) | (rw [if_neg (by omega), if_neg (by omega), if_neg (by omega), if_neg (by omega), if_neg (by omega)] <;> rfl) | (rw [if_neg (by omega), if_neg (by omega), if_neg (by omega), if_neg (by omega), if_neg (by omega), if_neg (by omega), if_pos (by omega)] <;> rfl) | (rw [if_neg (by omega), if_neg (by omega), if_neg (by omega), if_neg (by omega), if_neg (by omega), if_neg (by omega)] <;> rfl)
          · replace q4 := bI_z q4
            refine E_const rfl ?_
            refine E_iret rfl (fun h => absurd h (by decide)) ?_
            refine mutC (s' := s) ?_ hR EqP.nil
            unfold f_see
            try simp only [Int.toNat_natCast]
            first | (exfalso; omega) | (rw [if_pos (by omega)] <;> rfl) | (rw [if_neg (by omega), if_pos (by omega)] <;> rfl) | (rw [if_neg (by omega)] <;> rfl) | (rw [if_neg (by omega), if_neg (by omega), if_pos (by omega)] <;> rfl) | (rw [if_neg (by omega), if_neg (by omega)] <;> rfl) | (rw [if_neg (by omega), if_neg (by omega), if_neg (by omega), if_pos (by omega)] <;> rfl) | (rw [if_neg (by omega), if_neg (by omega), if_neg (by omega)] <;> rfl) | (rw [if_neg (by omega), if_neg (by omega), if_neg (by omega), if_neg (by omega), if_pos (by omega)] <;> rfl) | (rw [if_neg (by omega), if_neg (by omega), if_neg (by omega), if_neg (by omega)] <;> rfl) | (rw [if_neg (by omega), if_neg (by omega), if_neg (by omega), if_neg (by omega), if_neg (by omega), if_pos (by omega)] <;> rfl) | (rw [if_neg (by omega), if_neg (by omega), if_neg (by omega), if_neg (by omega), if_neg (by omega)] <;> rfl) | (rw [if_neg (by omega), if_neg (by omega), if_neg (by omega), if_neg (by omega), if_neg (by omega), if_neg (by omega), if_pos (by omega)] <;> rfl) | (rw [if_neg (by omega), if_neg (by omega), if_neg (by omega), if_neg (by omega), if_neg (by omega), if_neg (by omega)] <;> rfl)
      · exfalso; omega
    · refine E_V1 (q := 0) (c := 11) (y := 120) rfl rfl (hL.lt 0 rfl) (hL.k 0 rfl) rfl rfl rfl rfl (c_bN hL hR (by omega) n29.1 hb) (fun r h2 hq => ?_)
      obtain ⟨rfl, hh⟩ := hq
      subst hh
      refine E_null1 rfl (fun q5 => ?_) (fun q5 => ?_)
      · exfalso; omega
      · refine E_const rfl ?_
        refine E_iret rfl (fun h => absurd h (by decide)) ?_
        refine mutC (s' := s) ?_ hR EqP.nil
        unfold f_see
        try simp only [Int.toNat_natCast]
        first | (exfalso; omega) | (rw [if_pos (by omega)] <;> rfl) | (rw [if_neg (by omega), if_pos (by omega)] <;> rfl) | (rw [if_neg (by omega)] <;> rfl) | (rw [if_neg (by omega), if_neg (by omega), if_pos (by omega)] <;> rfl) | (rw [if_neg (by omega), if_neg (by omega)] <;> rfl) | (rw [if_neg (by omega), if_neg (by omega), if_neg (by omega), if_pos (by omega)] <;> rfl) | (rw [if_neg (by omega), if_neg (by omega), if_neg (by omega)] <;> rfl) | (rw [if_neg (by omega), if_neg (by omega), if_neg (by omega), if_neg (by omega), if_pos (by omega)] <;> rfl) | (rw [if_neg (by omega), if_neg (by omega), if_neg (by omega), if_neg (by omega)] <;> rfl) | (rw [if_neg (by omega), if_neg (by omega), if_neg (by omega), if_neg (by omega), if_neg (by omega), if_pos (by omega)] <;> rfl) | (rw [if_neg (by omega), if_neg (by omega), if_neg (by omega), if_neg (by omega), if_neg (by omega)] <;> rfl) | (rw [if_neg (by omega), if_neg (by omega), if_neg (by omega), if_neg (by omega), if_neg (by omega), if_neg (by omega), if_pos (by omega)] <;> rfl) | (rw [if_neg (by omega), if_neg (by omega), if_neg (by omega), if_neg (by omega), if_neg (by omega), if_neg (by omega)] <;> rfl)
  · refine E_load rfl rfl rfl ?_
    refine E_getr (c := 11) (r := 10) rfl (hL.lt 0 rfl) (hL.k 0 rfl) rfl (hR.C.g 0 3 10 (by decide)) ?_
    refine E_V0 (q := 10) (c := 8) (y := 62) rfl rfl (hL.lt 10 rfl) (hL.k 10 rfl) rfl rfl rfl rfl (s_clear (sh10 hL hR.C) (by decide) (by decide)) (fun r h2 hq => ?_)
    obtain ⟨rfl, c_1, hh, hc⟩ := hq
    subst hh
    have hE : EqP (fun a k => a = 11 ∨ (a = 10 ∧ k = 3)) c c_1 := by rw [hc]; exact EqP.up (by omega)
    refine E_const rfl ?_
    refine E_iret rfl (fun h => absurd h (by decide)) ?_
    refine mutC (s' := upd1 s 31 0) ?_ ?_ (hE.mono (fun a k e => by unfold FrC; omega))
    · unfold f_see
      try simp only [Int.toNat_natCast]
      first | (exfalso; omega) | (rw [if_pos (by omega)] <;> rfl) | (rw [if_neg (by omega), if_pos (by omega)] <;> rfl) | (rw [if_neg (by omega)] <;> rfl) | (rw [if_neg (by omega), if_neg (by omega), if_pos (by omega)] <;> rfl) | (rw [if_neg (by omega), if_neg (by omega)] <;> rfl) | (rw [if_neg (by omega), if_neg (by omega), if_neg (by omega), if_pos (by omega)] <;> rfl) | (rw [if_neg (by omega), if_neg (by omega), if_neg (by omega)] <;> rfl) | (rw [if_neg (by omega), if_neg (by omega), if_neg (by omega), if_neg (by omega), if_pos (by omega)] <;> rfl) | (rw [if_neg (by omega), if_neg (by omega), if_neg (by omega), if_neg (by omega)] <;> rfl) | (rw [if_neg (by omega), if_neg (by omega), if_neg (by omega), if_neg (by omega), if_neg (by omega), if_pos (by omega)] <;> rfl) | (rw [if_neg (by omega), if_neg (by omega), if_neg (by omega), if_neg (by omega), if_neg (by omega)] <;> rfl) | (rw [if_neg (by omega), if_neg (by omega), if_neg (by omega), if_neg (by omega), if_neg (by omega), if_neg (by omega), if_pos (by omega)] <;> rfl) | (rw [if_neg (by omega), if_neg (by omega), if_neg (by omega), if_neg (by omega), if_neg (by omega), if_neg (by omega)] <;> rfl)
    refine RepC.mkS hR hAA (fun a k hk => hE a k (by unfold shW at hk; omega)) (fun k hk => by rw [upd1_ne (by omega)]) ?_ ?_ ?_ ?_ ?_
    · rw [hE 1 3 (by omega), hE.row 2 (fun k => by omega)]; exact hR.tape.tr (fun k hk => by rw [upd1_ne (by omega)]) n34.2
    · rw [hE 4 3 (by omega), hE.row 5 (fun k => by omega)]; exact hR.mood.tr (fun k hk => by rw [upd1_ne (by omega)]) n36.2
    · exact ⟨by rw [hc]; exact up2_same.trans upd1_same.symm, fun k hk => by rw [upd1_same] at hk; omega⟩
    · rw [hE 13 3 (by omega), hE.row 14 (fun k => by omega)]; exact hR.eve.tr (fun k hk => by rw [upd1_ne (by omega)]) n32.2
    · rw [hE 16 3 (by omega), hE.row 17 (fun k => by omega)]; exact hR.book.tr (fun k hk => by rw [upd1_ne (by omega)]) n33.2
set_option maxHeartbeats 4000000 in
set_option maxRecDepth 100000 in
theorem C_book {d : Nat} {h : Hp} {c : Nat → Nat → Int} {B : Nat → Nat} {s im : Nat → Int} {hi : Int} {L : List Int} (hL : Lay h) (hR : RepC h c B s im hi L) (hA : Inv s) {x : Int} (hx : inR x) {y : Int} (hy : inR y) : Ok (d + 8) 103 [(1, ((0 : Nat) : Int)), (0, x), (0, y)] (wC h c) (fun r h2 => r = some (0, (f_book s x y).1) ∧ ∃ c2, h2 = wC h c2 ∧ RepC h c2 B (f_book s x y).2 im hi L ∧ EqP FrC c c2) := by
  show Ex _ none t_X10_book 0 0 _ [] (wC h c) _
  have hAA := hA
  have hG := hA.G
  obtain ⟨hI, hH, ⟨⟨n29, n30, n31, n32, n33, n34, n36⟩, nM⟩, hX⟩ := hA
  refine E_load rfl rfl rfl ?_
  refine E_const rfl ?_
  refine E_cmp1 rfl (by omega) (fun q1 => ?_) (fun q1 => ?_)
  · refine E_load rfl rfl rfl ?_
    refine E_load rfl rfl rfl ?_
    rcases Classical.em (0 ≤ x ∧ x < s 29) with hb | hb
    · obtain ⟨b, rfl⟩ := Int.eq_ofNat_of_zero_le hb.1
      have iB := hI b (by omega)
      refine E_V1 (q := 0) (c := 11) (y := 120) rfl rfl (hL.lt 0 rfl) (hL.k 0 rfl) rfl rfl rfl rfl (c_bY hL hR (b := b) (by omega)) (fun r h2 hq => ?_)
      obtain ⟨rfl, hh⟩ := hq
      subst hh
      refine E_null1 rfl (fun q2 => ?_) (fun q2 => ?_)
      · refine E_load rfl rfl rfl ?_
        refine E_const rfl ?_
        refine E_const rfl ?_
        refine E_S3 (y := 111) rfl rfl rfl rfl rfl (c_within (by omega) (by omega) (by omega)) (fun r h2 hq => ?_)
        obtain ⟨rfl, hh⟩ := hq
        subst hh
        refine E_if1 rfl (bI_R _) (fun q3 => ?_) (fun q3 => ?_)
        · replace q3 := bI_nz q3
          refine E_load rfl rfl rfl ?_
          refine E_getr (c := 11) (r := 16) rfl (hL.lt 0 rfl) (hL.k 0 rfl) rfl (hR.C.g 0 5 16 (by decide)) ?_
          refine E_load rfl rfl rfl ?_
          refine E_load rfl rfl rfl ?_
          refine E_const rfl ?_
          rcases Classical.em (s 33 < 8) with hlt | hlt
          · obtain ⟨n, hn⟩ := Int.eq_ofNat_of_zero_le (show 0 ≤ s 33 by omega)
            refine E_S4 (y := 116) rfl rfl rfl rfl rfl (c_added2 (sh16 hL hR.C) (by decide) (by rw [show c 16 3 = s 33 from hR.book.1]; omega) (by rw [show c 16 3 = s 33 from hR.book.1]; omega)) (fun r h2 hq => ?_)
            obtain ⟨rfl, c_1, hh, hc_1⟩ := hq
            subst hh
            rw [show c 16 3 = s 33 from hR.book.1] at hc_1 ⊢
            rw [if_pos (by omega)] at hc_1 ⊢
            have hc : c_1 = up2 (up2 (up2 c 17 (2 * n) ((b : Nat) : Int)) 17 (2 * n + 1) y) 16 3 (s 33 + 1) := by
              rw [hc_1]
              unfold adS
              rw [show c 16 3 = s 33 from hR.book.1, hn, show ((n : Int) * ((2 : Nat) : Int)).toNat = 2 * n by omega]
              rfl
            have hE : EqP (fun a k => a = 17 ∨ (a = 16 ∧ k = 3)) c c_1 := by
              rw [hc]
              exact (EqP.up (by omega)).trans ((EqP.up (by omega)).trans (EqP.up (by omega)))
            refine E_iret rfl (fun h => absurd h (by decide)) ?_
            refine mutC (s' := upd1 (upd1 (upd1 s (112 + n) (b : Int)) (120 + n) y) 33 (s 33 + 1)) ?_ ?_ (hE.mono (fun a k e => by unfold FrC; omega))
            · unfold f_book
              try simp only [hn, Int.toNat_natCast]
              first | (exfalso; omega) | (rw [if_pos (by omega)] <;> rfl) | (rw [if_neg (by omega), if_pos (by omega)] <;> rfl) | (rw [if_neg (by omega)] <;> rfl) | (rw [if_neg (by omega), if_neg (by omega), if_pos (by omega)] <;> rfl) | (rw [if_neg (by omega), if_neg (by omega)] <;> rfl) | (rw [if_neg (by omega), if_neg (by omega), if_neg (by omega), if_pos (by omega)] <;> rfl) | (rw [if_neg (by omega), if_neg (by omega), if_neg (by omega)] <;> rfl) | (rw [if_neg (by omega), if_neg (by omega), if_neg (by omega), if_neg (by omega), if_pos (by omega)] <;> rfl) | (rw [if_neg (by omega), if_neg (by omega), if_neg (by omega), if_neg (by omega)] <;> rfl) | (rw [if_neg (by omega), if_neg (by omega), if_neg (by omega), if_neg (by omega), if_neg (by omega), if_pos (by omega)] <;> rfl) | (rw [if_neg (by omega), if_neg (by omega), if_neg (by omega), if_neg (by omega), if_neg (by omega)] <;> rfl) | (rw [if_neg (by omega), if_neg (by omega), if_neg (by omega), if_neg (by omega), if_neg (by omega), if_neg (by omega), if_pos (by omega)] <;> rfl) | (rw [if_neg (by omega), if_neg (by omega), if_neg (by omega), if_neg (by omega), if_neg (by omega), if_neg (by omega)] <;> rfl)
            refine RepC.mkS hR hAA (fun a k hk => hE a k (by unfold shW at hk; omega)) (fun k hk => by rw [upd1_ne (by omega), upd1_ne (by omega), upd1_ne (by omega)]) ?_ ?_ ?_ ?_ ?_
            · rw [hE 1 3 (by omega), hE.row 2 (fun k => by omega)]; exact hR.tape.tr (fun k hk => by rw [upd1_ne (by omega), upd1_ne (by omega), upd1_ne (by omega)]) n34.2
            · rw [hE 4 3 (by omega), hE.row 5 (fun k => by omega)]; exact hR.mood.tr (fun k hk => by rw [upd1_ne (by omega), upd1_ne (by omega), upd1_ne (by omega)]) n36.2
            · rw [hE 10 3 (by omega), hE.row 11 (fun k => by omega)]; exact hR.seen.tr (fun k hk => by rw [upd1_ne (by omega), upd1_ne (by omega), upd1_ne (by omega)]) n31.2
            · rw [hE 13 3 (by omega), hE.row 14 (fun k => by omega)]; exact hR.eve.tr (fun k hk => by rw [upd1_ne (by omega), upd1_ne (by omega), upd1_ne (by omega)]) n32.2
            · refine ⟨by rw [hc]; exact up2_same.trans upd1_same.symm, fun k hk => ?_⟩
              rw [upd1_same] at hk
              rw [hc]
              by_cases e : k = n
              · subst e
                refine ⟨?_, ?_⟩ <;> (repeat rw [up2_fldN (by omega)]) <;> (repeat rw [upd1_ne (by omega)]) <;> rw [up2_same, upd1_same]
              · have h9 := hR.book.2 k (by omega)
                refine ⟨?_, ?_⟩ <;> (repeat rw [up2_fldN (by omega)]) <;> (repeat rw [upd1_ne (by omega)])
                · exact h9.1
                · exact h9.2
          · refine E_S4 (y := 116) rfl rfl rfl rfl rfl (c_added2 (sh16 hL hR.C) (by decide) (by rw [show c 16 3 = s 33 from hR.book.1]; omega) (by rw [show c 16 3 = s 33 from hR.book.1]; omega)) (fun r h2 hq => ?_)
            obtain ⟨rfl, c_1, hh, hc_1⟩ := hq
            subst hh
            rw [show c 16 3 = s 33 from hR.book.1] at hc_1 ⊢
            rw [if_neg (by omega)] at hc_1 ⊢
            subst hc_1
            refine E_iret rfl (fun h => absurd h (by decide)) ?_
            refine mutC (s' := s) ?_ hR EqP.nil
            unfold f_book
            try simp only [Int.toNat_natCast]
            first | (exfalso; omega) | (rw [if_pos (by omega)] <;> rfl) | (rw [if_neg (by omega), if_pos (by omega)] <;> rfl) | (rw [if_neg (by omega)] <;> rfl) | (rw [if_neg (by omega), if_neg (by omega), if_pos (by omega)] <;> rfl) | (rw [if_neg (by omega), if_neg (by omega)] <;> rfl) | (rw [if_neg (by omega), if_neg (by omega), if_neg (by omega), if_pos (by omega)] <;> rfl) | (rw [if_neg (by omega), if_neg (by omega), if_neg (by omega)] <;> rfl) | (rw [if_neg (by omega), if_neg (by omega), if_neg (by omega), if_neg (by omega), if_pos (by omega)] <;> rfl) | (rw [if_neg (by omega), if_neg (by omega), if_neg (by omega), if_neg (by omega)] <;> rfl) | (rw [if_neg (by omega), if_neg (by omega), if_neg (by omega), if_neg (by omega), if_neg (by omega), if_pos (by omega)] <;> rfl) | (rw [if_neg (by omega), if_neg (by omega), if_neg (by omega), if_neg (by omega), if_neg (by omega)] <;> rfl) | (rw [if_neg (by omega), if_neg (by omega), if_neg (by omega), if_neg (by omega), if_neg (by omega), if_neg (by omega), if_pos (by omega)] <;> rfl) | (rw [if_neg (by omega), if_neg (by omega), if_neg (by omega), if_neg (by omega), if_neg (by omega), if_neg (by omega)] <;> rfl)
        · replace q3 := bI_z q3
          refine E_const rfl ?_
          refine E_iret rfl (fun h => absurd h (by decide)) ?_
          refine mutC (s' := s) ?_ hR EqP.nil
          unfold f_book
          try simp only [Int.toNat_natCast]
          first | (exfalso; omega) | (rw [if_pos (by omega)] <;> rfl) | (rw [if_neg (by omega), if_pos (by omega)] <;> rfl) | (rw [if_neg (by omega)] <;> rfl) | (rw [if_neg (by omega), if_neg (by omega), if_pos (by omega)] <;> rfl) | (rw [if_neg (by omega), if_neg (by omega)] <;> rfl) | (rw [if_neg (by omega), if_neg (by omega), if_neg (by omega), if_pos (by omega)] <;> rfl) | (rw [if_neg (by omega), if_neg (by omega), if_neg (by omega)] <;> rfl) | (rw [if_neg (by omega), if_neg (by omega), if_neg (by omega), if_neg (by omega), if_pos (by omega)] <;> rfl) | (rw [if_neg (by omega), if_neg (by omega), if_neg (by omega), if_neg (by omega)] <;> rfl) | (rw [if_neg (by omega), if_neg (by omega), if_neg (by omega), if_neg (by omega), if_neg (by omega), if_pos (by omega)] <;> rfl) | (rw [if_neg (by omega), if_neg (by omega), if_neg (by omega), if_neg (by omega), if_neg (by omega)] <;> rfl) | (rw [if_neg (by omega), if_neg (by omega), if_neg (by omega), if_neg (by omega), if_neg (by omega), if_neg (by omega), if_pos (by omega)] <;> rfl) | (rw [if_neg (by omega), if_neg (by omega), if_neg (by omega), if_neg (by omega), if_neg (by omega), if_neg (by omega)] <;> rfl)
      · exfalso; omega
    · refine E_V1 (q := 0) (c := 11) (y := 120) rfl rfl (hL.lt 0 rfl) (hL.k 0 rfl) rfl rfl rfl rfl (c_bN hL hR (by omega) n29.1 hb) (fun r h2 hq => ?_)
      obtain ⟨rfl, hh⟩ := hq
      subst hh
      refine E_null1 rfl (fun q4 => ?_) (fun q4 => ?_)
      · exfalso; omega
      · refine E_const rfl ?_
        refine E_iret rfl (fun h => absurd h (by decide)) ?_
        refine mutC (s' := s) ?_ hR EqP.nil
        unfold f_book
        try simp only [Int.toNat_natCast]
        first | (exfalso; omega) | (rw [if_pos (by omega)] <;> rfl) | (rw [if_neg (by omega), if_pos (by omega)] <;> rfl) | (rw [if_neg (by omega)] <;> rfl) | (rw [if_neg (by omega), if_neg (by omega), if_pos (by omega)] <;> rfl) | (rw [if_neg (by omega), if_neg (by omega)] <;> rfl) | (rw [if_neg (by omega), if_neg (by omega), if_neg (by omega), if_pos (by omega)] <;> rfl) | (rw [if_neg (by omega), if_neg (by omega), if_neg (by omega)] <;> rfl) | (rw [if_neg (by omega), if_neg (by omega), if_neg (by omega), if_neg (by omega), if_pos (by omega)] <;> rfl) | (rw [if_neg (by omega), if_neg (by omega), if_neg (by omega), if_neg (by omega)] <;> rfl) | (rw [if_neg (by omega), if_neg (by omega), if_neg (by omega), if_neg (by omega), if_neg (by omega), if_pos (by omega)] <;> rfl) | (rw [if_neg (by omega), if_neg (by omega), if_neg (by omega), if_neg (by omega), if_neg (by omega)] <;> rfl) | (rw [if_neg (by omega), if_neg (by omega), if_neg (by omega), if_neg (by omega), if_neg (by omega), if_neg (by omega), if_pos (by omega)] <;> rfl) | (rw [if_neg (by omega), if_neg (by omega), if_neg (by omega), if_neg (by omega), if_neg (by omega), if_neg (by omega)] <;> rfl)
  · refine E_load rfl rfl rfl ?_
    refine E_getr (c := 11) (r := 16) rfl (hL.lt 0 rfl) (hL.k 0 rfl) rfl (hR.C.g 0 5 16 (by decide)) ?_
    refine E_V0 (q := 16) (c := 8) (y := 62) rfl rfl (hL.lt 16 rfl) (hL.k 16 rfl) rfl rfl rfl rfl (s_clear (sh16 hL hR.C) (by decide) (by decide)) (fun r h2 hq => ?_)
    obtain ⟨rfl, c_1, hh, hc⟩ := hq
    subst hh
    have hE : EqP (fun a k => a = 17 ∨ (a = 16 ∧ k = 3)) c c_1 := by rw [hc]; exact EqP.up (by omega)
    refine E_const rfl ?_
    refine E_iret rfl (fun h => absurd h (by decide)) ?_
    refine mutC (s' := upd1 s 33 0) ?_ ?_ (hE.mono (fun a k e => by unfold FrC; omega))
    · unfold f_book
      try simp only [Int.toNat_natCast]
      first | (exfalso; omega) | (rw [if_pos (by omega)] <;> rfl) | (rw [if_neg (by omega), if_pos (by omega)] <;> rfl) | (rw [if_neg (by omega)] <;> rfl) | (rw [if_neg (by omega), if_neg (by omega), if_pos (by omega)] <;> rfl) | (rw [if_neg (by omega), if_neg (by omega)] <;> rfl) | (rw [if_neg (by omega), if_neg (by omega), if_neg (by omega), if_pos (by omega)] <;> rfl) | (rw [if_neg (by omega), if_neg (by omega), if_neg (by omega)] <;> rfl) | (rw [if_neg (by omega), if_neg (by omega), if_neg (by omega), if_neg (by omega), if_pos (by omega)] <;> rfl) | (rw [if_neg (by omega), if_neg (by omega), if_neg (by omega), if_neg (by omega)] <;> rfl) | (rw [if_neg (by omega), if_neg (by omega), if_neg (by omega), if_neg (by omega), if_neg (by omega), if_pos (by omega)] <;> rfl) | (rw [if_neg (by omega), if_neg (by omega), if_neg (by omega), if_neg (by omega), if_neg (by omega)] <;> rfl) | (rw [if_neg (by omega), if_neg (by omega), if_neg (by omega), if_neg (by omega), if_neg (by omega), if_neg (by omega), if_pos (by omega)] <;> rfl) | (rw [if_neg (by omega), if_neg (by omega), if_neg (by omega), if_neg (by omega), if_neg (by omega), if_neg (by omega)] <;> rfl)
    refine RepC.mkS hR hAA (fun a k hk => hE a k (by unfold shW at hk; omega)) (fun k hk => by rw [upd1_ne (by omega)]) ?_ ?_ ?_ ?_ ?_
    · rw [hE 1 3 (by omega), hE.row 2 (fun k => by omega)]; exact hR.tape.tr (fun k hk => by rw [upd1_ne (by omega)]) n34.2
    · rw [hE 4 3 (by omega), hE.row 5 (fun k => by omega)]; exact hR.mood.tr (fun k hk => by rw [upd1_ne (by omega)]) n36.2
    · rw [hE 10 3 (by omega), hE.row 11 (fun k => by omega)]; exact hR.seen.tr (fun k hk => by rw [upd1_ne (by omega)]) n31.2
    · rw [hE 13 3 (by omega), hE.row 14 (fun k => by omega)]; exact hR.eve.tr (fun k hk => by rw [upd1_ne (by omega)]) n32.2
    · exact ⟨by rw [hc]; exact up2_same.trans upd1_same.symm, fun k hk => by rw [upd1_same] at hk; omega⟩
set_option maxHeartbeats 4000000 in
set_option maxRecDepth 100000 in
theorem C_evening {d : Nat} {h : Hp} {c : Nat → Nat → Int} {B : Nat → Nat} {s im : Nat → Int} {hi : Int} {L : List Int} (hL : Lay h) (hR : RepC h c B s im hi L) (hA : Inv s) {w : Int} (hw : inR w) {x : Int} (hx : inR x) {g : Int} (hg : inR g) : Ok (d + 8) 101 [(1, ((0 : Nat) : Int)), (0, w), (0, x), (0, g)] (wC h c) (fun r h2 => r = some (0, (f_evening s w x g).1) ∧ ∃ c2, h2 = wC h c2 ∧ RepC h c2 B (f_evening s w x g).2 im hi L ∧ EqP FrC c c2) := by
  show Ex _ none t_X10_evening 0 0 _ [] (wC h c) _
  have hAA := hA
  have hG := hA.G
  obtain ⟨hI, hH, ⟨⟨n29, n30, n31, n32, n33, n34, n36⟩, nM⟩, hX⟩ := hA
  refine E_load rfl rfl rfl ?_
  refine E_const rfl ?_
  refine E_cmp1 rfl (by omega) (fun q1 => ?_) (fun q1 => ?_)
  · refine E_load rfl rfl rfl ?_
    refine E_const rfl ?_
    refine E_const rfl ?_
    refine E_S3 (y := 111) rfl rfl rfl rfl rfl (c_within (by omega) (by omega) (by omega)) (fun r h2 hq => ?_)
    obtain ⟨rfl, hh⟩ := hq
    subst hh
    refine E_if0 rfl (bI_R _) (fun q2 => ?_) (fun q2 => ?_)
    · replace q2 := bI_z q2
      refine E_const rfl ?_
      refine E_iret rfl (fun h => absurd h (by decide)) ?_
      refine mutC (s' := s) ?_ hR EqP.nil
      unfold f_evening
      try simp only [Int.toNat_natCast]
      first | (exfalso; omega) | (rw [if_pos (by omega)] <;> rfl) | (rw [if_neg (by omega), if_pos (by omega)] <;> rfl) | (rw [if_neg (by omega)] <;> rfl) | (rw [if_neg (by omega), if_neg (by omega), if_pos (by omega)] <;> rfl) | (rw [if_neg (by omega), if_neg (by omega)] <;> rfl) | (rw [if_neg (by omega), if_neg (by omega), if_neg (by omega), if_pos (by omega)] <;> rfl) | (rw [if_neg (by omega), if_neg (by omega), if_neg (by omega)] <;> rfl) | (rw [if_neg (by omega), if_neg (by omega), if_neg (by omega), if_neg (by omega), if_pos (by omega)] <;> rfl) | (rw [if_neg (by omega), if_neg (by omega), if_neg (by omega), if_neg (by omega)] <;> rfl) | (rw [if_neg (by omega), if_neg (by omega), if_neg (by omega), if_neg (by omega), if_neg (by omega), if_pos (by omega)] <;> rfl) | (rw [if_neg (by omega), if_neg (by omega), if_neg (by omega), if_neg (by omega), if_neg (by omega)] <;> rfl) | (rw [if_neg (by omega), if_neg (by omega), if_neg (by omega), if_neg (by omega), if_neg (by omega), if_neg (by omega), if_pos (by omega)] <;> rfl) | (rw [if_neg (by omega), if_neg (by omega), if_neg (by omega), if_neg (by omega), if_neg (by omega), if_neg (by omega)] <;> rfl)
    · replace q2 := bI_nz q2
      refine E_load rfl rfl rfl ?_
      refine E_if0 rfl (by omega) (fun q3 => ?_) (fun q3 => ?_)
      · refine E_load rfl rfl rfl ?_
        refine E_const rfl ?_
        refine E_cmp1 rfl (by omega) (fun q4 => ?_) (fun q4 => ?_)
        · refine E_load rfl rfl rfl ?_
          refine E_getr (c := 11) (r := 13) rfl (hL.lt 0 rfl) (hL.k 0 rfl) rfl (hR.C.g 0 4 13 (by decide)) ?_
          refine E_load rfl rfl rfl ?_
          refine E_load rfl rfl rfl ?_
          refine E_load rfl rfl rfl ?_
          rcases Classical.em (s 32 < 8) with hlt | hlt
          · obtain ⟨n, hn⟩ := Int.eq_ofNat_of_zero_le (show 0 ≤ s 32 by omega)
            refine E_S4 (y := 116) rfl rfl rfl rfl rfl (c_added3 (sh13 hL hR.C) (by decide) (by rw [show c 13 3 = s 32 from hR.eve.1]; omega) (by rw [show c 13 3 = s 32 from hR.eve.1]; omega)) (fun r h2 hq => ?_)
            obtain ⟨rfl, c_1, hh, hc_1⟩ := hq
            subst hh
            rw [show c 13 3 = s 32 from hR.eve.1] at hc_1 ⊢
            rw [if_pos (by omega)] at hc_1 ⊢
            have hc : c_1 = up2 (up2 (up2 (up2 c 14 (3 * n) w) 14 (3 * n + 1) x) 14 (3 * n + 2) g) 13 3 (s 32 + 1) := by
              rw [hc_1]
              unfold adS
              rw [show c 13 3 = s 32 from hR.eve.1, hn, show ((n : Int) * ((3 : Nat) : Int)).toNat = 3 * n by omega]
              rfl
            have hE : EqP (fun a k => a = 14 ∨ (a = 13 ∧ k = 3)) c c_1 := by
              rw [hc]
              exact (EqP.up (by omega)).trans ((EqP.up (by omega)).trans ((EqP.up (by omega)).trans (EqP.up (by omega))))
            refine E_iret rfl (fun h => absurd h (by decide)) ?_
            first
              | (exfalso; omega)
              | (refine mutC (s' := upd1 (upd1 (upd1 (upd1 s (88 + n) w) (96 + n) x) (104 + n) g) 32 (s 32 + 1)) ?_ ?_ (hE.mono (fun a k e => by unfold FrC; omega))
                 · unfold f_evening
                   try simp only [hn, Int.toNat_natCast]
                   first | (exfalso; omega) | (rw [if_pos (by omega)] <;> rfl) | (rw [if_neg (by omega), if_pos (by omega)] <;> rfl) | (rw [if_neg (by omega)] <;> rfl) | (rw [if_neg (by omega), if_neg (by omega), if_pos (by omega)] <;> rfl) | (rw [if_neg (by omega), if_neg (by omega)] <;> rfl) | (rw [if_neg (by omega), if_neg (by omega), if_neg (by omega), if_pos (by omega)] <;> rfl) | (rw [if_neg (by omega), if_neg (by omega), if_neg (by omega)] <;> rfl) | (rw [if_neg (by omega), if_neg (by omega), if_neg (by omega), if_neg (by omega), if_pos (by omega)] <;> rfl) | (rw [if_neg (by omega), if_neg (by omega), if_neg (by omega), if_neg (by omega)] <;> rfl) | (rw [if_neg (by omega), if_neg (by omega), if_neg (by omega), if_neg (by omega), if_neg (by omega), if_pos (by omega)] <;> rfl) | (rw [if_neg (by omega), if_neg (by omega), if_neg (by omega), if_neg (by omega), if_neg (by omega)] <;> rfl) | (rw [if_neg (by omega), if_neg (by omega), if_neg (by omega), if_neg (by omega), if_neg (by omega), if_neg (by omega), if_pos (by omega)] <;> rfl) | (rw [if_neg (by omega), if_neg (by omega), if_neg (by omega), if_neg (by omega), if_neg (by omega), if_neg (by omega)] <;> rfl)
                 refine RepC.mkS hR hAA (fun a k hk => hE a k (by unfold shW at hk; omega)) (fun k hk => by rw [upd1_ne (by omega), upd1_ne (by omega), upd1_ne (by omega), upd1_ne (by omega)]) ?_ ?_ ?_ ?_ ?_
                 · rw [hE 1 3 (by omega), hE.row 2 (fun k => by omega)]; exact hR.tape.tr (fun k hk => by rw [upd1_ne (by omega), upd1_ne (by omega), upd1_ne (by omega), upd1_ne (by omega)]) n34.2
                 · rw [hE 4 3 (by omega), hE.row 5 (fun k => by omega)]; exact hR.mood.tr (fun k hk => by rw [upd1_ne (by omega), upd1_ne (by omega), upd1_ne (by omega), upd1_ne (by omega)]) n36.2
                 · rw [hE 10 3 (by omega), hE.row 11 (fun k => by omega)]; exact hR.seen.tr (fun k hk => by rw [upd1_ne (by omega), upd1_ne (by omega), upd1_ne (by omega), upd1_ne (by omega)]) n31.2
                 · refine ⟨by rw [hc]; exact up2_same.trans upd1_same.symm, fun k hk => ?_⟩
                   rw [upd1_same] at hk
                   rw [hc]
                   by_cases e : k = n
                   · subst e
                     refine ⟨?_, ?_, ?_⟩ <;> (repeat rw [up2_fldN (by omega)]) <;> (repeat rw [upd1_ne (by omega)]) <;> rw [up2_same, upd1_same]
                   · have h9 := hR.eve.2 k (by omega)
                     refine ⟨?_, ?_, ?_⟩ <;> (repeat rw [up2_fldN (by omega)]) <;> (repeat rw [upd1_ne (by omega)])
                     · exact h9.1
                     · exact h9.2.1
                     · exact h9.2.2
                 · rw [hE 16 3 (by omega), hE.row 17 (fun k => by omega)]; exact hR.book.tr (fun k hk => by rw [upd1_ne (by omega), upd1_ne (by omega), upd1_ne (by omega), upd1_ne (by omega)]) n33.2)
          · refine E_S4 (y := 116) rfl rfl rfl rfl rfl (c_added3 (sh13 hL hR.C) (by decide) (by rw [show c 13 3 = s 32 from hR.eve.1]; omega) (by rw [show c 13 3 = s 32 from hR.eve.1]; omega)) (fun r h2 hq => ?_)
            obtain ⟨rfl, c_1, hh, hc_1⟩ := hq
            subst hh
            rw [show c 13 3 = s 32 from hR.eve.1] at hc_1 ⊢
            rw [if_neg (by omega)] at hc_1 ⊢
            subst hc_1
            refine E_iret rfl (fun h => absurd h (by decide)) ?_
            refine mutC (s' := s) ?_ hR EqP.nil
            unfold f_evening
            try simp only [Int.toNat_natCast]
            first | (exfalso; omega) | (rw [if_pos (by omega)] <;> rfl) | (rw [if_neg (by omega), if_pos (by omega)] <;> rfl) | (rw [if_neg (by omega)] <;> rfl) | (rw [if_neg (by omega), if_neg (by omega), if_pos (by omega)] <;> rfl) | (rw [if_neg (by omega), if_neg (by omega)] <;> rfl) | (rw [if_neg (by omega), if_neg (by omega), if_neg (by omega), if_pos (by omega)] <;> rfl) | (rw [if_neg (by omega), if_neg (by omega), if_neg (by omega)] <;> rfl) | (rw [if_neg (by omega), if_neg (by omega), if_neg (by omega), if_neg (by omega), if_pos (by omega)] <;> rfl) | (rw [if_neg (by omega), if_neg (by omega), if_neg (by omega), if_neg (by omega)] <;> rfl) | (rw [if_neg (by omega), if_neg (by omega), if_neg (by omega), if_neg (by omega), if_neg (by omega), if_pos (by omega)] <;> rfl) | (rw [if_neg (by omega), if_neg (by omega), if_neg (by omega), if_neg (by omega), if_neg (by omega)] <;> rfl) | (rw [if_neg (by omega), if_neg (by omega), if_neg (by omega), if_neg (by omega), if_neg (by omega), if_neg (by omega), if_pos (by omega)] <;> rfl) | (rw [if_neg (by omega), if_neg (by omega), if_neg (by omega), if_neg (by omega), if_neg (by omega), if_neg (by omega)] <;> rfl)
        · refine E_load rfl rfl rfl ?_
          refine E_load rfl rfl rfl ?_
          refine E_V1 (q := 0) (c := 11) (y := 119) rfl rfl (hL.lt 0 rfl) (hL.k 0 rfl) rfl rfl rfl rfl (c_isG hL hR hG (by omega)) (fun r h2 hq => ?_)
          obtain ⟨rfl, hh⟩ := hq
          subst hh
          refine E_if1 rfl (bI_R _) (fun q5 => ?_) (fun q5 => ?_)
          · replace q5 := bI_nz q5
            refine E_load rfl rfl rfl ?_
            refine E_getr (c := 11) (r := 13) rfl (hL.lt 0 rfl) (hL.k 0 rfl) rfl (hR.C.g 0 4 13 (by decide)) ?_
            refine E_load rfl rfl rfl ?_
            refine E_load rfl rfl rfl ?_
            refine E_load rfl rfl rfl ?_
            rcases Classical.em (s 32 < 8) with hlt | hlt
            · obtain ⟨n, hn⟩ := Int.eq_ofNat_of_zero_le (show 0 ≤ s 32 by omega)
              refine E_S4 (y := 116) rfl rfl rfl rfl rfl (c_added3 (sh13 hL hR.C) (by decide) (by rw [show c 13 3 = s 32 from hR.eve.1]; omega) (by rw [show c 13 3 = s 32 from hR.eve.1]; omega)) (fun r h2 hq => ?_)
              obtain ⟨rfl, c_1, hh, hc_1⟩ := hq
              subst hh
              rw [show c 13 3 = s 32 from hR.eve.1] at hc_1 ⊢
              rw [if_pos (by omega)] at hc_1 ⊢
              have hc : c_1 = up2 (up2 (up2 (up2 c 14 (3 * n) w) 14 (3 * n + 1) x) 14 (3 * n + 2) g) 13 3 (s 32 + 1) := by
                rw [hc_1]
                unfold adS
                rw [show c 13 3 = s 32 from hR.eve.1, hn, show ((n : Int) * ((3 : Nat) : Int)).toNat = 3 * n by omega]
                rfl
              have hE : EqP (fun a k => a = 14 ∨ (a = 13 ∧ k = 3)) c c_1 := by
                rw [hc]
                exact (EqP.up (by omega)).trans ((EqP.up (by omega)).trans ((EqP.up (by omega)).trans (EqP.up (by omega))))
              refine E_iret rfl (fun h => absurd h (by decide)) ?_
              first
                | (exfalso; omega)
                | (refine mutC (s' := upd1 (upd1 (upd1 (upd1 s (88 + n) w) (96 + n) x) (104 + n) g) 32 (s 32 + 1)) ?_ ?_ (hE.mono (fun a k e => by unfold FrC; omega))
                   · unfold f_evening
                     try simp only [hn, Int.toNat_natCast]
                     first | (exfalso; omega) | (rw [if_pos (by omega)] <;> rfl) | (rw [if_neg (by omega), if_pos (by omega)] <;> rfl) | (rw [if_neg (by omega)] <;> rfl) | (rw [if_neg (by omega), if_neg (by omega), if_pos (by omega)] <;> rfl) | (rw [if_neg (by omega), if_neg (by omega)] <;> rfl) | (rw [if_neg (by omega), if_neg (by omega), if_neg (by omega), if_pos (by omega)] <;> rfl) | (rw [if_neg (by omega), if_neg (by omega), if_neg (by omega)] <;> rfl) | (rw [if_neg (by omega), if_neg (by omega), if_neg (by omega), if_neg (by omega), if_pos (by omega)] <;> rfl) | (rw [if_neg (by omega), if_neg (by omega), if_neg (by omega), if_neg (by omega)] <;> rfl) | (rw [if_neg (by omega), if_neg (by omega), if_neg (by omega), if_neg (by omega), if_neg (by omega), if_pos (by omega)] <;> rfl) | (rw [if_neg (by omega), if_neg (by omega), if_neg (by omega), if_neg (by omega), if_neg (by omega)] <;> rfl) | (rw [if_neg (by omega), if_neg (by omega), if_neg (by omega), if_neg (by omega), if_neg (by omega), if_neg (by omega), if_pos (by omega)] <;> rfl) | (rw [if_neg (by omega), if_neg (by omega), if_neg (by omega), if_neg (by omega), if_neg (by omega), if_neg (by omega)] <;> rfl)
                   refine RepC.mkS hR hAA (fun a k hk => hE a k (by unfold shW at hk; omega)) (fun k hk => by rw [upd1_ne (by omega), upd1_ne (by omega), upd1_ne (by omega), upd1_ne (by omega)]) ?_ ?_ ?_ ?_ ?_
                   · rw [hE 1 3 (by omega), hE.row 2 (fun k => by omega)]; exact hR.tape.tr (fun k hk => by rw [upd1_ne (by omega), upd1_ne (by omega), upd1_ne (by omega), upd1_ne (by omega)]) n34.2
                   · rw [hE 4 3 (by omega), hE.row 5 (fun k => by omega)]; exact hR.mood.tr (fun k hk => by rw [upd1_ne (by omega), upd1_ne (by omega), upd1_ne (by omega), upd1_ne (by omega)]) n36.2
                   · rw [hE 10 3 (by omega), hE.row 11 (fun k => by omega)]; exact hR.seen.tr (fun k hk => by rw [upd1_ne (by omega), upd1_ne (by omega), upd1_ne (by omega), upd1_ne (by omega)]) n31.2
                   · refine ⟨by rw [hc]; exact up2_same.trans upd1_same.symm, fun k hk => ?_⟩
                     rw [upd1_same] at hk
                     rw [hc]
                     by_cases e : k = n
                     · subst e
                       refine ⟨?_, ?_, ?_⟩ <;> (repeat rw [up2_fldN (by omega)]) <;> (repeat rw [upd1_ne (by omega)]) <;> rw [up2_same, upd1_same]
                     · have h9 := hR.eve.2 k (by omega)
                       refine ⟨?_, ?_, ?_⟩ <;> (repeat rw [up2_fldN (by omega)]) <;> (repeat rw [upd1_ne (by omega)])
                       · exact h9.1
                       · exact h9.2.1
                       · exact h9.2.2
                   · rw [hE 16 3 (by omega), hE.row 17 (fun k => by omega)]; exact hR.book.tr (fun k hk => by rw [upd1_ne (by omega), upd1_ne (by omega), upd1_ne (by omega), upd1_ne (by omega)]) n33.2)
            · refine E_S4 (y := 116) rfl rfl rfl rfl rfl (c_added3 (sh13 hL hR.C) (by decide) (by rw [show c 13 3 = s 32 from hR.eve.1]; omega) (by rw [show c 13 3 = s 32 from hR.eve.1]; omega)) (fun r h2 hq => ?_)
              obtain ⟨rfl, c_1, hh, hc_1⟩ := hq
              subst hh
              rw [show c 13 3 = s 32 from hR.eve.1] at hc_1 ⊢
              rw [if_neg (by omega)] at hc_1 ⊢
              subst hc_1
              refine E_iret rfl (fun h => absurd h (by decide)) ?_
              refine mutC (s' := s) ?_ hR EqP.nil
              unfold f_evening
              try simp only [Int.toNat_natCast]
              first | (exfalso; omega) | (rw [if_pos (by omega)] <;> rfl) | (rw [if_neg (by omega), if_pos (by omega)] <;> rfl) | (rw [if_neg (by omega)] <;> rfl) | (rw [if_neg (by omega), if_neg (by omega), if_pos (by omega)] <;> rfl) | (rw [if_neg (by omega), if_neg (by omega)] <;> rfl) | (rw [if_neg (by omega), if_neg (by omega), if_neg (by omega), if_pos (by omega)] <;> rfl) | (rw [if_neg (by omega), if_neg (by omega), if_neg (by omega)] <;> rfl) | (rw [if_neg (by omega), if_neg (by omega), if_neg (by omega), if_neg (by omega), if_pos (by omega)] <;> rfl) | (rw [if_neg (by omega), if_neg (by omega), if_neg (by omega), if_neg (by omega)] <;> rfl) | (rw [if_neg (by omega), if_neg (by omega), if_neg (by omega), if_neg (by omega), if_neg (by omega), if_pos (by omega)] <;> rfl) | (rw [if_neg (by omega), if_neg (by omega), if_neg (by omega), if_neg (by omega), if_neg (by omega)] <;> rfl) | (rw [if_neg (by omega), if_neg (by omega), if_neg (by omega), if_neg (by omega), if_neg (by omega), if_neg (by omega), if_pos (by omega)] <;> rfl) | (rw [if_neg (by omega), if_neg (by omega), if_neg (by omega), if_neg (by omega), if_neg (by omega), if_neg (by omega)] <;> rfl)
          · replace q5 := bI_z q5
            refine E_const rfl ?_
            refine E_iret rfl (fun h => absurd h (by decide)) ?_
            refine mutC (s' := s) ?_ hR EqP.nil
            unfold f_evening
            try simp only [Int.toNat_natCast]
            first | (exfalso; omega) | (rw [if_pos (by omega)] <;> rfl) | (rw [if_neg (by omega), if_pos (by omega)] <;> rfl) | (rw [if_neg (by omega)] <;> rfl) | (rw [if_neg (by omega), if_neg (by omega), if_pos (by omega)] <;> rfl) | (rw [if_neg (by omega), if_neg (by omega)] <;> rfl) | (rw [if_neg (by omega), if_neg (by omega), if_neg (by omega), if_pos (by omega)] <;> rfl) | (rw [if_neg (by omega), if_neg (by omega), if_neg (by omega)] <;> rfl) | (rw [if_neg (by omega), if_neg (by omega), if_neg (by omega), if_neg (by omega), if_pos (by omega)] <;> rfl) | (rw [if_neg (by omega), if_neg (by omega), if_neg (by omega), if_neg (by omega)] <;> rfl) | (rw [if_neg (by omega), if_neg (by omega), if_neg (by omega), if_neg (by omega), if_neg (by omega), if_pos (by omega)] <;> rfl) | (rw [if_neg (by omega), if_neg (by omega), if_neg (by omega), if_neg (by omega), if_neg (by omega)] <;> rfl) | (rw [if_neg (by omega), if_neg (by omega), if_neg (by omega), if_neg (by omega), if_neg (by omega), if_neg (by omega), if_pos (by omega)] <;> rfl) | (rw [if_neg (by omega), if_neg (by omega), if_neg (by omega), if_neg (by omega), if_neg (by omega), if_neg (by omega)] <;> rfl)
      · refine E_load rfl rfl rfl ?_
        refine E_load rfl rfl rfl ?_
        rcases Classical.em (0 ≤ x ∧ x < s 29) with hb | hb
        · obtain ⟨b, rfl⟩ := Int.eq_ofNat_of_zero_le hb.1
          refine E_V1 (q := 0) (c := 11) (y := 120) rfl rfl (hL.lt 0 rfl) (hL.k 0 rfl) rfl rfl rfl rfl (c_bY hL hR (b := b) (by omega)) (fun r h2 hq => ?_)
          obtain ⟨rfl, hh⟩ := hq
          subst hh
          refine E_null0 rfl (fun q6 => ?_) (fun q6 => ?_)
          · exfalso; omega
          · refine E_load rfl rfl rfl ?_
            refine E_const rfl ?_
            refine E_cmp1 rfl (by omega) (fun q7 => ?_) (fun q7 => ?_)
            · refine E_load rfl rfl rfl ?_
              refine E_getr (c := 11) (r := 13) rfl (hL.lt 0 rfl) (hL.k 0 rfl) rfl (hR.C.g 0 4 13 (by decide)) ?_
              refine E_load rfl rfl rfl ?_
              refine E_load rfl rfl rfl ?_
              refine E_load rfl rfl rfl ?_
              rcases Classical.em (s 32 < 8) with hlt | hlt
              · obtain ⟨n, hn⟩ := Int.eq_ofNat_of_zero_le (show 0 ≤ s 32 by omega)
                refine E_S4 (y := 116) rfl rfl rfl rfl rfl (c_added3 (sh13 hL hR.C) (by decide) (by rw [show c 13 3 = s 32 from hR.eve.1]; omega) (by rw [show c 13 3 = s 32 from hR.eve.1]; omega)) (fun r h2 hq => ?_)
                obtain ⟨rfl, c_1, hh, hc_1⟩ := hq
                subst hh
                rw [show c 13 3 = s 32 from hR.eve.1] at hc_1 ⊢
                rw [if_pos (by omega)] at hc_1 ⊢
                have hc : c_1 = up2 (up2 (up2 (up2 c 14 (3 * n) w) 14 (3 * n + 1) ((b : Nat) : Int)) 14 (3 * n + 2) g) 13 3 (s 32 + 1) := by
                  rw [hc_1]
                  unfold adS
                  rw [show c 13 3 = s 32 from hR.eve.1, hn, show ((n : Int) * ((3 : Nat) : Int)).toNat = 3 * n by omega]
                  rfl
                have hE : EqP (fun a k => a = 14 ∨ (a = 13 ∧ k = 3)) c c_1 := by
                  rw [hc]
                  exact (EqP.up (by omega)).trans ((EqP.up (by omega)).trans ((EqP.up (by omega)).trans (EqP.up (by omega))))
                refine E_iret rfl (fun h => absurd h (by decide)) ?_
                first
                  | (exfalso; omega)
                  | (refine mutC (s' := upd1 (upd1 (upd1 (upd1 s (88 + n) w) (96 + n) ((b : Nat) : Int)) (104 + n) g) 32 (s 32 + 1)) ?_ ?_ (hE.mono (fun a k e => by unfold FrC; omega))
                     · unfold f_evening
                       try simp only [hn, Int.toNat_natCast]
                       first | (exfalso; omega) | (rw [if_pos (by omega)] <;> rfl) | (rw [if_neg (by omega), if_pos (by omega)] <;> rfl) | (rw [if_neg (by omega)] <;> rfl) | (rw [if_neg (by omega), if_neg (by omega), if_pos (by omega)] <;> rfl) | (rw [if_neg (by omega), if_neg (by omega)] <;> rfl) | (rw [if_neg (by omega), if_neg (by omega), if_neg (by omega), if_pos (by omega)] <;> rfl) | (rw [if_neg (by omega), if_neg (by omega), if_neg (by omega)] <;> rfl) | (rw [if_neg (by omega), if_neg (by omega), if_neg (by omega), if_neg (by omega), if_pos (by omega)] <;> rfl) | (rw [if_neg (by omega), if_neg (by omega), if_neg (by omega), if_neg (by omega)] <;> rfl) | (rw [if_neg (by omega), if_neg (by omega), if_neg (by omega), if_neg (by omega), if_neg (by omega), if_pos (by omega)] <;> rfl) | (rw [if_neg (by omega), if_neg (by omega), if_neg (by omega), if_neg (by omega), if_neg (by omega)] <;> rfl) | (rw [if_neg (by omega), if_neg (by omega), if_neg (by omega), if_neg (by omega), if_neg (by omega), if_neg (by omega), if_pos (by omega)] <;> rfl) | (rw [if_neg (by omega), if_neg (by omega), if_neg (by omega), if_neg (by omega), if_neg (by omega), if_neg (by omega)] <;> rfl)
                     refine RepC.mkS hR hAA (fun a k hk => hE a k (by unfold shW at hk; omega)) (fun k hk => by rw [upd1_ne (by omega), upd1_ne (by omega), upd1_ne (by omega), upd1_ne (by omega)]) ?_ ?_ ?_ ?_ ?_
                     · rw [hE 1 3 (by omega), hE.row 2 (fun k => by omega)]; exact hR.tape.tr (fun k hk => by rw [upd1_ne (by omega), upd1_ne (by omega), upd1_ne (by omega), upd1_ne (by omega)]) n34.2
                     · rw [hE 4 3 (by omega), hE.row 5 (fun k => by omega)]; exact hR.mood.tr (fun k hk => by rw [upd1_ne (by omega), upd1_ne (by omega), upd1_ne (by omega), upd1_ne (by omega)]) n36.2
                     · rw [hE 10 3 (by omega), hE.row 11 (fun k => by omega)]; exact hR.seen.tr (fun k hk => by rw [upd1_ne (by omega), upd1_ne (by omega), upd1_ne (by omega), upd1_ne (by omega)]) n31.2
                     · refine ⟨by rw [hc]; exact up2_same.trans upd1_same.symm, fun k hk => ?_⟩
                       rw [upd1_same] at hk
                       rw [hc]
                       by_cases e : k = n
                       · subst e
                         refine ⟨?_, ?_, ?_⟩ <;> (repeat rw [up2_fldN (by omega)]) <;> (repeat rw [upd1_ne (by omega)]) <;> rw [up2_same, upd1_same]
                       · have h9 := hR.eve.2 k (by omega)
                         refine ⟨?_, ?_, ?_⟩ <;> (repeat rw [up2_fldN (by omega)]) <;> (repeat rw [upd1_ne (by omega)])
                         · exact h9.1
                         · exact h9.2.1
                         · exact h9.2.2
                     · rw [hE 16 3 (by omega), hE.row 17 (fun k => by omega)]; exact hR.book.tr (fun k hk => by rw [upd1_ne (by omega), upd1_ne (by omega), upd1_ne (by omega), upd1_ne (by omega)]) n33.2)
              · refine E_S4 (y := 116) rfl rfl rfl rfl rfl (c_added3 (sh13 hL hR.C) (by decide) (by rw [show c 13 3 = s 32 from hR.eve.1]; omega) (by rw [show c 13 3 = s 32 from hR.eve.1]; omega)) (fun r h2 hq => ?_)
                obtain ⟨rfl, c_1, hh, hc_1⟩ := hq
                subst hh
                rw [show c 13 3 = s 32 from hR.eve.1] at hc_1 ⊢
                rw [if_neg (by omega)] at hc_1 ⊢
                subst hc_1
                refine E_iret rfl (fun h => absurd h (by decide)) ?_
                refine mutC (s' := s) ?_ hR EqP.nil
                unfold f_evening
                try simp only [Int.toNat_natCast]
                first | (exfalso; omega) | (rw [if_pos (by omega)] <;> rfl) | (rw [if_neg (by omega), if_pos (by omega)] <;> rfl) | (rw [if_neg (by omega)] <;> rfl) | (rw [if_neg (by omega), if_neg (by omega), if_pos (by omega)] <;> rfl) | (rw [if_neg (by omega), if_neg (by omega)] <;> rfl) | (rw [if_neg (by omega), if_neg (by omega), if_neg (by omega), if_pos (by omega)] <;> rfl) | (rw [if_neg (by omega), if_neg (by omega), if_neg (by omega)] <;> rfl) | (rw [if_neg (by omega), if_neg (by omega), if_neg (by omega), if_neg (by omega), if_pos (by omega)] <;> rfl) | (rw [if_neg (by omega), if_neg (by omega), if_neg (by omega), if_neg (by omega)] <;> rfl) | (rw [if_neg (by omega), if_neg (by omega), if_neg (by omega), if_neg (by omega), if_neg (by omega), if_pos (by omega)] <;> rfl) | (rw [if_neg (by omega), if_neg (by omega), if_neg (by omega), if_neg (by omega), if_neg (by omega)] <;> rfl) | (rw [if_neg (by omega), if_neg (by omega), if_neg (by omega), if_neg (by omega), if_neg (by omega), if_neg (by omega), if_pos (by omega)] <;> rfl) | (rw [if_neg (by omega), if_neg (by omega), if_neg (by omega), if_neg (by omega), if_neg (by omega), if_neg (by omega)] <;> rfl)
            · refine E_load rfl rfl rfl ?_
              refine E_load rfl rfl rfl ?_
              refine E_V1 (q := 0) (c := 11) (y := 119) rfl rfl (hL.lt 0 rfl) (hL.k 0 rfl) rfl rfl rfl rfl (c_isG hL hR hG (by omega)) (fun r h2 hq => ?_)
              obtain ⟨rfl, hh⟩ := hq
              subst hh
              refine E_if1 rfl (bI_R _) (fun q8 => ?_) (fun q8 => ?_)
              · replace q8 := bI_nz q8
                refine E_load rfl rfl rfl ?_
                refine E_getr (c := 11) (r := 13) rfl (hL.lt 0 rfl) (hL.k 0 rfl) rfl (hR.C.g 0 4 13 (by decide)) ?_
                refine E_load rfl rfl rfl ?_
                refine E_load rfl rfl rfl ?_
                refine E_load rfl rfl rfl ?_
                rcases Classical.em (s 32 < 8) with hlt | hlt
                · obtain ⟨n, hn⟩ := Int.eq_ofNat_of_zero_le (show 0 ≤ s 32 by omega)
                  refine E_S4 (y := 116) rfl rfl rfl rfl rfl (c_added3 (sh13 hL hR.C) (by decide) (by rw [show c 13 3 = s 32 from hR.eve.1]; omega) (by rw [show c 13 3 = s 32 from hR.eve.1]; omega)) (fun r h2 hq => ?_)
                  obtain ⟨rfl, c_1, hh, hc_1⟩ := hq
                  subst hh
                  rw [show c 13 3 = s 32 from hR.eve.1] at hc_1 ⊢
                  rw [if_pos (by omega)] at hc_1 ⊢
                  have hc : c_1 = up2 (up2 (up2 (up2 c 14 (3 * n) w) 14 (3 * n + 1) ((b : Nat) : Int)) 14 (3 * n + 2) g) 13 3 (s 32 + 1) := by
                    rw [hc_1]
                    unfold adS
                    rw [show c 13 3 = s 32 from hR.eve.1, hn, show ((n : Int) * ((3 : Nat) : Int)).toNat = 3 * n by omega]
                    rfl
                  have hE : EqP (fun a k => a = 14 ∨ (a = 13 ∧ k = 3)) c c_1 := by
                    rw [hc]
                    exact (EqP.up (by omega)).trans ((EqP.up (by omega)).trans ((EqP.up (by omega)).trans (EqP.up (by omega))))
                  refine E_iret rfl (fun h => absurd h (by decide)) ?_
                  first
                    | (exfalso; omega)
                    | (refine mutC (s' := upd1 (upd1 (upd1 (upd1 s (88 + n) w) (96 + n) ((b : Nat) : Int)) (104 + n) g) 32 (s 32 + 1)) ?_ ?_ (hE.mono (fun a k e => by unfold FrC; omega))
                       · unfold f_evening
                         try simp only [hn, Int.toNat_natCast]
                         first | (exfalso; omega) | (rw [if_pos (by omega)] <;> rfl) | (rw [if_neg (by omega), if_pos (by omega)] <;> rfl) | (rw [if_neg (by omega)] <;> rfl) | (rw [if_neg (by omega), if_neg (by omega), if_pos (by omega)] <;> rfl) | (rw [if_neg (by omega), if_neg (by omega)] <;> rfl) | (rw [if_neg (by omega), if_neg (by omega), if_neg (by omega), if_pos (by omega)] <;> rfl) | (rw [if_neg (by omega), if_neg (by omega), if_neg (by omega)] <;> rfl) | (rw [if_neg (by omega), if_neg (by omega), if_neg (by omega), if_neg (by omega), if_pos (by omega)] <;> rfl) | (rw [if_neg (by omega), if_neg (by omega), if_neg (by omega), if_neg (by omega)] <;> rfl) | (rw [if_neg (by omega), if_neg (by omega), if_neg (by omega), if_neg (by omega), if_neg (by omega), if_pos (by omega)] <;> rfl) | (rw [if_neg (by omega), if_neg (by omega), if_neg (by omega), if_neg (by omega), if_neg (by omega)] <;> rfl) | (rw [if_neg (by omega), if_neg (by omega), if_neg (by omega), if_neg (by omega), if_neg (by omega), if_neg (by omega), if_pos (by omega)] <;> rfl) | (rw [if_neg (by omega), if_neg (by omega), if_neg (by omega), if_neg (by omega), if_neg (by omega), if_neg (by omega)] <;> rfl)
                       refine RepC.mkS hR hAA (fun a k hk => hE a k (by unfold shW at hk; omega)) (fun k hk => by rw [upd1_ne (by omega), upd1_ne (by omega), upd1_ne (by omega), upd1_ne (by omega)]) ?_ ?_ ?_ ?_ ?_
                       · rw [hE 1 3 (by omega), hE.row 2 (fun k => by omega)]; exact hR.tape.tr (fun k hk => by rw [upd1_ne (by omega), upd1_ne (by omega), upd1_ne (by omega), upd1_ne (by omega)]) n34.2
                       · rw [hE 4 3 (by omega), hE.row 5 (fun k => by omega)]; exact hR.mood.tr (fun k hk => by rw [upd1_ne (by omega), upd1_ne (by omega), upd1_ne (by omega), upd1_ne (by omega)]) n36.2
                       · rw [hE 10 3 (by omega), hE.row 11 (fun k => by omega)]; exact hR.seen.tr (fun k hk => by rw [upd1_ne (by omega), upd1_ne (by omega), upd1_ne (by omega), upd1_ne (by omega)]) n31.2
                       · refine ⟨by rw [hc]; exact up2_same.trans upd1_same.symm, fun k hk => ?_⟩
                         rw [upd1_same] at hk
                         rw [hc]
                         by_cases e : k = n
                         · subst e
                           refine ⟨?_, ?_, ?_⟩ <;> (repeat rw [up2_fldN (by omega)]) <;> (repeat rw [upd1_ne (by omega)]) <;> rw [up2_same, upd1_same]
                         · have h9 := hR.eve.2 k (by omega)
                           refine ⟨?_, ?_, ?_⟩ <;> (repeat rw [up2_fldN (by omega)]) <;> (repeat rw [upd1_ne (by omega)])
                           · exact h9.1
                           · exact h9.2.1
                           · exact h9.2.2
                       · rw [hE 16 3 (by omega), hE.row 17 (fun k => by omega)]; exact hR.book.tr (fun k hk => by rw [upd1_ne (by omega), upd1_ne (by omega), upd1_ne (by omega), upd1_ne (by omega)]) n33.2)
                · refine E_S4 (y := 116) rfl rfl rfl rfl rfl (c_added3 (sh13 hL hR.C) (by decide) (by rw [show c 13 3 = s 32 from hR.eve.1]; omega) (by rw [show c 13 3 = s 32 from hR.eve.1]; omega)) (fun r h2 hq => ?_)
                  obtain ⟨rfl, c_1, hh, hc_1⟩ := hq
                  subst hh
                  rw [show c 13 3 = s 32 from hR.eve.1] at hc_1 ⊢
                  rw [if_neg (by omega)] at hc_1 ⊢
                  subst hc_1
                  refine E_iret rfl (fun h => absurd h (by decide)) ?_
                  refine mutC (s' := s) ?_ hR EqP.nil
                  unfold f_evening
                  try simp only [Int.toNat_natCast]
                  first | (exfalso; omega) | (rw [if_pos (by omega)] <;> rfl) | (rw [if_neg (by omega), if_pos (by omega)] <;> rfl) | (rw [if_neg (by omega)] <;> rfl) | (rw [if_neg (by omega), if_neg (by omega), if_pos (by omega)] <;> rfl) | (rw [if_neg (by omega), if_neg (by omega)] <;> rfl) | (rw [if_neg (by omega), if_neg (by omega), if_neg (by omega), if_pos (by omega)] <;> rfl) | (rw [if_neg (by omega), if_neg (by omega), if_neg (by omega)] <;> rfl) | (rw [if_neg (by omega), if_neg (by omega), if_neg (by omega), if_neg (by omega), if_pos (by omega)] <;> rfl) | (rw [if_neg (by omega), if_neg (by omega), if_neg (by omega), if_neg (by omega)] <;> rfl) | (rw [if_neg (by omega), if_neg (by omega), if_neg (by omega), if_neg (by omega), if_neg (by omega), if_pos (by omega)] <;> rfl) | (rw [if_neg (by omega), if_neg (by omega), if_neg (by omega), if_neg (by omega), if_neg (by omega)] <;> rfl) | (rw [if_neg (by omega), if_neg (by omega), if_neg (by omega), if_neg (by omega), if_neg (by omega), if_neg (by omega), if_pos (by omega)] <;> rfl) | (rw [if_neg (by omega), if_neg (by omega), if_neg (by omega), if_neg (by omega), if_neg (by omega), if_neg (by omega)] <;> rfl)
              · replace q8 := bI_z q8
                refine E_const rfl ?_
                refine E_iret rfl (fun h => absurd h (by decide)) ?_
                refine mutC (s' := s) ?_ hR EqP.nil
                unfold f_evening
                try simp only [Int.toNat_natCast]
                first | (exfalso; omega) | (rw [if_pos (by omega)] <;> rfl) | (rw [if_neg (by omega), if_pos (by omega)] <;> rfl) | (rw [if_neg (by omega)] <;> rfl) | (rw [if_neg (by omega), if_neg (by omega), if_pos (by omega)] <;> rfl) | (rw [if_neg (by omega), if_neg (by omega)] <;> rfl) | (rw [if_neg (by omega), if_neg (by omega), if_neg (by omega), if_pos (by omega)] <;> rfl) | (rw [if_neg (by omega), if_neg (by omega), if_neg (by omega)] <;> rfl) | (rw [if_neg (by omega), if_neg (by omega), if_neg (by omega), if_neg (by omega), if_pos (by omega)] <;> rfl) | (rw [if_neg (by omega), if_neg (by omega), if_neg (by omega), if_neg (by omega)] <;> rfl) | (rw [if_neg (by omega), if_neg (by omega), if_neg (by omega), if_neg (by omega), if_neg (by omega), if_pos (by omega)] <;> rfl) | (rw [if_neg (by omega), if_neg (by omega), if_neg (by omega), if_neg (by omega), if_neg (by omega)] <;> rfl) | (rw [if_neg (by omega), if_neg (by omega), if_neg (by omega), if_neg (by omega), if_neg (by omega), if_neg (by omega), if_pos (by omega)] <;> rfl) | (rw [if_neg (by omega), if_neg (by omega), if_neg (by omega), if_neg (by omega), if_neg (by omega), if_neg (by omega)] <;> rfl)
        · refine E_V1 (q := 0) (c := 11) (y := 120) rfl rfl (hL.lt 0 rfl) (hL.k 0 rfl) rfl rfl rfl rfl (c_bN hL hR (by omega) n29.1 hb) (fun r h2 hq => ?_)
          obtain ⟨rfl, hh⟩ := hq
          subst hh
          refine E_null0 rfl (fun q9 => ?_) (fun q9 => ?_)
          · refine E_const rfl ?_
            refine E_iret rfl (fun h => absurd h (by decide)) ?_
            refine mutC (s' := s) ?_ hR EqP.nil
            unfold f_evening
            try simp only [Int.toNat_natCast]
            first | (exfalso; omega) | (rw [if_pos (by omega)] <;> rfl) | (rw [if_neg (by omega), if_pos (by omega)] <;> rfl) | (rw [if_neg (by omega)] <;> rfl) | (rw [if_neg (by omega), if_neg (by omega), if_pos (by omega)] <;> rfl) | (rw [if_neg (by omega), if_neg (by omega)] <;> rfl) | (rw [if_neg (by omega), if_neg (by omega), if_neg (by omega), if_pos (by omega)] <;> rfl) | (rw [if_neg (by omega), if_neg (by omega), if_neg (by omega)] <;> rfl) | (rw [if_neg (by omega), if_neg (by omega), if_neg (by omega), if_neg (by omega), if_pos (by omega)] <;> rfl) | (rw [if_neg (by omega), if_neg (by omega), if_neg (by omega), if_neg (by omega)] <;> rfl) | (rw [if_neg (by omega), if_neg (by omega), if_neg (by omega), if_neg (by omega), if_neg (by omega), if_pos (by omega)] <;> rfl) | (rw [if_neg (by omega), if_neg (by omega), if_neg (by omega), if_neg (by omega), if_neg (by omega)] <;> rfl) | (rw [if_neg (by omega), if_neg (by omega), if_neg (by omega), if_neg (by omega), if_neg (by omega), if_neg (by omega), if_pos (by omega)] <;> rfl) | (rw [if_neg (by omega), if_neg (by omega), if_neg (by omega), if_neg (by omega), if_neg (by omega), if_neg (by omega)] <;> rfl)
          · exfalso; omega
  · refine E_load rfl rfl rfl ?_
    refine E_getr (c := 11) (r := 13) rfl (hL.lt 0 rfl) (hL.k 0 rfl) rfl (hR.C.g 0 4 13 (by decide)) ?_
    refine E_V0 (q := 13) (c := 8) (y := 62) rfl rfl (hL.lt 13 rfl) (hL.k 13 rfl) rfl rfl rfl rfl (s_clear (sh13 hL hR.C) (by decide) (by decide)) (fun r h2 hq => ?_)
    obtain ⟨rfl, c_1, hh, hc⟩ := hq
    subst hh
    have hE : EqP (fun a k => a = 14 ∨ (a = 13 ∧ k = 3)) c c_1 := by rw [hc]; exact EqP.up (by omega)
    refine E_const rfl ?_
    refine E_iret rfl (fun h => absurd h (by decide)) ?_
    refine mutC (s' := upd1 s 32 0) ?_ ?_ (hE.mono (fun a k e => by unfold FrC; omega))
    · unfold f_evening
      try simp only [Int.toNat_natCast]
      first | (exfalso; omega) | (rw [if_pos (by omega)] <;> rfl) | (rw [if_neg (by omega), if_pos (by omega)] <;> rfl) | (rw [if_neg (by omega)] <;> rfl) | (rw [if_neg (by omega), if_neg (by omega), if_pos (by omega)] <;> rfl) | (rw [if_neg (by omega), if_neg (by omega)] <;> rfl) | (rw [if_neg (by omega), if_neg (by omega), if_neg (by omega), if_pos (by omega)] <;> rfl) | (rw [if_neg (by omega), if_neg (by omega), if_neg (by omega)] <;> rfl) | (rw [if_neg (by omega), if_neg (by omega), if_neg (by omega), if_neg (by omega), if_pos (by omega)] <;> rfl) | (rw [if_neg (by omega), if_neg (by omega), if_neg (by omega), if_neg (by omega)] <;> rfl) | (rw [if_neg (by omega), if_neg (by omega), if_neg (by omega), if_neg (by omega), if_neg (by omega), if_pos (by omega)] <;> rfl) | (rw [if_neg (by omega), if_neg (by omega), if_neg (by omega), if_neg (by omega), if_neg (by omega)] <;> rfl) | (rw [if_neg (by omega), if_neg (by omega), if_neg (by omega), if_neg (by omega), if_neg (by omega), if_neg (by omega), if_pos (by omega)] <;> rfl) | (rw [if_neg (by omega), if_neg (by omega), if_neg (by omega), if_neg (by omega), if_neg (by omega), if_neg (by omega)] <;> rfl)
    refine RepC.mkS hR hAA (fun a k hk => hE a k (by unfold shW at hk; omega)) (fun k hk => by rw [upd1_ne (by omega)]) ?_ ?_ ?_ ?_ ?_
    · rw [hE 1 3 (by omega), hE.row 2 (fun k => by omega)]; exact hR.tape.tr (fun k hk => by rw [upd1_ne (by omega)]) n34.2
    · rw [hE 4 3 (by omega), hE.row 5 (fun k => by omega)]; exact hR.mood.tr (fun k hk => by rw [upd1_ne (by omega)]) n36.2
    · rw [hE 10 3 (by omega), hE.row 11 (fun k => by omega)]; exact hR.seen.tr (fun k hk => by rw [upd1_ne (by omega)]) n31.2
    · exact ⟨by rw [hc]; exact up2_same.trans upd1_same.symm, fun k hk => by rw [upd1_same] at hk; omega⟩
    · rw [hE 16 3 (by omega), hE.row 17 (fun k => by omega)]; exact hR.book.tr (fun k hk => by rw [upd1_ne (by omega)]) n33.2
def idxB (b k : Nat) : Prop := k = 1 + b ∨ k = 7 + b ∨ k = 13 + b ∨ k = 19 + b ∨ k = 43 + b ∨ (49 + 4 * b ≤ k ∧ k < 53 + 4 * b)
theorem RepC.mkB {h : Hp} {c c2 : Nat → Nat → Int} {B : Nat → Nat} {s t im : Nat → Int} {hi : Int} {L : List Int} (hR : RepC h c B s im hi L) (hA : Inv s) {b : Nat} (hb : (b : Int) < s 29) (hf : EqP (fun a k => (a = B b + 1 ∧ 1 ≤ k) ∨ a = B b + 2) c c2) (hs : ∀ k, ¬ idxB b k → t k = s k) (hV : LaidS c2 (B b + 1) t b) : RepC h c2 B t im hi L := by
  have n29 := hA.2.2.1.1.1
  obtain ⟨-, n30, n31, n32, n33, n34, n36⟩ := hA.2.2.1.1
  have h55 := (hR.bot b hb).2.2
  have row : ∀ a, a < 55 → c2 a = c a := fun a ha => funext fun k => hf a k (by omega)
  have t29 := hs 29 (by unfold idxB; omega)
  have ht : ∀ k, (k < 1 ∨ (25 ≤ k ∧ k < 43) ∨ 73 ≤ k) → t k = s k := fun k hk => hs k (by unfold idxB; omega)
  refine ⟨hR.C.of fun e he => ?_, ?_, ?_, ?_, ?_, ?_, ?_, ?_, ?_, ?_, ?_, ?_, ?_, ?_⟩
  · have : ∀ e ∈ CT, e.1 < 55 := by decide
    rw [row _ (this e he)]
  · rw [row 0 (by omega), ht 30 (by omega), ht 0 (by omega)]; exact hR.2.1
  · rw [row 1 (by omega), row 2 (by omega)]; exact hR.tape.tr (fun k hk => ht k (by omega)) n34.2
  · rw [row 4 (by omega), row 5 (by omega)]; exact hR.mood.tr (fun k hk => ht k (by omega)) n36.2
  · rw [row 10 (by omega), row 11 (by omega)]; exact hR.seen.tr (fun k hk => ht k (by omega)) n31.2
  · rw [row 13 (by omega), row 14 (by omega)]; exact hR.eve.tr (fun k hk => ht k (by omega)) n32.2
  · rw [row 16 (by omega), row 17 (by omega)]; exact hR.book.tr (fun k hk => ht k (by omega)) n33.2
  · rw [row 19 (by omega), row 20 (by omega)]; exact hR.bod
  · rw [row 29 (by omega), row 30 (by omega), row 32 (by omega), row 33 (by omega)]
    obtain ⟨l, k1, k2⟩ := hR.held
    exact ⟨l, k1, k2.ofE hA.2.1 fun k h1 h2 => ht k (by omega)⟩
  · rw [t29]
    refine hR.list.ofE (by rw [row 42 (by omega)]) (by rw [row 42 (by omega)]) fun E e1 e2 e3 k => hf E k ?_
    have := e3 b (by omega)
    omega
  · intro b2 hb2
    rw [t29] at hb2
    obtain ⟨b1, b2', b3⟩ := hR.bot b2 hb2
    rw [ht (37 + b2) (by omega)]
    by_cases e : b2 = b
    · subst e
      exact ⟨b1.ofE (fun k => hf _ k (by omega)) (hf _ 0 (by omega)) (hf _ 0 (by omega)) (hf _ 0 (by omega)), hV, b3⟩
    · have hd := hR.dis b2 b hb2 hb e
      exact ⟨b1.ofE (fun k => hf _ k (by omega)) (hf _ 0 (by omega)) (hf _ 0 (by omega)) (hf _ 0 (by omega)), LaidS.ofT (b2'.ofE (fun k => hf _ k (by omega)) (fun k => hf _ k (by omega))) (fun k hk => hs k (by unfold idxB; omega)), b3⟩
  · rw [t29]; exact hR.dis
  · rw [row 0 (by omega)]; exact hR.none
  · intro hi1
    obtain ⟨k1, k2, k3, k4, k5, k6, k7, k8, k9⟩ := hR.kept hi1
    refine ⟨?_, ?_, ?_, ?_, ?_, ?_, ?_, by rw [t29]; exact k8, fun b2 hb2 => ?_⟩
    · rw [row 0 (by omega)]; exact k1
    · rw [row 1 (by omega), row 3 (by omega)]; exact k2
    · rw [row 4 (by omega), row 6 (by omega)]; exact k3
    · rw [row 10 (by omega), row 12 (by omega)]; exact k4
    · rw [row 13 (by omega), row 15 (by omega)]; exact k5
    · rw [row 16 (by omega), row 18 (by omega)]; exact k6
    · rw [row 29 (by omega), row 31 (by omega), row 32 (by omega), row 34 (by omega)]; exact k7
    · refine ⟨(k9 b2 hb2).1.ofE (fun k => hf _ k ?_) (fun k => hf _ k ?_), by rw [ht (37 + b2) (by omega)]; exact (k9 b2 hb2).2⟩ <;> (by_cases e : b2 = b) <;> first | (subst e; omega) | (have hd := hR.dis b2 b (by omega) hb e; omega)
theorem laid_t {c : Nat → Nat → Int} {q b k : Nat} {t : Nat → Int} {x : Int} (hb : b < 6) (hk : k < 4) (h : LaidS c q t b) : LaidS (up2 c (q + 1) k x) q (upd1 t (49 + 4 * b + k) x) b := by
  unfold LaidS
  rw [upd1_ne (show 43 + b ≠ 49 + 4 * b + k by omega), upd1_ne (show 1 + b ≠ 49 + 4 * b + k by omega), upd1_ne (show 7 + b ≠ 49 + 4 * b + k by omega), upd1_ne (show 13 + b ≠ 49 + 4 * b + k by omega), upd1_ne (show 19 + b ≠ 49 + 4 * b + k by omega)]
  refine ⟨⟨(up2_fldN (by omega)).trans h.1.1, (up2_fldN (by omega)).trans h.1.2.1, (up2_fldN (by omega)).trans h.1.2.2.1, (up2_fldN (by omega)).trans h.1.2.2.2.1, (up2_fldN (by omega)).trans h.1.2.2.2.2⟩, fun j hj => ?_⟩
  by_cases e : j = k
  · subst e
    exact up2_same.trans upd1_same.symm
  · exact (up2_fldN (by omega)).trans ((h.2 j hj).trans (upd1_ne (by omega)).symm)
set_option maxHeartbeats 4000000 in
set_option maxRecDepth 100000 in
theorem C_row {d : Nat} {h : Hp} {c : Nat → Nat → Int} {B : Nat → Nat} {s im : Nat → Int} {hi : Int} {L : List Int} (hL : Lay h) (hR : RepC h c B s im hi L) (hA : Inv s) {x : Int} (hx : inR x) {k : Int} (hk : inR k) {n : Int} (hn : inR n) : Ok (d + 8) 79 [(1, ((0 : Nat) : Int)), (0, x), (0, k), (0, n)] (wC h c) (fun r h2 => r = some (0, (f_row s x k n).1) ∧ ∃ c2, h2 = wC h c2 ∧ RepC h c2 B (f_row s x k n).2 im hi L ∧ EqP FrC c c2) := by
  show Ex _ none t_X10_row 0 0 _ [] (wC h c) _
  have hAA := hA
  have hG := hA.G
  obtain ⟨hI, hH, ⟨⟨n29, n30, n31, n32, n33, n34, n36⟩, nM⟩, hX⟩ := hA
  refine E_load rfl rfl rfl ?_
  refine E_load rfl rfl rfl ?_
  rcases Classical.em (0 ≤ x ∧ x < s 29) with hb | hb
  · obtain ⟨b, rfl⟩ := Int.eq_ofNat_of_zero_le hb.1
    have iB := hI b (by omega)
    refine E_V1 (q := 0) (c := 11) (y := 120) rfl rfl (hL.lt 0 rfl) (hL.k 0 rfl) rfl rfl rfl rfl (c_bY hL hR (b := b) (by omega)) (fun r h2 hq => ?_)
    obtain ⟨rfl, hh⟩ := hq
    subst hh
    refine E_store rfl rfl rfl ?_
    refine E_load rfl rfl rfl ?_
    refine E_null0 rfl (fun q1 => ?_) (fun q1 => ?_)
    · exfalso; omega
    · refine E_load rfl rfl rfl ?_
      refine E_const rfl ?_
      refine E_const rfl ?_
      refine E_S3 (y := 111) rfl rfl rfl rfl rfl (c_within (by omega) (by omega) (by omega)) (fun r h2 hq => ?_)
      obtain ⟨rfl, hh⟩ := hq
      subst hh
      refine E_if1 rfl (bI_R _) (fun q2 => ?_) (fun q2 => ?_)
      · replace q2 := bI_nz q2
        obtain ⟨j, rfl⟩ := Int.eq_ofNat_of_zero_le q2.1
        refine E_load rfl rfl rfl ?_
        refine E_const rfl ?_
        refine E_const rfl ?_
        refine E_S3 (y := 111) rfl rfl rfl rfl rfl (c_within (by omega) (by omega) (by omega)) (fun r h2 hq => ?_)
        obtain ⟨rfl, hh⟩ := hq
        subst hh
        refine E_if1 rfl (bI_R _) (fun q3 => ?_) (fun q3 => ?_)
        · replace q3 := bI_nz q3
          refine E_load rfl rfl rfl ?_
          refine E_getfB (x := (s (37 + b))) rfl (show (B b) < mN h by have := (hR.bot b (by omega)).1.1.1; omega) (hR.bot b (by omega)).1.isB rfl ((hR.bot b (by omega)).1.2.1.1) ?_
          refine E_const rfl ?_
          refine E_cmp0 rfl (by omega) (fun q4 => ?_) (fun q4 => ?_)
          · refine E_load rfl rfl rfl ?_
            refine E_getrB (r := (B b + 1)) rfl (show (B b) < mN h by have := (hR.bot b (by omega)).1.1.1; omega) (hR.bot b (by omega)).1.isB rfl ((hR.bot b (by omega)).1.2.1.2.2.2.1) ?_
            refine E_load rfl rfl rfl ?_
            refine E_load rfl rfl rfl ?_
            have hrd := (hR.bot b (by omega)).2.1.2 j (by omega)
            simp only at hrd
            refine E_V2 (q := (B b + 1)) (c := 6) (y := 53) rfl rfl (show (B b + 1) < mN h by have := (hR.bot b (by omega)).1.1.1; omega) (hR.bot b (by omega)).1.2.2.1.2.1 rfl rfl rfl rfl (l_tell (hR.bot b (by omega)).1.2.2.1 (k := j) (n := n) (by omega)) (fun r h2 hq => ?_)
            obtain ⟨rfl, c_1, hh, hc⟩ := hq
            subst hh
            refine E_iret rfl (fun h => absurd h (by decide)) ?_
            rw [hrd]
            have h55 := (hR.bot b (by omega)).2.2
            refine mutC (s' := upd1 s (49 + 4 * b + j) n) ?_ (hR.mkB hAA (b := b) (by omega) ?_ (fun k hk => upd1_ne (fun e => hk (by unfold idxB; omega))) ?_) ?_
            · unfold f_row
              try simp only [Int.toNat_natCast]
              first | (exfalso; omega) | (rw [if_pos (by omega)] <;> rfl) | (rw [if_neg (by omega), if_pos (by omega)] <;> rfl) | (rw [if_neg (by omega)] <;> rfl) | (rw [if_neg (by omega), if_neg (by omega), if_pos (by omega)] <;> rfl) | (rw [if_neg (by omega), if_neg (by omega)] <;> rfl) | (rw [if_neg (by omega), if_neg (by omega), if_neg (by omega), if_pos (by omega)] <;> rfl) | (rw [if_neg (by omega), if_neg (by omega), if_neg (by omega)] <;> rfl) | (rw [if_neg (by omega), if_neg (by omega), if_neg (by omega), if_neg (by omega), if_pos (by omega)] <;> rfl) | (rw [if_neg (by omega), if_neg (by omega), if_neg (by omega), if_neg (by omega)] <;> rfl) | (rw [if_neg (by omega), if_neg (by omega), if_neg (by omega), if_neg (by omega), if_neg (by omega), if_pos (by omega)] <;> rfl) | (rw [if_neg (by omega), if_neg (by omega), if_neg (by omega), if_neg (by omega), if_neg (by omega)] <;> rfl) | (rw [if_neg (by omega), if_neg (by omega), if_neg (by omega), if_neg (by omega), if_neg (by omega), if_neg (by omega), if_pos (by omega)] <;> rfl) | (rw [if_neg (by omega), if_neg (by omega), if_neg (by omega), if_neg (by omega), if_neg (by omega), if_neg (by omega)] <;> rfl)
            · rw [hc]; exact EqP.up (by omega)
            · rw [hc]; exact laid_t (by omega) (by omega) (hR.bot b (by omega)).2.1
            · rw [hc]; exact EqP.up (by unfold FrC; omega)
          · refine E_const rfl ?_
            refine E_iret rfl (fun h => absurd h (by decide)) ?_
            refine mutC (s' := s) ?_ hR EqP.nil
            unfold f_row
            try simp only [Int.toNat_natCast]
            first | (exfalso; omega) | (rw [if_pos (by omega)] <;> rfl) | (rw [if_neg (by omega), if_pos (by omega)] <;> rfl) | (rw [if_neg (by omega)] <;> rfl) | (rw [if_neg (by omega), if_neg (by omega), if_pos (by omega)] <;> rfl) | (rw [if_neg (by omega), if_neg (by omega)] <;> rfl) | (rw [if_neg (by omega), if_neg (by omega), if_neg (by omega), if_pos (by omega)] <;> rfl) | (rw [if_neg (by omega), if_neg (by omega), if_neg (by omega)] <;> rfl) | (rw [if_neg (by omega), if_neg (by omega), if_neg (by omega), if_neg (by omega), if_pos (by omega)] <;> rfl) | (rw [if_neg (by omega), if_neg (by omega), if_neg (by omega), if_neg (by omega)] <;> rfl) | (rw [if_neg (by omega), if_neg (by omega), if_neg (by omega), if_neg (by omega), if_neg (by omega), if_pos (by omega)] <;> rfl) | (rw [if_neg (by omega), if_neg (by omega), if_neg (by omega), if_neg (by omega), if_neg (by omega)] <;> rfl) | (rw [if_neg (by omega), if_neg (by omega), if_neg (by omega), if_neg (by omega), if_neg (by omega), if_neg (by omega), if_pos (by omega)] <;> rfl) | (rw [if_neg (by omega), if_neg (by omega), if_neg (by omega), if_neg (by omega), if_neg (by omega), if_neg (by omega)] <;> rfl)
        · replace q3 := bI_z q3
          refine E_const rfl ?_
          refine E_iret rfl (fun h => absurd h (by decide)) ?_
          refine mutC (s' := s) ?_ hR EqP.nil
          unfold f_row
          try simp only [Int.toNat_natCast]
          first | (exfalso; omega) | (rw [if_pos (by omega)] <;> rfl) | (rw [if_neg (by omega), if_pos (by omega)] <;> rfl) | (rw [if_neg (by omega)] <;> rfl) | (rw [if_neg (by omega), if_neg (by omega), if_pos (by omega)] <;> rfl) | (rw [if_neg (by omega), if_neg (by omega)] <;> rfl) | (rw [if_neg (by omega), if_neg (by omega), if_neg (by omega), if_pos (by omega)] <;> rfl) | (rw [if_neg (by omega), if_neg (by omega), if_neg (by omega)] <;> rfl) | (rw [if_neg (by omega), if_neg (by omega), if_neg (by omega), if_neg (by omega), if_pos (by omega)] <;> rfl) | (rw [if_neg (by omega), if_neg (by omega), if_neg (by omega), if_neg (by omega)] <;> rfl) | (rw [if_neg (by omega), if_neg (by omega), if_neg (by omega), if_neg (by omega), if_neg (by omega), if_pos (by omega)] <;> rfl) | (rw [if_neg (by omega), if_neg (by omega), if_neg (by omega), if_neg (by omega), if_neg (by omega)] <;> rfl) | (rw [if_neg (by omega), if_neg (by omega), if_neg (by omega), if_neg (by omega), if_neg (by omega), if_neg (by omega), if_pos (by omega)] <;> rfl) | (rw [if_neg (by omega), if_neg (by omega), if_neg (by omega), if_neg (by omega), if_neg (by omega), if_neg (by omega)] <;> rfl)
      · replace q2 := bI_z q2
        refine E_const rfl ?_
        refine E_iret rfl (fun h => absurd h (by decide)) ?_
        refine mutC (s' := s) ?_ hR EqP.nil
        unfold f_row
        try simp only [Int.toNat_natCast]
        first | (exfalso; omega) | (rw [if_pos (by omega)] <;> rfl) | (rw [if_neg (by omega), if_pos (by omega)] <;> rfl) | (rw [if_neg (by omega)] <;> rfl) | (rw [if_neg (by omega), if_neg (by omega), if_pos (by omega)] <;> rfl) | (rw [if_neg (by omega), if_neg (by omega)] <;> rfl) | (rw [if_neg (by omega), if_neg (by omega), if_neg (by omega), if_pos (by omega)] <;> rfl) | (rw [if_neg (by omega), if_neg (by omega), if_neg (by omega)] <;> rfl) | (rw [if_neg (by omega), if_neg (by omega), if_neg (by omega), if_neg (by omega), if_pos (by omega)] <;> rfl) | (rw [if_neg (by omega), if_neg (by omega), if_neg (by omega), if_neg (by omega)] <;> rfl) | (rw [if_neg (by omega), if_neg (by omega), if_neg (by omega), if_neg (by omega), if_neg (by omega), if_pos (by omega)] <;> rfl) | (rw [if_neg (by omega), if_neg (by omega), if_neg (by omega), if_neg (by omega), if_neg (by omega)] <;> rfl) | (rw [if_neg (by omega), if_neg (by omega), if_neg (by omega), if_neg (by omega), if_neg (by omega), if_neg (by omega), if_pos (by omega)] <;> rfl) | (rw [if_neg (by omega), if_neg (by omega), if_neg (by omega), if_neg (by omega), if_neg (by omega), if_neg (by omega)] <;> rfl)
  · refine E_V1 (q := 0) (c := 11) (y := 120) rfl rfl (hL.lt 0 rfl) (hL.k 0 rfl) rfl rfl rfl rfl (c_bN hL hR (by omega) n29.1 hb) (fun r h2 hq => ?_)
    obtain ⟨rfl, hh⟩ := hq
    subst hh
    refine E_store rfl rfl rfl ?_
    refine E_load rfl rfl rfl ?_
    refine E_null0 rfl (fun q5 => ?_) (fun q5 => ?_)
    · refine E_const rfl ?_
      refine E_iret rfl (fun h => absurd h (by decide)) ?_
      refine mutC (s' := s) ?_ hR EqP.nil
      unfold f_row
      try simp only [Int.toNat_natCast]
      first | (exfalso; omega) | (rw [if_pos (by omega)] <;> rfl) | (rw [if_neg (by omega), if_pos (by omega)] <;> rfl) | (rw [if_neg (by omega)] <;> rfl) | (rw [if_neg (by omega), if_neg (by omega), if_pos (by omega)] <;> rfl) | (rw [if_neg (by omega), if_neg (by omega)] <;> rfl) | (rw [if_neg (by omega), if_neg (by omega), if_neg (by omega), if_pos (by omega)] <;> rfl) | (rw [if_neg (by omega), if_neg (by omega), if_neg (by omega)] <;> rfl) | (rw [if_neg (by omega), if_neg (by omega), if_neg (by omega), if_neg (by omega), if_pos (by omega)] <;> rfl) | (rw [if_neg (by omega), if_neg (by omega), if_neg (by omega), if_neg (by omega)] <;> rfl) | (rw [if_neg (by omega), if_neg (by omega), if_neg (by omega), if_neg (by omega), if_neg (by omega), if_pos (by omega)] <;> rfl) | (rw [if_neg (by omega), if_neg (by omega), if_neg (by omega), if_neg (by omega), if_neg (by omega)] <;> rfl) | (rw [if_neg (by omega), if_neg (by omega), if_neg (by omega), if_neg (by omega), if_neg (by omega), if_neg (by omega), if_pos (by omega)] <;> rfl) | (rw [if_neg (by omega), if_neg (by omega), if_neg (by omega), if_neg (by omega), if_neg (by omega), if_neg (by omega)] <;> rfl)
    · exfalso; omega
theorem f_set0 {s : Nat → Int} {b : Nat} {n : Int} : f_set s (b : Int) 0 n = if ¬ isB s (b : Int) ∨ ¬ btw 0 0 1 then (-1, s) else if ¬ btw 0 n 199 then (-2, s) else (s (7 + b), upd1 s (7 + b) n) := rfl
theorem f_set1 {s : Nat → Int} {b : Nat} {n : Int} : f_set s (b : Int) 1 n = if ¬ isB s (b : Int) ∨ ¬ btw 0 1 1 then (-1, s) else if ¬ btw 0 n 3 then (-2, s) else (s (13 + b), upd1 s (13 + b) n) := rfl
set_option maxHeartbeats 4000000 in
set_option maxRecDepth 100000 in
theorem C_set {d : Nat} {h : Hp} {c : Nat → Nat → Int} {B : Nat → Nat} {s im : Nat → Int} {hi : Int} {L : List Int} (hL : Lay h) (hR : RepC h c B s im hi L) (hA : Inv s) {x : Int} (hx : inR x) {w : Int} (hw : inR w) {n : Int} (hn : inR n) : Ok (d + 8) 80 [(1, ((0 : Nat) : Int)), (0, x), (0, w), (0, n)] (wC h c) (fun r h2 => r = some (0, (f_set s x w n).1) ∧ ∃ c2, h2 = wC h c2 ∧ RepC h c2 B (f_set s x w n).2 im hi L ∧ EqP FrC c c2) := by
  show Ex _ none t_X10_set 0 0 _ [] (wC h c) _
  have hAA := hA
  have hG := hA.G
  obtain ⟨hI, hH, ⟨⟨n29, n30, n31, n32, n33, n34, n36⟩, nM⟩, hX⟩ := hA
  refine E_load rfl rfl rfl ?_
  refine E_load rfl rfl rfl ?_
  rcases Classical.em (0 ≤ x ∧ x < s 29) with hb | hb
  · obtain ⟨b, rfl⟩ := Int.eq_ofNat_of_zero_le hb.1
    have iB := hI b (by omega)
    refine E_V1 (q := 0) (c := 11) (y := 120) rfl rfl (hL.lt 0 rfl) (hL.k 0 rfl) rfl rfl rfl rfl (c_bY hL hR (b := b) (by omega)) (fun r h2 hq => ?_)
    obtain ⟨rfl, hh⟩ := hq
    subst hh
    refine E_store rfl rfl rfl ?_
    refine E_load rfl rfl rfl ?_
    refine E_null0 rfl (fun q1 => ?_) (fun q1 => ?_)
    · exfalso; omega
    · refine E_load rfl rfl rfl ?_
      refine E_const rfl ?_
      refine E_const rfl ?_
      refine E_S3 (y := 111) rfl rfl rfl rfl rfl (c_within (by omega) (by omega) (by omega)) (fun r h2 hq => ?_)
      obtain ⟨rfl, hh⟩ := hq
      subst hh
      refine E_if1 rfl (bI_R _) (fun q2 => ?_) (fun q2 => ?_)
      · replace q2 := bI_nz q2
        refine E_load rfl rfl rfl ?_
        refine E_const rfl ?_
        refine E_load rfl rfl rfl ?_
        refine E_if1 rfl (by omega) (fun q3 => ?_) (fun q3 => ?_)
        · have w1 : w = 1 := by omega
          subst w1
          refine E_const rfl ?_
          refine E_S3 (y := 111) rfl rfl rfl rfl rfl (c_within (by omega) (by omega) (by omega)) (fun r h2 hq => ?_)
          obtain ⟨rfl, hh⟩ := hq
          subst hh
          refine E_if1 rfl (bI_R _) (fun q4 => ?_) (fun q4 => ?_)
          · replace q4 := bI_nz q4
            refine E_load rfl rfl rfl ?_
            refine E_if1 rfl (by omega) (fun q5 => ?_) (fun q5 => ?_)
            · refine E_load rfl rfl rfl ?_
              refine E_getrB (r := (B b + 1)) rfl (show (B b) < mN h by have := (hR.bot b (by omega)).1.1.1; omega) (hR.bot b (by omega)).1.isB rfl ((hR.bot b (by omega)).1.2.1.2.2.2.1) ?_
              refine E_getf (c := 6) (v := (0, (s (13 + b)))) rfl (show (B b + 1) < mN h by have := (hR.bot b (by omega)).1.1.1; omega) (hR.bot b (by omega)).1.2.2.1.2.1 rfl (fv ((hR.bot b (by omega)).2.1.1.2.2.2.1)) ?_
              refine E_store rfl rfl rfl ?_
              refine E_load rfl rfl rfl ?_
              refine E_if1 rfl (by omega) (fun q6 => ?_) (fun q6 => ?_)
              · refine E_load rfl rfl rfl ?_
                refine E_getrB (r := (B b + 1)) rfl (show (B b) < mN h by have := (hR.bot b (by omega)).1.1.1; omega) (hR.bot b (by omega)).1.isB rfl ((hR.bot b (by omega)).1.2.1.2.2.2.1) ?_
                refine E_load rfl rfl rfl ?_
                refine E_putg (cl := 6) rfl (show (B b + 1) < mN h by have := (hR.bot b (by omega)).1.1.1; omega) (hR.bot b (by omega)).1.2.2.1.2.1 rfl (fun c_1 hc => ?_)
                refine E_load rfl rfl rfl ?_
                refine E_iret rfl (fun h => absurd h (by decide)) ?_
                have h55 := (hR.bot b (by omega)).2.2
                refine mutC (s' := upd1 s (13 + b) n) ?_ (hR.mkB hAA (b := b) (by omega) ?_ (fun k hk => upd1_ne (fun e => hk (by unfold idxB; omega))) ?_) ?_
                · rw [f_set1]
                  try simp only [Int.toNat_natCast]
                  first | (exfalso; omega) | (rw [if_pos (by omega)] <;> rfl) | (rw [if_neg (by omega), if_pos (by omega)] <;> rfl) | (rw [if_neg (by omega)] <;> rfl) | (rw [if_neg (by omega), if_neg (by omega), if_pos (by omega)] <;> rfl) | (rw [if_neg (by omega), if_neg (by omega)] <;> rfl) | (rw [if_neg (by omega), if_neg (by omega), if_neg (by omega), if_pos (by omega)] <;> rfl) | (rw [if_neg (by omega), if_neg (by omega), if_neg (by omega)] <;> rfl) | (rw [if_neg (by omega), if_neg (by omega), if_neg (by omega), if_neg (by omega), if_pos (by omega)] <;> rfl) | (rw [if_neg (by omega), if_neg (by omega), if_neg (by omega), if_neg (by omega)] <;> rfl) | (rw [if_neg (by omega), if_neg (by omega), if_neg (by omega), if_neg (by omega), if_neg (by omega), if_pos (by omega)] <;> rfl) | (rw [if_neg (by omega), if_neg (by omega), if_neg (by omega), if_neg (by omega), if_neg (by omega)] <;> rfl) | (rw [if_neg (by omega), if_neg (by omega), if_neg (by omega), if_neg (by omega), if_neg (by omega), if_neg (by omega), if_pos (by omega)] <;> rfl) | (rw [if_neg (by omega), if_neg (by omega), if_neg (by omega), if_neg (by omega), if_neg (by omega), if_neg (by omega)] <;> rfl)
                · rw [hc]; exact EqP.up (by omega)
                · rw [hc]; exact laid_q (by omega) (hR.bot b (by omega)).2.1
                · rw [hc]; exact EqP.up (by unfold FrC; omega)
              · exfalso; omega
            · exfalso; omega
          · replace q4 := bI_z q4
            refine E_const rfl ?_
            refine E_iret rfl (fun h => absurd h (by decide)) ?_
            refine mutC (s' := s) ?_ hR EqP.nil
            unfold f_set
            try simp only [Int.toNat_natCast]
            first | (exfalso; omega) | (rw [if_pos (by omega)] <;> rfl) | (rw [if_neg (by omega), if_pos (by omega)] <;> rfl) | (rw [if_neg (by omega)] <;> rfl) | (rw [if_neg (by omega), if_neg (by omega), if_pos (by omega)] <;> rfl) | (rw [if_neg (by omega), if_neg (by omega)] <;> rfl) | (rw [if_neg (by omega), if_neg (by omega), if_neg (by omega), if_pos (by omega)] <;> rfl) | (rw [if_neg (by omega), if_neg (by omega), if_neg (by omega)] <;> rfl) | (rw [if_neg (by omega), if_neg (by omega), if_neg (by omega), if_neg (by omega), if_pos (by omega)] <;> rfl) | (rw [if_neg (by omega), if_neg (by omega), if_neg (by omega), if_neg (by omega)] <;> rfl) | (rw [if_neg (by omega), if_neg (by omega), if_neg (by omega), if_neg (by omega), if_neg (by omega), if_pos (by omega)] <;> rfl) | (rw [if_neg (by omega), if_neg (by omega), if_neg (by omega), if_neg (by omega), if_neg (by omega)] <;> rfl) | (rw [if_neg (by omega), if_neg (by omega), if_neg (by omega), if_neg (by omega), if_neg (by omega), if_neg (by omega), if_pos (by omega)] <;> rfl) | (rw [if_neg (by omega), if_neg (by omega), if_neg (by omega), if_neg (by omega), if_neg (by omega), if_neg (by omega)] <;> rfl)
        · have w0 : w = 0 := q3
          subst w0
          refine E_const rfl ?_
          refine E_goto rfl ?_
          refine E_S3 (y := 111) rfl rfl rfl rfl rfl (c_within (by omega) (by omega) (by omega)) (fun r h2 hq => ?_)
          obtain ⟨rfl, hh⟩ := hq
          subst hh
          refine E_if1 rfl (bI_R _) (fun q7 => ?_) (fun q7 => ?_)
          · replace q7 := bI_nz q7
            refine E_load rfl rfl rfl ?_
            refine E_if1 rfl (by omega) (fun q8 => ?_) (fun q8 => ?_)
            · exfalso; omega
            · refine E_load rfl rfl rfl ?_
              refine E_getrB (r := (B b + 1)) rfl (show (B b) < mN h by have := (hR.bot b (by omega)).1.1.1; omega) (hR.bot b (by omega)).1.isB rfl ((hR.bot b (by omega)).1.2.1.2.2.2.1) ?_
              refine E_getf (c := 6) (v := (0, (s (7 + b)))) rfl (show (B b + 1) < mN h by have := (hR.bot b (by omega)).1.1.1; omega) (hR.bot b (by omega)).1.2.2.1.2.1 rfl (fv ((hR.bot b (by omega)).2.1.1.2.2.1)) ?_
              refine E_goto rfl ?_
              refine E_store rfl rfl rfl ?_
              refine E_load rfl rfl rfl ?_
              refine E_if1 rfl (by omega) (fun q9 => ?_) (fun q9 => ?_)
              · exfalso; omega
              · refine E_load rfl rfl rfl ?_
                refine E_getrB (r := (B b + 1)) rfl (show (B b) < mN h by have := (hR.bot b (by omega)).1.1.1; omega) (hR.bot b (by omega)).1.isB rfl ((hR.bot b (by omega)).1.2.1.2.2.2.1) ?_
                refine E_load rfl rfl rfl ?_
                refine E_putg (cl := 6) rfl (show (B b + 1) < mN h by have := (hR.bot b (by omega)).1.1.1; omega) (hR.bot b (by omega)).1.2.2.1.2.1 rfl (fun c_2 hc => ?_)
                refine E_goto rfl ?_
                refine E_load rfl rfl rfl ?_
                refine E_iret rfl (fun h => absurd h (by decide)) ?_
                have h55 := (hR.bot b (by omega)).2.2
                refine mutC (s' := upd1 s (7 + b) n) ?_ (hR.mkB hAA (b := b) (by omega) ?_ (fun k hk => upd1_ne (fun e => hk (by unfold idxB; omega))) ?_) ?_
                · rw [f_set0]
                  try simp only [Int.toNat_natCast]
                  first | (exfalso; omega) | (rw [if_pos (by omega)] <;> rfl) | (rw [if_neg (by omega), if_pos (by omega)] <;> rfl) | (rw [if_neg (by omega)] <;> rfl) | (rw [if_neg (by omega), if_neg (by omega), if_pos (by omega)] <;> rfl) | (rw [if_neg (by omega), if_neg (by omega)] <;> rfl) | (rw [if_neg (by omega), if_neg (by omega), if_neg (by omega), if_pos (by omega)] <;> rfl) | (rw [if_neg (by omega), if_neg (by omega), if_neg (by omega)] <;> rfl) | (rw [if_neg (by omega), if_neg (by omega), if_neg (by omega), if_neg (by omega), if_pos (by omega)] <;> rfl) | (rw [if_neg (by omega), if_neg (by omega), if_neg (by omega), if_neg (by omega)] <;> rfl) | (rw [if_neg (by omega), if_neg (by omega), if_neg (by omega), if_neg (by omega), if_neg (by omega), if_pos (by omega)] <;> rfl) | (rw [if_neg (by omega), if_neg (by omega), if_neg (by omega), if_neg (by omega), if_neg (by omega)] <;> rfl) | (rw [if_neg (by omega), if_neg (by omega), if_neg (by omega), if_neg (by omega), if_neg (by omega), if_neg (by omega), if_pos (by omega)] <;> rfl) | (rw [if_neg (by omega), if_neg (by omega), if_neg (by omega), if_neg (by omega), if_neg (by omega), if_neg (by omega)] <;> rfl)
                · rw [hc]; exact EqP.up (by omega)
                · rw [hc]; exact laid_y (by omega) (hR.bot b (by omega)).2.1
                · rw [hc]; exact EqP.up (by unfold FrC; omega)
          · replace q7 := bI_z q7
            refine E_const rfl ?_
            refine E_iret rfl (fun h => absurd h (by decide)) ?_
            refine mutC (s' := s) ?_ hR EqP.nil
            unfold f_set
            try simp only [Int.toNat_natCast]
            first | (exfalso; omega) | (rw [if_pos (by omega)] <;> rfl) | (rw [if_neg (by omega), if_pos (by omega)] <;> rfl) | (rw [if_neg (by omega)] <;> rfl) | (rw [if_neg (by omega), if_neg (by omega), if_pos (by omega)] <;> rfl) | (rw [if_neg (by omega), if_neg (by omega)] <;> rfl) | (rw [if_neg (by omega), if_neg (by omega), if_neg (by omega), if_pos (by omega)] <;> rfl) | (rw [if_neg (by omega), if_neg (by omega), if_neg (by omega)] <;> rfl) | (rw [if_neg (by omega), if_neg (by omega), if_neg (by omega), if_neg (by omega), if_pos (by omega)] <;> rfl) | (rw [if_neg (by omega), if_neg (by omega), if_neg (by omega), if_neg (by omega)] <;> rfl) | (rw [if_neg (by omega), if_neg (by omega), if_neg (by omega), if_neg (by omega), if_neg (by omega), if_pos (by omega)] <;> rfl) | (rw [if_neg (by omega), if_neg (by omega), if_neg (by omega), if_neg (by omega), if_neg (by omega)] <;> rfl) | (rw [if_neg (by omega), if_neg (by omega), if_neg (by omega), if_neg (by omega), if_neg (by omega), if_neg (by omega), if_pos (by omega)] <;> rfl) | (rw [if_neg (by omega), if_neg (by omega), if_neg (by omega), if_neg (by omega), if_neg (by omega), if_neg (by omega)] <;> rfl)
      · replace q2 := bI_z q2
        refine E_const rfl ?_
        refine E_iret rfl (fun h => absurd h (by decide)) ?_
        refine mutC (s' := s) ?_ hR EqP.nil
        unfold f_set
        try simp only [Int.toNat_natCast]
        first | (exfalso; omega) | (rw [if_pos (by omega)] <;> rfl) | (rw [if_neg (by omega), if_pos (by omega)] <;> rfl) | (rw [if_neg (by omega)] <;> rfl) | (rw [if_neg (by omega), if_neg (by omega), if_pos (by omega)] <;> rfl) | (rw [if_neg (by omega), if_neg (by omega)] <;> rfl) | (rw [if_neg (by omega), if_neg (by omega), if_neg (by omega), if_pos (by omega)] <;> rfl) | (rw [if_neg (by omega), if_neg (by omega), if_neg (by omega)] <;> rfl) | (rw [if_neg (by omega), if_neg (by omega), if_neg (by omega), if_neg (by omega), if_pos (by omega)] <;> rfl) | (rw [if_neg (by omega), if_neg (by omega), if_neg (by omega), if_neg (by omega)] <;> rfl) | (rw [if_neg (by omega), if_neg (by omega), if_neg (by omega), if_neg (by omega), if_neg (by omega), if_pos (by omega)] <;> rfl) | (rw [if_neg (by omega), if_neg (by omega), if_neg (by omega), if_neg (by omega), if_neg (by omega)] <;> rfl) | (rw [if_neg (by omega), if_neg (by omega), if_neg (by omega), if_neg (by omega), if_neg (by omega), if_neg (by omega), if_pos (by omega)] <;> rfl) | (rw [if_neg (by omega), if_neg (by omega), if_neg (by omega), if_neg (by omega), if_neg (by omega), if_neg (by omega)] <;> rfl)
  · refine E_V1 (q := 0) (c := 11) (y := 120) rfl rfl (hL.lt 0 rfl) (hL.k 0 rfl) rfl rfl rfl rfl (c_bN hL hR (by omega) n29.1 hb) (fun r h2 hq => ?_)
    obtain ⟨rfl, hh⟩ := hq
    subst hh
    refine E_store rfl rfl rfl ?_
    refine E_load rfl rfl rfl ?_
    refine E_null0 rfl (fun q10 => ?_) (fun q10 => ?_)
    · refine E_const rfl ?_
      refine E_iret rfl (fun h => absurd h (by decide)) ?_
      refine mutC (s' := s) ?_ hR EqP.nil
      unfold f_set
      try simp only [Int.toNat_natCast]
      first | (exfalso; omega) | (rw [if_pos (by omega)] <;> rfl) | (rw [if_neg (by omega), if_pos (by omega)] <;> rfl) | (rw [if_neg (by omega)] <;> rfl) | (rw [if_neg (by omega), if_neg (by omega), if_pos (by omega)] <;> rfl) | (rw [if_neg (by omega), if_neg (by omega)] <;> rfl) | (rw [if_neg (by omega), if_neg (by omega), if_neg (by omega), if_pos (by omega)] <;> rfl) | (rw [if_neg (by omega), if_neg (by omega), if_neg (by omega)] <;> rfl) | (rw [if_neg (by omega), if_neg (by omega), if_neg (by omega), if_neg (by omega), if_pos (by omega)] <;> rfl) | (rw [if_neg (by omega), if_neg (by omega), if_neg (by omega), if_neg (by omega)] <;> rfl) | (rw [if_neg (by omega), if_neg (by omega), if_neg (by omega), if_neg (by omega), if_neg (by omega), if_pos (by omega)] <;> rfl) | (rw [if_neg (by omega), if_neg (by omega), if_neg (by omega), if_neg (by omega), if_neg (by omega)] <;> rfl) | (rw [if_neg (by omega), if_neg (by omega), if_neg (by omega), if_neg (by omega), if_neg (by omega), if_neg (by omega), if_pos (by omega)] <;> rfl) | (rw [if_neg (by omega), if_neg (by omega), if_neg (by omega), if_neg (by omega), if_neg (by omega), if_neg (by omega)] <;> rfl)
    · exfalso; omega
