set_option maxHeartbeats 4000000 in
set_option maxRecDepth 100000 in
theorem j_grow1 {d : Nat} {h : Hp} {c : Nat → Nat → Int} (hL : Lay h) (h1 : c 42 1 = -2) : Ok (d + 1) 1 [(1, ((42 : Nat) : Int)), (0, 1)] (wC h c) (fun r h2 => r = some (1, (mN h : Int)) ∧ h2 = wC (nwH h 22 10) (up2 (nwC c (mN h) (fun _ => -1)) 42 1 (mN h : Int))) := by
  show Ex _ none t_Jx4a65c_grow_92f84 0 0 _ [] (wC h c) _
  refine E_load rfl rfl rfl ?_
  refine E_getf (c := 0) (v := (1, -2)) rfl (hL.lt 42 rfl) (hL.k 42 rfl) rfl (fv h1) ?_
  refine E_len2 rfl ?_
  refine E_store rfl rfl rfl ?_
  refine E_load rfl rfl rfl ?_
  refine E_if4 rfl (by omega) (fun q1 => ?_) (fun q1 => ?_)
  · exfalso; omega
  refine E_load rfl rfl rfl ?_
  refine E_getf (c := 0) (v := (1, -2)) rfl (hL.lt 42 rfl) (hL.k 42 rfl) rfl (fv h1) ?_
  refine E_gst rfl ?_
  refine E_acmp0 rfl (by omega) (by omega) (fun q2 => ?_) (fun q2 => ?_)
  · refine E_load rfl rfl rfl ?_
    refine E_const rfl ?_
    refine E_load rfl rfl rfl ?_
    refine E_max rfl (by omega) rfl ?_
    refine E_newqg (m := 10) rfl rfl (by decide) ?_
    refine E_dupx1 rfl rfl rfl ?_
    have h55 := hL.1
    refine E_putg (h := nwH h 22 10) (cl := 0) (q := 42) rfl (show 42 < mN h + 1 by omega) ((Hx.nw.2 42 (by omega)).1.trans (hL.k 42 rfl)) rfl (fun c_1 hc_1 => ?_)
    refine E_aret rfl ?_
    exact ⟨rfl, by rw [hc_1]; rfl⟩
  · exfalso; omega
set_option maxHeartbeats 4000000 in
set_option maxRecDepth 100000 in
theorem j_grow {d : Nat} {h : Hp} {c : Nat → Nat → Int} (hL : Lay h) (h1 : c 42 1 = -2) (h2 : c 42 2 = 0) : Ok (d + 2) 2 [(1, ((42 : Nat) : Int))] (wC h c) (fun r h2 => r = some (1, (mN h : Int)) ∧ h2 = wC (nwH h 22 10) (up2 (nwC c (mN h) (fun _ => -1)) 42 1 (mN h : Int))) := by
  show Ex _ none t_Jx4a65c_grow_d5877 0 0 _ [] (wC h c) _
  refine E_load rfl rfl rfl ?_
  refine E_load rfl rfl rfl ?_
  refine E_getf (c := 0) (v := (0, 0)) rfl (hL.lt 42 rfl) (hL.k 42 rfl) rfl (fv h2) ?_
  refine E_const rfl ?_
  refine E_add rfl ?_
  refine E_V1 (q := 42) (c := 0) (y := 1) rfl rfl (hL.lt 42 rfl) (hL.k 42 rfl) rfl rfl rfl rfl (j_grow1 hL h1) (fun r h2 hq => ?_)
  obtain ⟨rfl, hh⟩ := hq
  subst hh
  refine E_aret rfl ?_
  exact ⟨rfl, rfl⟩
def upB (B : Nat → Nat) (n p : Nat) : Nat → Nat := fun i => if i = n then p else B i
theorem upB_n {B : Nat → Nat} {n p : Nat} : upB B n p n = p := if_pos rfl
theorem upB_o {B : Nat → Nat} {n p i : Nat} (h : i ≠ n) : upB B n p i = B i := if_neg h
def AdQ (h : Hp) (c : Nat → Nat → Int) (n p : Nat) (B : Nat → Nat) (h2 : Hp) : Prop := ∃ h' c', h2 = wC h' c' ∧ Hx h h' ∧ (mN h' ≤ mN h + 1 ∧ mS h' ≤ mS h + 10) ∧ LBp h' c' (n + 1) (upB B n p) ∧ ∀ a k, a < mN h → a ≠ 42 → (∀ E : Nat, c 42 1 = (E : Int) → a ≠ E) → c' a k = c a k
theorem mI1 {k : Nat} (h : IsB k) : k < 13 ∧ mIsa k 1 = true := ⟨h.ft.2.2, h.ft.2.1⟩
set_option maxHeartbeats 4000000 in
set_option maxRecDepth 100000 in
theorem j_add3 {d : Nat} {h : Hp} {c : Nat → Nat → Int} (hL : Lay h) {n p : Nat} {B : Nat → Nat} (hB : LBp h c n B) (hn : n ≤ 5) (hp : p + 6 < mN h) (hpk : IsB (mK h p)) (hpE : ∀ E : Nat, c 42 1 = (E : Int) → E < p) {x : Int} (hx : c 42 1 = x) : Ok (d + 3) 6 [(1, ((42 : Nat) : Int)), (1, (p : Int)), (1, x), (0, (n : Int))] (wC h c) (fun r h2 => r = none ∧ AdQ h c n p B h2) := by
  show Ex _ none t_Jx4a65c_add_72be8 0 0 _ [] (wC h c) _
  have h55 := hL.1
  subst hx
  obtain ⟨b1, b2, b3⟩ := hB
  rcases b3 with ⟨b4, rfl⟩ | ⟨E, e1, e2, e3, e4, e5, e6⟩
  · refine E_load rfl rfl rfl ?_
    refine E_load rfl rfl rfl ?_
    rw [b4]
    refine E_len2 rfl ?_
    refine E_cmp1 rfl (by omega) (fun q1 => ?_) (fun q1 => ?_)
    · exfalso; omega
    refine E_load rfl rfl rfl ?_
    refine E_V0 (q := 42) (c := 0) (y := 2) rfl rfl (hL.lt 42 rfl) (hL.k 42 rfl) rfl rfl rfl rfl (j_grow hL b4 b1) (fun r h2 hq => ?_)
    obtain ⟨rfl, hh⟩ := hq
    subst hh
    have hL1 : Lay (nwH h 22 10) := hL.x Hx.nw
    refine E_store rfl rfl rfl ?_
    refine E_load rfl rfl rfl ?_
    refine E_load rfl rfl rfl ?_
    refine E_load rfl rfl rfl ?_
    have hm := mI1 hpk
    have hkp : mK (nwH h 22 10) p = mK h p := (Hx.nw.2 p (by omega)).1
    refine E_aas (h := wC (nwH h 22 10) (up2 (nwC c (mN h) (fun _ => -1)) 42 1 (mN h : Int))) rfl (show mN h < mN h + 1 by omega) (nwK (h := h) (kd := 22) (ln := 10)) (by omega) (by rw [show mL (wC (nwH h 22 10) (up2 (nwC c (mN h) (fun _ => -1)) 42 1 (mN h : Int))) (mN h) = 10 from nwL (h := h) (kd := 22) (ln := 10)]; omega) (by omega) (Or.inr ⟨by omega, show (p : Int).toNat < mN h + 1 by omega, by rw [Int.toNat_natCast]; show mK (nwH h 22 10) p < 13; rw [hkp]; exact hm.1, by rw [Int.toNat_natCast]; show mIsa (mK (nwH h 22 10) p) 1 = true; rw [hkp]; exact hm.2⟩) ?_
    rw [mPut_wC]
    refine E_load rfl rfl rfl ?_
    refine E_load rfl rfl rfl ?_
    refine E_const rfl ?_
    refine E_add rfl ?_
    refine E_putg (cl := 0) (q := 42) rfl (hL1.lt 42 rfl) (hL1.k 42 rfl) rfl (fun c_1 hc_1 => ?_)
    refine E_vret rfl ?_
    refine ⟨rfl, nwH h 22 10, c_1, rfl, Hx.nw, ⟨Nat.le_refl _, Nat.le_refl _⟩, ⟨?_, by omega, Or.inr ⟨mN h, ?_, ⟨by omega, Nat.lt_succ_self _⟩, nwK, nwL, fun i hi => ?_, fun i hi => ?_⟩⟩, fun a k ha h1 h2 => ?_⟩
    · rw [hc_1]; exact up2_same
    · rw [hc_1]
      exact (up2_fldN (by omega)).trans ((up2_fldN (by omega)).trans up2_same)
    · obtain rfl : i = 0 := by omega
      rw [upB_n, hc_1]
      exact (up2_fldN (by omega)).trans up2_same
    · obtain rfl : i = 0 := by omega
      rw [upB_n]
      omega
    · rw [hc_1]
      refine (up2_fldN (by omega)).trans ((up2_fldN (by omega)).trans ((up2_fldN (by omega)).trans ?_))
      rw [nwC_o (by omega)]
  · refine E_load rfl rfl rfl ?_
    refine E_load rfl rfl rfl ?_
    rw [e1]
    refine E_len (n := 10) rfl (show E < mN h from e2.2) (by show 20 ≤ mK h E ∧ mK h E < 23; omega) e4 ?_
    refine E_cmp1 rfl (by omega) (fun q1 => ?_) (fun q1 => ?_)
    · refine E_load rfl rfl rfl ?_
      refine E_load rfl rfl rfl ?_
      refine E_load rfl rfl rfl ?_
      have hm := mI1 hpk
      refine E_aas (h := wC h c) rfl (show E < mN h from e2.2) e3 (by omega) (by rw [show mL (wC h c) E = 10 from e4]; omega) (by omega) (Or.inr ⟨by omega, show (p : Int).toNat < mN h by omega, by rw [Int.toNat_natCast]; exact hm.1, by rw [Int.toNat_natCast]; exact hm.2⟩) ?_
      rw [mPut_wC]
      refine E_load rfl rfl rfl ?_
      refine E_load rfl rfl rfl ?_
      refine E_const rfl ?_
      refine E_add rfl ?_
      refine E_putg (cl := 0) (q := 42) rfl (hL.lt 42 rfl) (hL.k 42 rfl) rfl (fun c_1 hc_1 => ?_)
      refine E_vret rfl ?_
      have hEp := hpE E e1
      refine ⟨rfl, h, c_1, rfl, Hx.refl, ⟨by omega, by omega⟩, ⟨?_, by omega, Or.inr ⟨E, ?_, e2, e3, e4, fun i hi => ?_, fun i hi => ?_⟩⟩, fun a k ha h1 h2 => ?_⟩
      · rw [hc_1]; exact up2_same
      · rw [hc_1]
        exact (up2_fldN (by omega)).trans ((up2_fldN (by omega)).trans e1)
      · rw [hc_1]
        refine (up2_fldN (by omega)).trans ?_
        rw [Int.toNat_natCast]
        by_cases ei : i = n
        · rw [ei, upB_n]; exact up2_same
        · rw [upB_o ei]
          exact (up2_fldN (by omega)).trans (e5 i (by omega))
      · by_cases ei : i = n
        · rw [ei, upB_n]; omega
        · rw [upB_o ei]; exact e6 i (by omega)
      · rw [hc_1]
        have := h2 E e1
        exact (up2_fldN (by omega)).trans (up2_fldN (by omega))
    · exfalso; omega
set_option maxHeartbeats 4000000 in
set_option maxRecDepth 100000 in
theorem j_add {d : Nat} {h : Hp} {c : Nat → Nat → Int} (hL : Lay h) {n p : Nat} {B : Nat → Nat} (hB : LBp h c n B) (hn : n ≤ 5) (hp : p + 6 < mN h) (hpk : IsB (mK h p)) (hpE : ∀ E : Nat, c 42 1 = (E : Int) → E < p) : Ok (d + 4) 7 [(1, ((42 : Nat) : Int)), (1, (p : Int))] (wC h c) (fun r h2 => r = some (0, 1) ∧ AdQ h c n p B h2) := by
  show Ex _ none t_Jx4a65c_add_9ea2d 3 0 _ [] (wC h c) _
  refine E_load rfl rfl rfl ?_
  refine E_dup rfl rfl ?_
  refine E_getf (c := 0) rfl (hL.lt 42 rfl) (hL.k 42 rfl) rfl rfl ?_
  refine E_const rfl ?_
  refine E_add rfl ?_
  refine E_putg (cl := 0) (q := 42) rfl (hL.lt 42 rfl) (hL.k 42 rfl) rfl (fun c_1 hc_1 => ?_)
  have e1 : c_1 42 1 = c 42 1 := by rw [hc_1]; exact up2_fldN (by omega)
  have hB1 : LBp h c_1 n B := hB.ofE e1 (by rw [hc_1]; exact up2_fldN (by omega)) fun E e2 e3 e4 k => by rw [hc_1]; exact up2_fldN (by omega)
  refine E_load rfl rfl rfl ?_
  refine E_load rfl rfl rfl ?_
  refine E_load rfl rfl rfl ?_
  refine E_getf (c := 0) (v := (1, c_1 42 1)) rfl (hL.lt 42 rfl) (hL.k 42 rfl) rfl rfl ?_
  refine E_load rfl rfl rfl ?_
  refine E_getf (c := 0) (v := (0, (n : Int))) rfl (hL.lt 42 rfl) (hL.k 42 rfl) rfl (fv hB1.1) ?_
  refine E_V3 (q := 42) (c := 0) (y := 6) rfl rfl (hL.lt 42 rfl) (hL.k 42 rfl) rfl rfl rfl rfl (j_add3 hL hB1 hn hp hpk (fun E hE => hpE E (e1 ▸ hE)) rfl) (fun r h2 hq => ?_)
  obtain ⟨rfl, h', c', hh, a1, a2, a3, a4⟩ := hq
  subst hh
  refine E_const rfl ?_
  refine E_iret rfl (fun _ => by decide) ?_
  exact ⟨rfl, h', c', rfl, a1, a2, a3, fun a k h1 h2 h3 => (a4 a k h1 h2 (fun E hE => h3 E (e1 ▸ hE))).trans (by rw [hc_1]; exact up2_fldN (by omega))⟩
