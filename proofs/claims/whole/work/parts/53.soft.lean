set_option maxHeartbeats 4000000 in
set_option maxRecDepth 100000 in
theorem c_holds {d : Nat} {h : Hp} {c : Nat → Nat → Int} (hL : Lay h) (hC : Cc c) {np : Nat} (hnp : c 32 3 = (np : Int)) (hnp2 : np ≤ 100) {p q b : Nat} {kind v w y u em : Int} {tel : Nat → Int} (hB : Bot h c p b kind) (hQ : La h c q) (hV : LV c q v w y u em tel) (hk : 0 ≤ kind ∧ kind ≤ 6) (hv : 0 ≤ v ∧ v ≤ 9) (hw : -99 ≤ w ∧ w ≤ 99) (hy : 0 ≤ y ∧ y ≤ 199) (hu : 0 ≤ u ∧ u ≤ 3) (hb : b < 6) {l : List PRT} {j : Nat} {x : Int} (hx : x = ((j + l.length : Nat) : Int)) (hj : j + l.length ≤ np) (hS : SerP (c 33) j l) (hvp : ∀ x ∈ l, vP x) (hd : dqL 0 l = some 1) : Ok (d + 4) 27 [(1, ((28 : Nat) : Int)), (0, (j : Int)), (0, x), (1, ((p : Nat) : Int)), (1, ((q : Nat) : Int))] (wC h c) (fun r h2 => r = some (0, bB (hdP (envK (b : Int) kind v w y u) l)) ∧ h2 = wC h c) := by
  show Ex _ none t_X1_holds 3 0 _ [] (wC h c) _
  subst hx
  refine E_const rfl ?_
  refine E_store rfl rfl rfl ?_
  refine E_load rfl rfl rfl ?_
  refine E_store rfl rfl rfl ?_
  exact lc_holds hL hC hnp hnp2 hB hQ hV hk hv hw hy hu hb l j [] hj hS hvp hd (by decide)
theorem laC_in {w : Int} : ∀ (l : List CLA) (d : Int), (0 ≤ d ∧ d ≤ 99) → (∀ x ∈ l, okC x) → 0 ≤ laC w d l ∧ laC w d l ≤ 99
  | [], d, h, _ => h
  | x :: l, d, h, hk => by
    rw [laC]
    exact laC_in l _ (by split; exact (hk x List.mem_cons_self).2.1; exact h) fun y hy => hk y (List.mem_cons_of_mem _ hy)
set_option maxRecDepth 100000 in
theorem lc_last {d : Nat} {h : Hp} {c : Nat → Nat → Int} (hL : Lay h) (hC : Cc c) {nc : Nat} (hnc : c 29 3 = (nc : Int)) (hnc2 : nc ≤ 10) {w : Int} (hw : inR w) {f2 : Int} : ∀ (l : List CLA) (i k : Nat) (a : Int), i + l.length = nc → SerC (c 30) i k l → (∀ x ∈ l, okC x) → Ex (d + 2) none t_X1_lastOf 0 5 [(1, ((28 : Nat) : Int)), (0, w), (0, f2), (0, a), (0, (i : Int))] [] (wC h c) (fun r h2 => r = some (0, laC w a l) ∧ h2 = wC h c) := by
  intro l
  induction l with
  | nil =>
    intro i k a hi hS hk
    rw [List.length_nil] at hi
    refine E_load rfl rfl rfl ?_
    refine E_load rfl rfl rfl ?_
    refine E_getr (c := 2) (r := 29) rfl (hL.lt 28 rfl) (hL.k 28 rfl) rfl (hC.g 28 1 29 (by decide)) ?_
    refine E_getf (c := 8) (v := (0, ((nc : Nat) : Int))) rfl (hL.lt 29 rfl) (hL.k 29 rfl) rfl (fv (hnc)) ?_
    refine E_cmp3 rfl (by omega) (fun q1 => ?_) (fun q1 => ?_)
    · refine E_load rfl rfl rfl ?_
      refine E_iret rfl (fun h => absurd h (by decide)) ?_
      exact ⟨rfl, rfl⟩
    · exfalso; omega
  | cons x l ih =>
    intro i k a hi hS hk
    rw [List.length_cons] at hi
    have hx := hk x List.mem_cons_self
    have hxl : ∀ y ∈ l, okC y := fun y hy => hk y (List.mem_cons_of_mem _ hy)
    refine E_load rfl rfl rfl ?_
    refine E_load rfl rfl rfl ?_
    refine E_getr (c := 2) (r := 29) rfl (hL.lt 28 rfl) (hL.k 28 rfl) rfl (hC.g 28 1 29 (by decide)) ?_
    refine E_getf (c := 8) (v := (0, ((nc : Nat) : Int))) rfl (hL.lt 29 rfl) (hL.k 29 rfl) rfl (fv (hnc)) ?_
    refine E_cmp3 rfl (by omega) (fun q1 => ?_) (fun q1 => ?_)
    · exfalso; omega
    · refine E_load rfl rfl rfl ?_
      refine E_getr (c := 2) (r := 29) rfl (hL.lt 28 rfl) (hL.k 28 rfl) rfl (hC.g 28 1 29 (by decide)) ?_
      refine E_load rfl rfl rfl ?_
      refine E_const rfl ?_
      refine E_V2 (q := 29) (c := 8) (y := 60) rfl rfl (hL.lt 29 rfl) (hL.k 29 rfl) rfl rfl rfl rfl (s_atv (sh29 hL hC) (by decide) (by decide) (by omega) (by omega) (by omega) (by omega) (at29 (k := 0) hnc (by omega) (by decide) hS.1.1)) (fun r h2 hq => ?_)
      obtain ⟨rfl, hh⟩ := hq
      subst hh
      refine E_load rfl rfl rfl ?_
      refine E_cmp1 rfl (by have := hx.1; omega) (fun q2 => ?_) (fun q2 => ?_)
      · refine E_iinc rfl rfl rfl ?_
        refine E_goto rfl ?_
        exact (ih (i + 1) _ a (by omega) hS.2 hxl).mono fun r hE hq => ⟨by rw [hq.1, laC, if_neg q2], hq.2⟩
      · refine E_load rfl rfl rfl ?_
        refine E_getr (c := 2) (r := 29) rfl (hL.lt 28 rfl) (hL.k 28 rfl) rfl (hC.g 28 1 29 (by decide)) ?_
        refine E_load rfl rfl rfl ?_
        refine E_const rfl ?_
        refine E_V2 (q := 29) (c := 8) (y := 60) rfl rfl (hL.lt 29 rfl) (hL.k 29 rfl) rfl rfl rfl rfl (s_atv (sh29 hL hC) (by decide) (by decide) (by omega) (by omega) (by omega) (by omega) (at29 (k := 1) hnc (by omega) (by decide) hS.1.2.1)) (fun r h2 hq => ?_)
        obtain ⟨rfl, hh⟩ := hq
        subst hh
        refine E_store rfl rfl rfl ?_
        refine E_iinc rfl rfl rfl ?_
        refine E_goto rfl ?_
        exact (ih (i + 1) _ x.2.1 (by omega) hS.2 hxl).mono fun r hE hq => ⟨by rw [hq.1, laC, if_pos q2], hq.2⟩
set_option maxHeartbeats 4000000 in
set_option maxRecDepth 100000 in
theorem c_last {d : Nat} {h : Hp} {c : Nat → Nat → Int} (hL : Lay h) (hC : Cc c) {cl : List CLA} (hH : HoldC (c 29 3) (c 30) (c 32 3) (c 33) cl) {w a : Int} (hw : inR w) : Ok (d + 2) 25 [(1, ((28 : Nat) : Int)), (0, w), (0, a)] (wC h c) (fun r h2 => r = some (0, laC w a cl) ∧ h2 = wC h c) := by
  show Ex _ none t_X1_lastOf 0 0 _ [] (wC h c) _
  obtain ⟨k1, k2, k3, k4, k5, k6⟩ := hH
  refine E_load rfl rfl rfl ?_
  refine E_store rfl rfl rfl ?_
  refine E_const rfl ?_
  refine E_store rfl rfl rfl ?_
  exact lc_last hL hC k1 k5.1 hw cl 0 0 a (Nat.zero_add _) k3 k6
set_option maxHeartbeats 4000000 in
set_option maxRecDepth 100000 in
theorem c_calm {d : Nat} {h : Hp} {c : Nat → Nat → Int} (hL : Lay h) (hC : Cc c) {cl : List CLA} (hH : HoldC (c 29 3) (c 30) (c 32 3) (c 33) cl) : Ok (d + 3) 23 [(1, ((28 : Nat) : Int))] (wC h c) (fun r h2 => r = some (0, laC 0 0 cl) ∧ h2 = wC h c) := by
  show Ex _ none t_X1_calm 0 0 _ [] (wC h c) _
  refine E_load rfl rfl rfl ?_
  refine E_const rfl ?_
  refine E_const rfl ?_
  refine E_V2 (q := 28) (c := 2) (y := 25) rfl rfl (hL.lt 28 rfl) (hL.k 28 rfl) rfl rfl rfl rfl (c_last hL hC hH (by omega)) (fun r h2 hq => ?_)
  obtain ⟨rfl, hh⟩ := hq
  subst hh
  refine E_iret rfl (fun h => absurd h (by decide)) ?_
  exact ⟨rfl, rfl⟩
set_option maxHeartbeats 4000000 in
set_option maxRecDepth 100000 in
theorem c_peace {d : Nat} {h : Hp} {c : Nat → Nat → Int} (hL : Lay h) (hC : Cc c) {cl : List CLA} (hH : HoldC (c 29 3) (c 30) (c 32 3) (c 33) cl) : Ok (d + 3) 24 [(1, ((28 : Nat) : Int))] (wC h c) (fun r h2 => r = some (0, laC 1 5 cl) ∧ h2 = wC h c) := by
  show Ex _ none t_X1_peace 0 0 _ [] (wC h c) _
  refine E_load rfl rfl rfl ?_
  refine E_const rfl ?_
  refine E_const rfl ?_
  refine E_V2 (q := 28) (c := 2) (y := 25) rfl rfl (hL.lt 28 rfl) (hL.k 28 rfl) rfl rfl rfl rfl (c_last hL hC hH (by omega)) (fun r h2 hq => ?_)
  obtain ⟨rfl, hh⟩ := hq
  subst hh
  refine E_iret rfl (fun h => absurd h (by decide)) ?_
  exact ⟨rfl, rfl⟩
set_option maxHeartbeats 4000000 in
set_option maxRecDepth 100000 in
theorem lc_soft {d : Nat} {h : Hp} {c : Nat → Nat → Int} (hL : Lay h) (hC : Cc c) {np : Nat} (hnp : c 32 3 = (np : Int)) (hnp2 : np ≤ 100) {nc : Nat} (hnc : c 29 3 = (nc : Int)) (hnc2 : nc ≤ 10) {p q b : Nat} {kind v w y u em : Int} {tel : Nat → Int} (hB : Bot h c p b kind) (hQ : La h c q) (hV : LV c q v w y u em tel) (hk : 0 ≤ kind ∧ kind ≤ 6) (hv : 0 ≤ v ∧ v ≤ 9) (hw : -99 ≤ w ∧ w ≤ 99) (hy : 0 ≤ y ∧ y ≤ 199) (hu : 0 ≤ u ∧ u ≤ 3) (hb : b < 6) : ∀ (l : List CLA) (i k : Nat) (a : Int) (v6 v7 : AV), i + l.length = nc → SerC (c 30) i k l → SerP (c 33) k (partsC l) → k + (partsC l).length ≤ np → (∀ x ∈ l, okC x) → (10 - 99 * (i : Int) ≤ a ∧ a ≤ 10 + 99 * (i : Int)) → (∀ z : Int, z = a + rtC (envK (b : Int) kind v w y u) l → -1000 ≤ z ∧ z ≤ 1010) → Ex (d + 6) none t_X1_softOf 0 9 [(1, ((28 : Nat) : Int)), (1, ((p : Nat) : Int)), (1, ((q : Nat) : Int)), (0, a), (0, (k : Int)), (0, (i : Int)), v6, v7] [] (wC h c) (fun r h2 => r = some (0, softK (a + rtC (envK (b : Int) kind v w y u) l - 10) y) ∧ h2 = wC h c) := by
  intro l
  induction l with
  | nil =>
    intro i k a v6 v7 hi hS hP hkn hok hz hb2
    rw [List.length_nil] at hi
    have hz2 := hb2 a (by rw [rtC, Int.add_zero])
    refine E_load rfl rfl rfl ?_
    refine E_load rfl rfl rfl ?_
    refine E_getr (c := 2) (r := 29) rfl (hL.lt 28 rfl) (hL.k 28 rfl) rfl (hC.g 28 1 29 (by decide)) ?_
    refine E_getf (c := 8) (v := (0, ((nc : Nat) : Int))) rfl (hL.lt 29 rfl) (hL.k 29 rfl) rfl (fv (hnc)) ?_
    refine E_cmp3 rfl (by omega) (fun q1 => ?_) (fun q1 => ?_)
    · refine E_load rfl rfl rfl ?_
      refine E_getf (c := 6) (v := (0, y)) rfl (by have := hQ.1; omega : q < mN h) hQ.2.1 rfl (fv (hV.1.2.2.1)) ?_
      refine E_const rfl ?_
      refine E_load rfl rfl rfl ?_
      refine E_max rfl (by omega) rfl ?_
      refine E_mul rfl ?_
      have hm : 0 ≤ y * (if (0 : Int) < a then a else 0) ∧ y * (if (0 : Int) < a then a else 0) ≤ 199 * 1010 := ⟨Int.mul_nonneg hy.1 (by split <;> omega), Int.le_trans (Int.mul_le_mul_of_nonneg_right hy.2 (by split <;> omega)) (Int.mul_le_mul_of_nonneg_left (by split <;> omega) (by omega))⟩
      refine E_const rfl ?_
      refine E_div rfl (by omega) (by omega) (by omega) ?_
      refine E_iret rfl (fun h => absurd h (by decide)) ?_
      refine ⟨congrArg (fun z : Int => some (((0 : Nat), z) : AV)) ?_, rfl⟩
      rw [rtC, Int.add_zero]
      unfold softK
      rw [show 10 + (a - 10) = a by omega]
      by_cases h0 : a < 0
      · rw [if_pos h0, if_neg (by omega), Int.mul_zero]; rfl
      · rw [if_neg h0]
        by_cases h1 : 0 < a
        · rw [if_pos h1]
        · rw [if_neg h1, show a = 0 by omega]
    · exfalso; omega
  | cons x l ih =>
    intro i k a v6 v7 hi hS hP hkn hok hz hb2
    rw [List.length_cons] at hi
    have hx := hok x List.mem_cons_self
    have hxl : ∀ y ∈ l, okC y := fun y hy => hok y (List.mem_cons_of_mem _ hy)
    have hpc : partsC (x :: l) = x.2.2 ++ partsC l := rfl
    rw [hpc, List.length_append] at hkn
    rw [hpc, SerP_app] at hP
    have ha : ∀ z : Int, z = a + addC (envK (b : Int) kind v w y u) x + rtC (envK (b : Int) kind v w y u) l → -1000 ≤ z ∧ z ≤ 1010 := fun z hz => hb2 z (by rw [rtC]; omega)
    have had : -99 ≤ addC (envK (b : Int) kind v w y u) x ∧ addC (envK (b : Int) kind v w y u) x ≤ 99 := by have := hx.2.1; unfold addC; split <;> (try split) <;> omega
    refine E_load rfl rfl rfl ?_
    refine E_load rfl rfl rfl ?_
    refine E_getr (c := 2) (r := 29) rfl (hL.lt 28 rfl) (hL.k 28 rfl) rfl (hC.g 28 1 29 (by decide)) ?_
    refine E_getf (c := 8) (v := (0, ((nc : Nat) : Int))) rfl (hL.lt 29 rfl) (hL.k 29 rfl) rfl (fv (hnc)) ?_
    refine E_cmp3 rfl (by omega) (fun q1 => ?_) (fun q1 => ?_)
    · exfalso; omega
    · refine E_load rfl rfl rfl ?_
      refine E_getr (c := 2) (r := 29) rfl (hL.lt 28 rfl) (hL.k 28 rfl) rfl (hC.g 28 1 29 (by decide)) ?_
      refine E_load rfl rfl rfl ?_
      refine E_const rfl ?_
      refine E_V2 (q := 29) (c := 8) (y := 60) rfl rfl (hL.lt 29 rfl) (hL.k 29 rfl) rfl rfl rfl rfl (s_atv (sh29 hL hC) (by decide) (by decide) (by omega) (by omega) (by omega) (by omega) (at29 (k := 0) hnc (by omega) (by decide) hS.1.1)) (fun r h2 hq => ?_)
      obtain ⟨rfl, hh⟩ := hq
      subst hh
      refine E_store rfl rfl rfl ?_
      refine E_load rfl rfl rfl ?_
      refine E_getr (c := 2) (r := 29) rfl (hL.lt 28 rfl) (hL.k 28 rfl) rfl (hC.g 28 1 29 (by decide)) ?_
      refine E_load rfl rfl rfl ?_
      refine E_const rfl ?_
      refine E_V2 (q := 29) (c := 8) (y := 60) rfl rfl (hL.lt 29 rfl) (hL.k 29 rfl) rfl rfl rfl rfl (s_atv (sh29 hL hC) (by decide) (by decide) (by omega) (by omega) (by omega) (by omega) (at29 (k := 2) hnc (by omega) (by decide) hS.1.2.2)) (fun r h2 hq => ?_)
      obtain ⟨rfl, hh⟩ := hq
      subst hh
      refine E_store rfl rfl rfl ?_
      refine E_load rfl rfl rfl ?_
      refine E_const rfl ?_
      refine E_cmp2 rfl (by have := hx.1; omega) (fun q2 => ?_) (fun q2 => ?_)
      · refine E_load rfl rfl rfl ?_
        refine E_store rfl rfl rfl ?_
        refine E_iinc rfl rfl rfl ?_
        refine E_goto rfl ?_
        have ea : addC (envK (b : Int) kind v w y u) x = 0 := by unfold addC; rw [if_neg (fun z => by have := z.1; omega)]
        refine (ih (i + 1) (k + x.2.2.length) _ _ _ (by omega) hS.2 hP.2 (by omega) hxl (by omega) (fun z hz => ha z (by omega))).mono fun r hE hq => ⟨?_, hq.2⟩
        rw [hq.1, rtC, ea]; congr 3; omega
      · refine E_load rfl rfl rfl ?_
        refine E_load rfl rfl rfl ?_
        refine E_load rfl rfl rfl ?_
        refine E_load rfl rfl rfl ?_
        refine E_load rfl rfl rfl ?_
        refine E_V4 (q := 28) (c := 2) (y := 27) rfl rfl (hL.lt 28 rfl) (hL.k 28 rfl) rfl rfl rfl rfl (c_holds hL hC hnp hnp2 hB hQ hV hk hv hw hy hu hb rfl (by omega) hP.1 hx.2.2.1 (hx.2.2.2.1 (by omega))) (fun r h2 hq => ?_)
        obtain ⟨rfl, hh⟩ := hq
        subst hh
        refine E_if0 rfl (bB_R _) (fun q3 => ?_) (fun q3 => ?_)
        · replace q3 := bB_z q3
          refine E_load rfl rfl rfl ?_
          refine E_store rfl rfl rfl ?_
          refine E_iinc rfl rfl rfl ?_
          refine E_goto rfl ?_
          have ea : addC (envK (b : Int) kind v w y u) x = 0 := by unfold addC; rw [if_neg (fun z => by have z2 := z.2; rw [q3] at z2; cases z2)]
          refine (ih (i + 1) (k + x.2.2.length) _ _ _ (by omega) hS.2 hP.2 (by omega) hxl (by omega) (fun z hz => ha z (by omega))).mono fun r hE hq => ⟨?_, hq.2⟩
          rw [hq.1, rtC, ea]; congr 3; omega
        · replace q3 := bB_nz q3
          refine E_load rfl rfl rfl ?_
          refine E_load rfl rfl rfl ?_
          refine E_const rfl ?_
          refine E_cmp1 rfl (by have := hx.1; omega) (fun q4 => ?_) (fun q4 => ?_)
          · refine E_load rfl rfl rfl ?_
            refine E_getr (c := 2) (r := 29) rfl (hL.lt 28 rfl) (hL.k 28 rfl) rfl (hC.g 28 1 29 (by decide)) ?_
            refine E_load rfl rfl rfl ?_
            refine E_const rfl ?_
            refine E_V2 (q := 29) (c := 8) (y := 60) rfl rfl (hL.lt 29 rfl) (hL.k 29 rfl) rfl rfl rfl rfl (s_atv (sh29 hL hC) (by decide) (by decide) (by omega) (by omega) (by omega) (by omega) (at29 (k := 1) hnc (by omega) (by decide) hS.1.2.1)) (fun r h2 hq => ?_)
            obtain ⟨rfl, hh⟩ := hq
            subst hh
            refine E_neg rfl ?_
            refine E_add rfl ?_
            refine E_store rfl rfl rfl ?_
            refine E_load rfl rfl rfl ?_
            refine E_store rfl rfl rfl ?_
            refine E_iinc rfl rfl rfl ?_
            refine E_goto rfl ?_
            have ea : addC (envK (b : Int) kind v w y u) x = -x.2.1 := by unfold addC; rw [if_pos ⟨by omega, q3⟩, if_neg (by omega)]
            refine (ih (i + 1) (k + x.2.2.length) _ _ _ (by omega) hS.2 hP.2 (by omega) hxl (by omega) (fun z hz => ha z (by omega))).mono fun r hE hq => ⟨?_, hq.2⟩
            rw [hq.1, rtC, ea]; congr 3; omega
          · refine E_load rfl rfl rfl ?_
            refine E_getr (c := 2) (r := 29) rfl (hL.lt 28 rfl) (hL.k 28 rfl) rfl (hC.g 28 1 29 (by decide)) ?_
            refine E_load rfl rfl rfl ?_
            refine E_const rfl ?_
            refine E_V2 (q := 29) (c := 8) (y := 60) rfl rfl (hL.lt 29 rfl) (hL.k 29 rfl) rfl rfl rfl rfl (s_atv (sh29 hL hC) (by decide) (by decide) (by omega) (by omega) (by omega) (by omega) (at29 (k := 1) hnc (by omega) (by decide) hS.1.2.1)) (fun r h2 hq => ?_)
            obtain ⟨rfl, hh⟩ := hq
            subst hh
            refine E_goto rfl ?_
            refine E_add rfl ?_
            refine E_store rfl rfl rfl ?_
            refine E_load rfl rfl rfl ?_
            refine E_store rfl rfl rfl ?_
            refine E_iinc rfl rfl rfl ?_
            refine E_goto rfl ?_
            have ea : addC (envK (b : Int) kind v w y u) x = x.2.1 := by unfold addC; rw [if_pos ⟨by omega, q3⟩, if_pos (by omega)]
            refine (ih (i + 1) (k + x.2.2.length) _ _ _ (by omega) hS.2 hP.2 (by omega) hxl (by omega) (fun z hz => ha z (by omega))).mono fun r hE hq => ⟨?_, hq.2⟩
            rw [hq.1, rtC, ea]; congr 3; omega
set_option maxHeartbeats 4000000 in
set_option maxRecDepth 100000 in
theorem c_soft {d : Nat} {h : Hp} {c : Nat → Nat → Int} (hL : Lay h) (hC : Cc c) {cl : List CLA} (hH : HoldC (c 29 3) (c 30) (c 32 3) (c 33) cl) {p q b : Nat} {kind v w y u em : Int} {tel : Nat → Int} (hB : Bot h c p b kind) (hQ : La h c q) (hV : LV c q v w y u em tel) (hk : 0 ≤ kind ∧ kind ≤ 6) (hv : 0 ≤ v ∧ v ≤ 9) (hw : -99 ≤ w ∧ w ≤ 99) (hy : 0 ≤ y ∧ y ≤ 199) (hu : 0 ≤ u ∧ u ≤ 3) (hb : b < 6) : Ok (d + 6) 26 [(1, ((28 : Nat) : Int)), (1, ((p : Nat) : Int)), (1, ((q : Nat) : Int))] (wC h c) (fun r h2 => r = some (0, softK (rtC (envK (b : Int) kind v w y u) cl) y) ∧ h2 = wC h c) := by
  show Ex _ none t_X1_softOf 0 0 _ [] (wC h c) _
  obtain ⟨k1, k2, k3, k4, k5, k6⟩ := hH
  have hr := rtC_in (e := (envK (b : Int) kind v w y u)) cl k6
  have hn : c 32 3 = (((partsC cl).length : Nat) : Int) := k2
  refine E_const rfl ?_
  refine E_store rfl rfl rfl ?_
  refine E_const rfl ?_
  refine E_store rfl rfl rfl ?_
  refine E_const rfl ?_
  refine E_store rfl rfl rfl ?_
  refine (lc_soft hL hC hn k5.2 k1 k5.1 hB hQ hV hk hv hw hy hu hb cl 0 0 10 _ _ (Nat.zero_add _) k3 k4 (by omega) k6 (by omega) (fun z hz => by omega)).mono fun r hE hq => ⟨?_, hq.2⟩
  rw [hq.1]; congr 3; omega
