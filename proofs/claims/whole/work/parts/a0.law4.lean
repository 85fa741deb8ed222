set_option maxHeartbeats 4000000 in
set_option maxRecDepth 100000 in
theorem c_cellI {d : Nat} {h : Hp} {c : Nat → Nat → Int} {q t : Nat} (hk : mK h q = 2) (hN : LayN (q + 1) h) (hq : q = 28 ∨ q = 35) : Ok (d + 3) 19 [(1, ((q : Nat) : Int)), (1, (t : Int))] (wC h c) (fun r h2 => r = none ∧ ∃ h' c', h2 = wC h' c' ∧ LayN (q + 7) h' ∧ mS h' = mS h + 670 ∧ (c' q 0 = (t : Int) ∧ c' q 1 = ((q + 1 : Nat) : Int) ∧ c' q 2 = ((q + 4 : Nat) : Int)) ∧ (c' (q + 1) 0 = 3 ∧ c' (q + 1) 1 = ((q + 2 : Nat) : Int) ∧ c' (q + 1) 2 = ((q + 3 : Nat) : Int) ∧ c' (q + 1) 3 = 0) ∧ (c' (q + 4) 0 = 3 ∧ c' (q + 4) 1 = ((q + 5 : Nat) : Int) ∧ c' (q + 4) 2 = ((q + 6 : Nat) : Int) ∧ c' (q + 4) 3 = 0) ∧ ∀ a, a < q → c' a = c a) := by
  show Ex _ none t_X1_init 0 0 _ [] (wC h c) _
  have hk1 : K0.getD (q + 1) 0 = 8 ∧ L0.getD (q + 1) 0 = 5 ∧ K0.getD (q + 2) 0 = 20 ∧ L0.getD (q + 2) 0 = 30 ∧ K0.getD (q + 3) 0 = 20 ∧ L0.getD (q + 3) 0 = 30 ∧ K0.getD (q + 4) 0 = 8 ∧ L0.getD (q + 4) 0 = 5 ∧ K0.getD (q + 5) 0 = 20 ∧ L0.getD (q + 5) 0 = 300 ∧ K0.getD (q + 6) 0 = 20 ∧ L0.getD (q + 6) 0 = 300 ∧ K0.getD q 0 = 2 := by
    rcases hq with rfl | rfl <;> decide
  obtain ⟨a1, a2, a3, a4, a5, a6, a7, a8, a9, a10, a11, a12, a13⟩ := hk1
  have hN1 := hN.1
  refine E_load rfl rfl rfl ?_
  refine E_obj rfl (show q < mN h by omega) rfl ?_
  refine E_load rfl rfl rfl ?_
  refine E_newShelf (site := 12) (n := q + 1) (w := 3) (m := 10) (M := 30) rfl rfl rfl rfl rfl rfl rfl rfl rfl hN rfl (by decide) ⟨a1, a2⟩ ⟨a3, a4⟩ ⟨a5, a6⟩ (fun h1 c1 hN2 s1 ⟨g0, g1, g2, g3, g4⟩ f1 => ?_)
  have kq1 : mK h1 q = 2 := by rw [(hN2.2 q (by omega)).1, a13]
  refine E_putg (cl := 2) (q := q) rfl (show q < mN h1 by rw [hN2.1]; omega) kq1 rfl (fun c_1 hc_1 => ?_)
  refine E_load rfl rfl rfl ?_
  refine E_newShelf (site := 12) (n := q + 4) (w := 3) (m := 100) (M := 300) rfl rfl rfl rfl rfl rfl rfl rfl rfl hN2 rfl (by decide) ⟨a7, a8⟩ ⟨a9, a10⟩ ⟨a11, a12⟩ (fun h2 c2 hN3 s2 ⟨j0, j1, j2, j3, j4⟩ f2 => ?_)
  have kq2 : mK h2 q = 2 := by rw [(hN3.2 q (by omega)).1, a13]
  refine E_putg (cl := 2) (q := q) rfl (show q < mN h2 by rw [hN3.1]; omega) kq2 rfl (fun c_2 hc_2 => ?_)
  refine E_load rfl rfl rfl ?_
  refine E_load rfl rfl rfl ?_
  refine E_putg (cl := 2) (q := q) rfl (show q < mN h2 by rw [hN3.1]; omega) kq2 rfl (fun c_3 hc_3 => ?_)
  refine E_vret rfl ?_
  have e3 : ∀ a, a ≠ q → c_3 a = c2 a := fun a ha => by rw [hc_3, up2_othN ha, hc_2, up2_othN ha]
  have e1 : ∀ a, a ≠ q → a < q + 4 → c_3 a = c1 a := fun a ha hb => by rw [e3 a ha, f2 a hb, hc_1, up2_othN ha]
  refine ⟨rfl, h2, c_3, rfl, hN3, by omega, ⟨by rw [hc_3]; exact up2_same, ?_, ?_⟩, ?_, ?_, fun a ha => ?_⟩
  · rw [hc_3, up2_fldN (by omega), hc_2, up2_fldN (by omega), f2 q (by omega), hc_1]; exact up2_same
  · rw [hc_3, up2_fldN (by omega), hc_2]; exact up2_same
  · rw [e1 (q + 1) (by omega) (by omega)]; exact ⟨g0, g1, g2, g3⟩
  · rw [e3 (q + 4) (by omega)]; exact ⟨j0, j1, j2, j3⟩
  · rw [e1 a (by omega) (by omega), f1 a (by omega)]
set_option maxHeartbeats 4000000 in
set_option maxRecDepth 100000 in
theorem c_listI {d : Nat} {h : Hp} {c : Nat → Nat → Int} {q : Nat} (hq : q < mN h) (hk : mK h q = 0) : Ok (d + 3) 0 [(1, ((q : Nat) : Int))] (wC h c) (fun r h2 => r = none ∧ ∃ c', h2 = wC h c' ∧ c' q 1 = -2 ∧ c' q 2 = c q 2 ∧ ∀ a, a ≠ q → c' a = c a) := by
  have k2 : Ok (d + 1) 232 [(1, ((q : Nat) : Int))] (wC h c) (fun r h2 => r = none ∧ h2 = wC h c) := by
    show Ex _ none t_Jxa1e45_init_da8c8 0 0 _ [] (wC h c) _
    refine E_load rfl rfl rfl ?_
    refine E_obj rfl hq rfl ?_
    refine E_vret rfl ?_
    exact ⟨rfl, rfl⟩
  have k1 : Ok (d + 2) 231 [(1, ((q : Nat) : Int))] (wC h c) (fun r h2 => r = none ∧ h2 = wC h (up2 c q 0 0)) := by
    show Ex _ none t_Jxc12de_init_da8c8 0 0 _ [] (wC h c) _
    refine E_load rfl rfl rfl ?_
    refine E_V0 (q := q) (c := 0) (y := 232) rfl rfl hq hk rfl rfl rfl rfl k2 (fun r h2 hq2 => ?_)
    obtain ⟨rfl, hh⟩ := hq2
    subst hh
    refine E_load rfl rfl rfl ?_
    refine E_const rfl ?_
    refine E_putg (cl := 0) (q := q) rfl hq hk rfl (fun c_1 hc_1 => ?_)
    refine E_vret rfl ?_
    exact ⟨rfl, by rw [hc_1]; rfl⟩
  show Ex _ none t_Jx4a65c_init_da8c8 0 0 _ [] (wC h c) _
  refine E_load rfl rfl rfl ?_
  refine E_V0 (q := q) (c := 0) (y := 231) rfl rfl hq hk rfl rfl rfl rfl k1 (fun r h2 hq2 => ?_)
  obtain ⟨rfl, hh⟩ := hq2
  subst hh
  refine E_load rfl rfl rfl ?_
  refine E_gst rfl ?_
  refine E_putg (cl := 0) (q := q) rfl hq hk rfl (fun c_1 hc_1 => ?_)
  refine E_vret rfl ?_
  exact ⟨rfl, c_1, rfl, by rw [hc_1]; exact up2_same, by rw [hc_1]; exact (up2_fldN (by omega)).trans (up2_fldN (by omega)), fun a ha => by rw [hc_1, up2_othN ha, up2_othN ha]⟩
