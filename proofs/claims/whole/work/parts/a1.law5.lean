set_option maxHeartbeats 4000000 in
set_option maxRecDepth 100000 in
theorem c_newX {d : Nat} {h : Hp} {c : Nat → Nat → Int} (hN : LayN 1 h) (h0 : c 0 = mDef 11) : Ok (d + 6) 73 [(1, ((0 : Nat) : Int))] (wC h c) (fun r h2 => r = none ∧ ∃ h' c', h2 = wC h' c' ∧ LayN 43 h' ∧ mS h' = mS h + 1904 ∧ Cc c' ∧ (c' 0 12 = 0 ∧ c' 0 13 = 0 ∧ c' 0 14 = -1) ∧ (c' 1 3 = 0 ∧ c' 4 3 = 0 ∧ c' 10 3 = 0 ∧ c' 13 3 = 0 ∧ c' 16 3 = 0 ∧ c' 19 3 = 0 ∧ c' 29 3 = 0 ∧ c' 32 3 = 0) ∧ c' 42 1 = -2 ∧ c' 42 2 = 0) := by
  show Ex _ none t_X10_init 0 0 _ [] (wC h c) _
  refine E_load rfl rfl rfl ?_
  refine E_obj rfl (show 0 < mN h by rw [hN.1]; omega) rfl ?_
  refine E_load rfl rfl rfl ?_
  refine E_newShelf (site := 55) (n := 1) (w := 1) (m := 100) (M := 100) rfl rfl rfl rfl rfl rfl rfl rfl rfl hN rfl (by decide) (by decide) (by decide) (by decide) (fun h1 c1 hN1 s1 g1 f1 => ?_)
  refine E_putg (cl := 11) (q := 0) rfl (show 0 < mN h1 by rw [hN1.1]; omega) (hN1.2 0 (by omega)).1 rfl (fun d1 hd1 => ?_)
  have z1 : d1 0 = upd1 (mDef 11) 0 1 := by rw [hd1, up2_row, f1 0 (by omega), h0]; rfl
  have o1 : ∀ a, a ≠ 0 → d1 a = c1 a := fun a ha => by rw [hd1, up2_othN ha]
  refine E_load rfl rfl rfl ?_
  refine E_newShelf (site := 55) (n := 4) (w := 1) (m := 4) (M := 4) rfl rfl rfl rfl rfl rfl rfl rfl rfl hN1 rfl (by decide) (by decide) (by decide) (by decide) (fun h2 c2 hN2 s2 g2 f2 => ?_)
  refine E_putg (cl := 11) (q := 0) rfl (show 0 < mN h2 by rw [hN2.1]; omega) (hN2.2 0 (by omega)).1 rfl (fun d2 hd2 => ?_)
  have z2 : d2 0 = upd1 (upd1 (mDef 11) 0 1) 1 4 := by rw [hd2, up2_row, f2 0 (by omega), z1]; rfl
  have o2 : ∀ a, a ≠ 0 → d2 a = c2 a := fun a ha => by rw [hd2, up2_othN ha]
  refine E_load rfl rfl rfl ?_
  refine E_newShelf (site := 55) (n := 7) (w := 1) (m := 4) (M := 4) rfl rfl rfl rfl rfl rfl rfl rfl rfl hN2 rfl (by decide) (by decide) (by decide) (by decide) (fun h3 c3 hN3 s3 g3 f3 => ?_)
  refine E_putg (cl := 11) (q := 0) rfl (show 0 < mN h3 by rw [hN3.1]; omega) (hN3.2 0 (by omega)).1 rfl (fun d3 hd3 => ?_)
  have z3 : d3 0 = upd1 (upd1 (upd1 (mDef 11) 0 1) 1 4) 2 7 := by rw [hd3, up2_row, f3 0 (by omega), z2]; rfl
  have o3 : ∀ a, a ≠ 0 → d3 a = c3 a := fun a ha => by rw [hd3, up2_othN ha]
  refine E_load rfl rfl rfl ?_
  refine E_newShelf (site := 55) (n := 10) (w := 3) (m := 5) (M := 15) rfl rfl rfl rfl rfl rfl rfl rfl rfl hN3 rfl (by decide) (by decide) (by decide) (by decide) (fun h4 c4 hN4 s4 g4 f4 => ?_)
  refine E_putg (cl := 11) (q := 0) rfl (show 0 < mN h4 by rw [hN4.1]; omega) (hN4.2 0 (by omega)).1 rfl (fun d4 hd4 => ?_)
  have z4 : d4 0 = upd1 (upd1 (upd1 (upd1 (mDef 11) 0 1) 1 4) 2 7) 3 10 := by rw [hd4, up2_row, f4 0 (by omega), z3]; rfl
  have o4 : ∀ a, a ≠ 0 → d4 a = c4 a := fun a ha => by rw [hd4, up2_othN ha]
  refine E_load rfl rfl rfl ?_
  refine E_newShelf (site := 55) (n := 13) (w := 3) (m := 8) (M := 24) rfl rfl rfl rfl rfl rfl rfl rfl rfl hN4 rfl (by decide) (by decide) (by decide) (by decide) (fun h5 c5 hN5 s5 g5 f5 => ?_)
  refine E_putg (cl := 11) (q := 0) rfl (show 0 < mN h5 by rw [hN5.1]; omega) (hN5.2 0 (by omega)).1 rfl (fun d5 hd5 => ?_)
  have z5 : d5 0 = upd1 (upd1 (upd1 (upd1 (upd1 (mDef 11) 0 1) 1 4) 2 7) 3 10) 4 13 := by rw [hd5, up2_row, f5 0 (by omega), z4]; rfl
  have o5 : ∀ a, a ≠ 0 → d5 a = c5 a := fun a ha => by rw [hd5, up2_othN ha]
  refine E_load rfl rfl rfl ?_
  refine E_newShelf (site := 55) (n := 16) (w := 2) (m := 8) (M := 16) rfl rfl rfl rfl rfl rfl rfl rfl rfl hN5 rfl (by decide) (by decide) (by decide) (by decide) (fun h6 c6 hN6 s6 g6 f6 => ?_)
  refine E_putg (cl := 11) (q := 0) rfl (show 0 < mN h6 by rw [hN6.1]; omega) (hN6.2 0 (by omega)).1 rfl (fun d6 hd6 => ?_)
  have z6 : d6 0 = upd1 (upd1 (upd1 (upd1 (upd1 (upd1 (mDef 11) 0 1) 1 4) 2 7) 3 10) 4 13) 5 16 := by rw [hd6, up2_row, f6 0 (by omega), z5]; rfl
  have o6 : ∀ a, a ≠ 0 → d6 a = c6 a := fun a ha => by rw [hd6, up2_othN ha]
  refine E_load rfl rfl rfl ?_
  refine E_newShelf (site := 55) (n := 19) (w := 1) (m := 20) (M := 20) rfl rfl rfl rfl rfl rfl rfl rfl rfl hN6 rfl (by decide) (by decide) (by decide) (by decide) (fun h7 c7 hN7 s7 g7 f7 => ?_)
  refine E_putg (cl := 11) (q := 0) rfl (show 0 < mN h7 by rw [hN7.1]; omega) (hN7.2 0 (by omega)).1 rfl (fun d7 hd7 => ?_)
  have z7 : d7 0 = upd1 (upd1 (upd1 (upd1 (upd1 (upd1 (upd1 (mDef 11) 0 1) 1 4) 2 7) 3 10) 4 13) 5 16) 6 19 := by rw [hd7, up2_row, f7 0 (by omega), z6]; rfl
  have o7 : ∀ a, a ≠ 0 → d7 a = c7 a := fun a ha => by rw [hd7, up2_othN ha]
  refine E_load rfl rfl rfl ?_
  refine E_newShelf (site := 55) (n := 22) (w := 1) (m := 6) (M := 6) rfl rfl rfl rfl rfl rfl rfl rfl rfl hN7 rfl (by decide) (by decide) (by decide) (by decide) (fun h8 c8 hN8 s8 g8 f8 => ?_)
  refine E_putg (cl := 11) (q := 0) rfl (show 0 < mN h8 by rw [hN8.1]; omega) (hN8.2 0 (by omega)).1 rfl (fun d8 hd8 => ?_)
  have z8 : d8 0 = upd1 (upd1 (upd1 (upd1 (upd1 (upd1 (upd1 (upd1 (mDef 11) 0 1) 1 4) 2 7) 3 10) 4 13) 5 16) 6 19) 7 22 := by rw [hd8, up2_row, f8 0 (by omega), z7]; rfl
  have o8 : ∀ a, a ≠ 0 → d8 a = c8 a := fun a ha => by rw [hd8, up2_othN ha]
  refine E_load rfl rfl rfl ?_
  refine E_newShelf (site := 55) (n := 25) (w := 1) (m := 64) (M := 64) rfl rfl rfl rfl rfl rfl rfl rfl rfl hN8 rfl (by decide) (by decide) (by decide) (by decide) (fun h9 c9 hN9 s9 g9 f9 => ?_)
  refine E_putg (cl := 11) (q := 0) rfl (show 0 < mN h9 by rw [hN9.1]; omega) (hN9.2 0 (by omega)).1 rfl (fun d9 hd9 => ?_)
  have z9 : d9 0 = upd1 (upd1 (upd1 (upd1 (upd1 (upd1 (upd1 (upd1 (upd1 (mDef 11) 0 1) 1 4) 2 7) 3 10) 4 13) 5 16) 6 19) 7 22) 8 25 := by rw [hd9, up2_row, f9 0 (by omega), z8]; rfl
  have o9 : ∀ a, a ≠ 0 → d9 a = c9 a := fun a ha => by rw [hd9, up2_othN ha]
  refine E_load rfl rfl rfl ?_
  refine E_newg rfl rfl ?_
  refine E_dup rfl rfl ?_
  refine E_load rfl rfl rfl ?_
  have hM10 : LayN (28 + 1) (nwH h9 2 5) := hN9.nw rfl rfl
  refine E_getr (h := wC (nwH h9 2 5) (nwC d9 (mN h9) (mDef 2))) (c := 11) (r := 1) rfl (show 0 < mN (nwH h9 2 5) by rw [hM10.1]; omega) (hM10.2 0 (by omega)).1 rfl (show nwC d9 (mN h9) (mDef 2) 0 0 = _ from by rw [nwC_o (by rw [hN9.1]; omega), z9]; rfl) ?_
  rw [show (mN h9 : Int) = ((28 : Nat) : Int) by rw [hN9.1]]
  refine E_V1 (h := wC (nwH h9 2 5) (nwC d9 (mN h9) (mDef 2))) (q := 28) (c := 2) (y := 19) rfl rfl (show 28 < mN (nwH h9 2 5) by rw [hM10.1]; omega) (hM10.2 28 (by omega)).1 rfl rfl rfl rfl (c_cellI (h := nwH h9 2 5) (c := nwC d9 (mN h9) (mDef 2)) (t := 1) (hM10.2 28 (by omega)).1 hM10 (by omega)) (fun r h2 hq => ?_)
  obtain ⟨rfl, h10, c10, hh, hN10, s10, g10, ga10, gb10, f10⟩ := hq
  subst hh
  rw [nwS] at s10
  replace f10 : ∀ a, a < 28 → c10 a = d9 a := fun a ha => (f10 a ha).trans (nwC_o (by rw [hN9.1]; omega))
  refine E_putg (cl := 11) (q := 0) rfl (show 0 < mN h10 by rw [hN10.1]; omega) (hN10.2 0 (by omega)).1 rfl (fun d10 hd10 => ?_)
  have z10 : d10 0 = upd1 (upd1 (upd1 (upd1 (upd1 (upd1 (upd1 (upd1 (upd1 (upd1 (mDef 11) 0 1) 1 4) 2 7) 3 10) 4 13) 5 16) 6 19) 7 22) 8 25) 9 28 := by rw [hd10, up2_row, f10 0 (by omega), z9]; rfl
  have o10 : ∀ a, a ≠ 0 → d10 a = c10 a := fun a ha => by rw [hd10, up2_othN ha]
  refine E_load rfl rfl rfl ?_
  refine E_newg rfl rfl ?_
  refine E_dup rfl rfl ?_
  refine E_load rfl rfl rfl ?_
  have hM11 : LayN (35 + 1) (nwH h10 2 5) := hN10.nw rfl rfl
  refine E_getr (h := wC (nwH h10 2 5) (nwC d10 (mN h10) (mDef 2))) (c := 11) (r := 1) rfl (show 0 < mN (nwH h10 2 5) by rw [hM11.1]; omega) (hM11.2 0 (by omega)).1 rfl (show nwC d10 (mN h10) (mDef 2) 0 0 = _ from by rw [nwC_o (by rw [hN10.1]; omega), z10]; rfl) ?_
  rw [show (mN h10 : Int) = ((35 : Nat) : Int) by rw [hN10.1]]
  refine E_V1 (h := wC (nwH h10 2 5) (nwC d10 (mN h10) (mDef 2))) (q := 35) (c := 2) (y := 19) rfl rfl (show 35 < mN (nwH h10 2 5) by rw [hM11.1]; omega) (hM11.2 35 (by omega)).1 rfl rfl rfl rfl (c_cellI (h := nwH h10 2 5) (c := nwC d10 (mN h10) (mDef 2)) (t := 1) (hM11.2 35 (by omega)).1 hM11 (by omega)) (fun r h2 hq => ?_)
  obtain ⟨rfl, h11, c11, hh, hN11, s11, g11, ga11, gb11, f11⟩ := hq
  subst hh
  rw [nwS] at s11
  replace f11 : ∀ a, a < 35 → c11 a = d10 a := fun a ha => (f11 a ha).trans (nwC_o (by rw [hN10.1]; omega))
  refine E_putg (cl := 11) (q := 0) rfl (show 0 < mN h11 by rw [hN11.1]; omega) (hN11.2 0 (by omega)).1 rfl (fun d11 hd11 => ?_)
  have z11 : d11 0 = upd1 (upd1 (upd1 (upd1 (upd1 (upd1 (upd1 (upd1 (upd1 (upd1 (upd1 (mDef 11) 0 1) 1 4) 2 7) 3 10) 4 13) 5 16) 6 19) 7 22) 8 25) 9 28) 10 35 := by rw [hd11, up2_row, f11 0 (by omega), z10]; rfl
  have o11 : ∀ a, a ≠ 0 → d11 a = c11 a := fun a ha => by rw [hd11, up2_othN ha]
  refine E_load rfl rfl rfl ?_
  refine E_newg rfl rfl ?_
  refine E_dup rfl rfl ?_
  have hM12 : LayN (42 + 1) (nwH h11 0 3) := hN11.nw rfl rfl
  rw [show (mN h11 : Int) = ((42 : Nat) : Int) by rw [hN11.1]]
  refine E_V0 (h := wC (nwH h11 0 3) (nwC d11 (mN h11) (mDef 0))) (q := 42) (c := 0) (y := 0) rfl rfl (show 42 < mN (nwH h11 0 3) by rw [hM12.1]; omega) (hM12.2 42 (by omega)).1 rfl rfl rfl rfl (c_listI (h := nwH h11 0 3) (c := nwC d11 (mN h11) (mDef 0)) (show 42 < mN (nwH h11 0 3) by rw [hM12.1]; omega) (hM12.2 42 (by omega)).1) (fun r h2 hq => ?_)
  obtain ⟨rfl, c12, hh, g12, gc12, f12⟩ := hq
  subst hh
  replace f12 : ∀ a, a < 42 → c12 a = d11 a := fun a ha => (f12 a (by omega)).trans (nwC_o (by rw [hN11.1]; omega))
  replace gc12 : c12 42 2 = 0 := gc12.trans (by rw [show (42 : Nat) = mN h11 from hN11.1.symm, nwC_n]; rfl)
  refine E_putg (h := nwH h11 0 3) (cl := 11) (q := 0) rfl (show 0 < mN (nwH h11 0 3) by rw [hM12.1]; omega) (hM12.2 0 (by omega)).1 rfl (fun d12 hd12 => ?_)
  have z12 : d12 0 = upd1 (upd1 (upd1 (upd1 (upd1 (upd1 (upd1 (upd1 (upd1 (upd1 (upd1 (upd1 (mDef 11) 0 1) 1 4) 2 7) 3 10) 4 13) 5 16) 6 19) 7 22) 8 25) 9 28) 10 35) 11 42 := by rw [hd12, up2_row, f12 0 (by omega), z11]; rfl
  have o12 : ∀ a, a ≠ 0 → d12 a = c12 a := fun a ha => by rw [hd12, up2_othN ha]
  refine E_load rfl rfl rfl ?_
  refine E_const rfl ?_
  refine E_putg (h := nwH h11 0 3) (cl := 11) (q := 0) rfl (show 0 < mN (nwH h11 0 3) by rw [hM12.1]; omega) (hM12.2 0 (by omega)).1 rfl (fun d13 hd13 => ?_)
  refine E_vret rfl ?_
  have z13 : d13 0 = upd1 (upd1 (upd1 (upd1 (upd1 (upd1 (upd1 (upd1 (upd1 (upd1 (upd1 (upd1 (upd1 (mDef 11) 0 1) 1 4) 2 7) 3 10) 4 13) 5 16) 6 19) 7 22) 8 25) 9 28) 10 35) 11 42) 14 (-1) := by rw [hd13, up2_row, z12]; rfl
  have o13 : ∀ a, a ≠ 0 → d13 a = c12 a := fun a ha => by rw [hd13, up2_othN ha, o12 a ha]
  have p11 : ∀ a, a ≠ 0 → a < 42 → d13 a = c11 a := fun a h1 h2 => by rw [o13 a h1, f12 a h2, o11 a h1]
  have p10 : ∀ a, a ≠ 0 → a < 35 → d13 a = c10 a := fun a h1 h2 => by rw [p11 a h1 (by omega), f11 a h2, o10 a h1]
  have p9 : ∀ a, a ≠ 0 → a < 28 → d13 a = c9 a := fun a h1 h2 => by rw [p10 a h1 (by omega), f10 a h2, o9 a h1]
  have p8 : ∀ a, a ≠ 0 → a < 25 → d13 a = c8 a := fun a h1 h2 => by rw [p9 a h1 (by omega), f9 a h2, o8 a h1]
  have p7 : ∀ a, a ≠ 0 → a < 22 → d13 a = c7 a := fun a h1 h2 => by rw [p8 a h1 (by omega), f8 a h2, o7 a h1]
  have p6 : ∀ a, a ≠ 0 → a < 19 → d13 a = c6 a := fun a h1 h2 => by rw [p7 a h1 (by omega), f7 a h2, o6 a h1]
  have p5 : ∀ a, a ≠ 0 → a < 16 → d13 a = c5 a := fun a h1 h2 => by rw [p6 a h1 (by omega), f6 a h2, o5 a h1]
  have p4 : ∀ a, a ≠ 0 → a < 13 → d13 a = c4 a := fun a h1 h2 => by rw [p5 a h1 (by omega), f5 a h2, o4 a h1]
  have p3 : ∀ a, a ≠ 0 → a < 10 → d13 a = c3 a := fun a h1 h2 => by rw [p4 a h1 (by omega), f4 a h2, o3 a h1]
  have p2 : ∀ a, a ≠ 0 → a < 7 → d13 a = c2 a := fun a h1 h2 => by rw [p3 a h1 (by omega), f3 a h2, o2 a h1]
  have p1 : ∀ a, a ≠ 0 → a < 4 → d13 a = c1 a := fun a h1 h2 => by rw [p2 a h1 (by omega), f2 a h2, o1 a h1]
  rw [← p1 1 (by omega) (by omega)] at g1
  rw [← p2 4 (by omega) (by omega)] at g2
  rw [← p3 7 (by omega) (by omega)] at g3
  rw [← p4 10 (by omega) (by omega)] at g4
  rw [← p5 13 (by omega) (by omega)] at g5
  rw [← p6 16 (by omega) (by omega)] at g6
  rw [← p7 19 (by omega) (by omega)] at g7
  rw [← p8 22 (by omega) (by omega)] at g8
  rw [← p9 25 (by omega) (by omega)] at g9
  rw [← p10 28 (by omega) (by omega)] at g10
  rw [← p10 (28 + 1) (by omega) (by omega)] at ga10
  rw [← p10 (28 + 4) (by omega) (by omega)] at gb10
  rw [← p11 35 (by omega) (by omega)] at g11
  rw [← p11 (35 + 1) (by omega) (by omega)] at ga11
  rw [← p11 (35 + 4) (by omega) (by omega)] at gb11
  rw [← o13 42 (by omega)] at g12 gc12
  refine ⟨rfl, nwH h11 0 3, d13, rfl, hM12, by rw [nwS]; omega, fun e he => ?_, ⟨by rw [z13]; rfl, by rw [z13]; rfl, by rw [z13]; rfl⟩, ⟨g1.2.2.2.1, g2.2.2.2.1, g4.2.2.2.1, g5.2.2.2.1, g6.2.2.2.1, g7.2.2.2.1, ga10.2.2.2, gb10.2.2.2⟩, g12, gc12⟩
  unfold CT at he
  simp only [List.mem_cons, List.not_mem_nil, or_false] at he
  rcases he with rfl | rfl | rfl | rfl | rfl | rfl | rfl | rfl | rfl | rfl | rfl | rfl | rfl | rfl | rfl | rfl | rfl | rfl | rfl | rfl | rfl | rfl | rfl | rfl | rfl | rfl | rfl | rfl | rfl | rfl | rfl | rfl | rfl | rfl | rfl | rfl | rfl | rfl | rfl | rfl | rfl | rfl | rfl | rfl | rfl | rfl | rfl | rfl | rfl | rfl | rfl | rfl | rfl | rfl | rfl | rfl | rfl
  · show d13 0 0 = 1
    rw [z13]; rfl
  · show d13 0 1 = 4
    rw [z13]; rfl
  · show d13 0 2 = 7
    rw [z13]; rfl
  · show d13 0 3 = 10
    rw [z13]; rfl
  · show d13 0 4 = 13
    rw [z13]; rfl
  · show d13 0 5 = 16
    rw [z13]; rfl
  · show d13 0 6 = 19
    rw [z13]; rfl
  · show d13 0 7 = 22
    rw [z13]; rfl
  · show d13 0 8 = 25
    rw [z13]; rfl
  · show d13 0 9 = 28
    rw [z13]; rfl
  · show d13 0 10 = 35
    rw [z13]; rfl
  · show d13 0 11 = 42
    rw [z13]; rfl
  · exact g1.1
  · exact g1.2.1
  · exact g1.2.2.1
  · exact g2.1
  · exact g2.2.1
  · exact g2.2.2.1
  · exact g3.1
  · exact g3.2.1
  · exact g3.2.2.1
  · exact g4.1
  · exact g4.2.1
  · exact g4.2.2.1
  · exact g5.1
  · exact g5.2.1
  · exact g5.2.2.1
  · exact g6.1
  · exact g6.2.1
  · exact g6.2.2.1
  · exact g7.1
  · exact g7.2.1
  · exact g7.2.2.1
  · exact g8.1
  · exact g8.2.1
  · exact g8.2.2.1
  · exact g9.1
  · exact g9.2.1
  · exact g9.2.2.1
  · exact ga10.1
  · exact ga10.2.1
  · exact ga10.2.2.1
  · exact gb10.1
  · exact gb10.2.1
  · exact gb10.2.2.1
  · exact ga11.1
  · exact ga11.2.1
  · exact ga11.2.2.1
  · exact gb11.1
  · exact gb11.2.1
  · exact gb11.2.2.1
  · exact g10.1
  · exact g10.2.1
  · exact g10.2.2
  · exact g11.1
  · exact g11.2.1
  · exact g11.2.2
