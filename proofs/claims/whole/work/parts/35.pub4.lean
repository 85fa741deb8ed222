theorem whL_t {s : Nat → Int} {b i : Nat} {a1 a2 : Int} (ha : (a1, a2) = whL s b i) (h : a2 < syS (goN s i) b) : ((i : Int), syS (goN s i) b) = whL s b (i + 1) := by
  rw [whL, ← ha, if_pos h]
theorem whL_f {s : Nat → Int} {b i : Nat} {a1 a2 : Int} (ha : (a1, a2) = whL s b i) (h : syS (goN s i) b ≤ a2) : (a1, a2) = whL s b (i + 1) := by
  rw [whL, ← ha, if_neg (by show ¬ a2 < _; omega)]
theorem liL_t {s : Nat → Int} {b i : Nat} {a1 a2 : Int} (ha : (a1, a2) = liL s b i) (h : a2 < syS (upd1 s (13 + b) i) b) : ((i : Int), syS (upd1 s (13 + b) i) b) = liL s b (i + 1) := by
  rw [liL, ← ha, if_pos h]
theorem liL_f {s : Nat → Int} {b i : Nat} {a1 a2 : Int} (ha : (a1, a2) = liL s b i) (h : syS (upd1 s (13 + b) i) b ≤ a2) : (a1, a2) = liL s b (i + 1) := by
  rw [liL, ← ha, if_neg (by show ¬ a2 < _; omega)]
theorem wdL_t {s : Nat → Int} {b i : Nat} {y a1 a2 : Int} (ha : (a1, a2) = wdL s b y i) (h : syS (upd1 s (1 + b) (99 - (i : Int))) b = y) : (a1 + 1, 99 - (i : Int)) = wdL s b y (i + 1) := by
  rw [wdL, ← ha, if_pos h]
theorem wdL_f {s : Nat → Int} {b i : Nat} {y a1 a2 : Int} (ha : (a1, a2) = wdL s b y i) (h : ¬ syS (upd1 s (1 + b) (99 - (i : Int))) b = y) : (a1 + 0, a2) = wdL s b y (i + 1) := by
  rw [wdL, ← ha, if_neg h, Int.add_zero]
theorem odL_t {s : Nat → Int} {b i : Nat} {a1 a2 : Int} (ha : (a1, a2) = odL s b i) (h : arS (upd1 s (7 + b) (99 - (i : Int))) = true) : (a1 + 1, 99 - (i : Int)) = odL s b (i + 1) := by
  rw [odL, ← ha, if_pos h]
theorem odL_f {s : Nat → Int} {b i : Nat} {a1 a2 : Int} (ha : (a1, a2) = odL s b i) (h : arS (upd1 s (7 + b) (99 - (i : Int))) = false) : (a1 + 0, a2) = odL s b (i + 1) := by
  rw [odL, ← ha, if_neg (by rw [h]; decide), Int.add_zero]
theorem fiL_t {s : Nat → Int} {b i : Nat} {a1 a2 : Int} (ha : (a1, a2) = fiL s b i) (h : arS (upd1 s (43 + b) (9 - (i : Int))) = true) : (a1 + 1, 9 - (i : Int)) = fiL s b (i + 1) := by
  rw [fiL, ← ha, if_pos h]
theorem fiL_f {s : Nat → Int} {b i : Nat} {a1 a2 : Int} (ha : (a1, a2) = fiL s b i) (h : arS (upd1 s (43 + b) (9 - (i : Int))) = false) : (a1 + 0, a2) = fiL s b (i + 1) := by
  rw [fiL, ← ha, if_neg (by rw [h]; decide), Int.add_zero]
theorem whL_in {s : Nat → Int} {b : Nat} (hG : InvG s) (hb : b < 6) : ∀ i, (0 ≤ (whL s b i).1 ∧ (whL s b i).1 ≤ i) ∧ -1000000 ≤ (whL s b i).2 ∧ (whL s b i).2 ≤ 1000
  | 0 => ⟨⟨Int.le_refl _, Int.le_refl _⟩, by show (-1000000 : Int) ≤ -1000000; omega, by show (-1000000 : Int) ≤ 1000; omega⟩
  | i + 1 => by
    have h1 := whL_in hG hb i
    have h2 := (hG.goN i).bs hb
    rw [whL]
    split
    · exact ⟨⟨by show (0 : Int) ≤ i; omega, by show (i : Int) ≤ _; omega⟩, by show -1000000 ≤ syS _ _; omega, by show syS _ _ ≤ 1000; omega⟩
    · omega
theorem liL_in {s : Nat → Int} {b : Nat} (hG : InvG s) (hb : b < 6) : ∀ i : Nat, i ≤ 4 → (0 ≤ (liL s b i).1 ∧ (liL s b i).1 ≤ i) ∧ -1000000 ≤ (liL s b i).2 ∧ (liL s b i).2 ≤ 1000
  | 0, _ => ⟨⟨Int.le_refl _, Int.le_refl _⟩, by show (-1000000 : Int) ≤ -1000000; omega, by show (-1000000 : Int) ≤ 1000; omega⟩
  | i + 1, hi => by
    have h1 := liL_in hG hb i (by omega)
    have h2 := (hG.quarter hb (x := i) (by omega)).bs hb
    rw [liL]
    split
    · exact ⟨⟨by show (0 : Int) ≤ i; omega, by show (i : Int) ≤ _; omega⟩, by show -1000000 ≤ syS _ _; omega, by show syS _ _ ≤ 1000; omega⟩
    · omega
theorem upd1_self {s : Nat → Int} {k : Nat} : upd1 s k (s k) = s := by
  funext j
  unfold upd1
  split
  · next h => rw [h]
  · rfl
theorem upd1_upd1 {s : Nat → Int} {k : Nat} {x y : Int} : upd1 (upd1 s k x) k y = upd1 s k y := by
  funext j
  unfold upd1
  split <;> rfl
theorem td2 {x : Int} (h : -1000 ≤ x ∧ x ≤ 1000) : -1000 ≤ x.tdiv 2 ∧ x.tdiv 2 ≤ 1000 := by
  rcases Int.le_total 0 x with h1 | h1
  · rw [Int.tdiv_eq_ediv_of_nonneg h1]; omega
  · have e : (-x).tdiv 2 = -(x.tdiv 2) := Int.neg_tdiv _ _
    rw [Int.tdiv_eq_ediv_of_nonneg (by omega)] at e
    omega
set_option maxHeartbeats 4000000 in
set_option maxRecDepth 100000 in
theorem n_both {d : Nat} {h : Hp} {c : Nat → Nat → Int} {s : Nat → Int} (hL : Lay h) (hM : Mc c) (hs : c 44 = s) (hA : Inv s) {x : Int} (hx : inR x) {y : Int} (hy : inR y) {g : Int} (hg : inR g) : Ok (d + 6) 181 [(1, ((43 : Nat) : Int)), (0, x), (0, y), (0, g)] (wC h c) (fun r h2 => r = some (0, (f_both s x y g).1) ∧ ∃ c2, h2 = wC h c2 ∧ c2 44 = (f_both s x y g).2 ∧ Eqk PS c c2) := by
  show Ex _ none t_X11_both 0 0 _ [] (wC h c) _
  have hG := hA.G
  obtain ⟨hI, hH, ⟨⟨n29, n30, n31, n32, n33, n34, n36⟩, nM⟩, hX⟩ := hA
  refine E_load rfl rfl rfl ?_
  refine E_load rfl rfl rfl ?_
  refine E_V1 (q := 43) (c := 12) (y := 143) rfl rfl (hL.lt 43 rfl) (hL.k 43 rfl) rfl rfl rfl rfl (n_isBottle hL hM hs (by omega) (by omega)) (fun r h2 hq => ?_)
  obtain ⟨rfl, hh⟩ := hq
  subst hh
  refine E_if0 rfl (bI_R _) (fun q1 => ?_) (fun q1 => ?_)
  · replace q1 := bI_z q1
    refine E_const rfl ?_
    refine E_iret rfl (fun h => absurd h (by decide)) ?_
    refine mutl (s' := s) ?_ hs Eqk.nil
    unfold f_both
    try simp only [Int.toNat_natCast]
    first | (exfalso; omega) | (rw [if_pos (by omega)]; done) | (rw [if_neg (by omega), if_pos (by omega)]; done) | (rw [if_neg (by omega)]; done) | (rw [if_neg (by omega), if_neg (by omega), if_pos (by omega)]; done) | (rw [if_neg (by omega), if_neg (by omega)]; done) | (rw [if_neg (by omega), if_neg (by omega), if_neg (by omega), if_pos (by omega)]; done) | (rw [if_neg (by omega), if_neg (by omega), if_neg (by omega)]; done) | (rw [if_neg (by omega), if_neg (by omega), if_neg (by omega), if_neg (by omega), if_pos (by omega)]; done) | (rw [if_neg (by omega), if_neg (by omega), if_neg (by omega), if_neg (by omega)]; done) | (rw [if_neg (by omega), if_neg (by omega), if_neg (by omega), if_neg (by omega), if_neg (by omega), if_pos (by omega)]; done) | (rw [if_neg (by omega), if_neg (by omega), if_neg (by omega), if_neg (by omega), if_neg (by omega)]; done) | (rw [if_neg (by omega), if_neg (by omega), if_neg (by omega), if_neg (by omega), if_neg (by omega), if_neg (by omega), if_pos (by omega)]; done) | (rw [if_neg (by omega), if_neg (by omega), if_neg (by omega), if_neg (by omega), if_neg (by omega), if_neg (by omega)]; done)
  · replace q1 := bI_nz q1
    obtain ⟨b, rfl⟩ := Int.eq_ofNat_of_zero_le q1.1
    have iB := hI b (by omega)
    refine E_load rfl rfl rfl ?_
    refine E_load rfl rfl rfl ?_
    refine E_V1 (q := 43) (c := 12) (y := 143) rfl rfl (hL.lt 43 rfl) (hL.k 43 rfl) rfl rfl rfl rfl (n_isBottle hL hM hs (by omega) (by omega)) (fun r h2 hq => ?_)
    obtain ⟨rfl, hh⟩ := hq
    subst hh
    refine E_if0 rfl (bI_R _) (fun q2 => ?_) (fun q2 => ?_)
    · replace q2 := bI_z q2
      refine E_const rfl ?_
      refine E_iret rfl (fun h => absurd h (by decide)) ?_
      refine mutl (s' := s) ?_ hs Eqk.nil
      unfold f_both
      try simp only [Int.toNat_natCast]
      first | (exfalso; omega) | (rw [if_pos (by omega)]; done) | (rw [if_neg (by omega), if_pos (by omega)]; done) | (rw [if_neg (by omega)]; done) | (rw [if_neg (by omega), if_neg (by omega), if_pos (by omega)]; done) | (rw [if_neg (by omega), if_neg (by omega)]; done) | (rw [if_neg (by omega), if_neg (by omega), if_neg (by omega), if_pos (by omega)]; done) | (rw [if_neg (by omega), if_neg (by omega), if_neg (by omega)]; done) | (rw [if_neg (by omega), if_neg (by omega), if_neg (by omega), if_neg (by omega), if_pos (by omega)]; done) | (rw [if_neg (by omega), if_neg (by omega), if_neg (by omega), if_neg (by omega)]; done) | (rw [if_neg (by omega), if_neg (by omega), if_neg (by omega), if_neg (by omega), if_neg (by omega), if_pos (by omega)]; done) | (rw [if_neg (by omega), if_neg (by omega), if_neg (by omega), if_neg (by omega), if_neg (by omega)]; done) | (rw [if_neg (by omega), if_neg (by omega), if_neg (by omega), if_neg (by omega), if_neg (by omega), if_neg (by omega), if_pos (by omega)]; done) | (rw [if_neg (by omega), if_neg (by omega), if_neg (by omega), if_neg (by omega), if_neg (by omega), if_neg (by omega)]; done)
    · replace q2 := bI_nz q2
      obtain ⟨b2, rfl⟩ := Int.eq_ofNat_of_zero_le q2.1
      have iB2 := hI b2 (by omega)
      refine E_load rfl rfl rfl ?_
      refine E_load rfl rfl rfl ?_
      refine E_V1 (q := 43) (c := 12) (y := 144) rfl rfl (hL.lt 43 rfl) (hL.k 43 rfl) rfl rfl rfl rfl (n_isGuest hL hM hs (by omega) (by omega)) (fun r h2 hq => ?_)
      obtain ⟨rfl, hh⟩ := hq
      subst hh
      refine E_if1 rfl (bI_R _) (fun q3 => ?_) (fun q3 => ?_)
      · replace q3 := bI_nz q3
        obtain ⟨j, rfl⟩ := Int.eq_ofNat_of_zero_le q3.1
        refine E_load rfl rfl rfl ?_
        refine E_load rfl rfl rfl ?_
        refine E_cmp1 rfl (by omega) (fun q4 => ?_) (fun q4 => ?_)
        · refine E_load rfl rfl rfl ?_
          refine E_getr (c := 12) (r := 44) rfl (hL.lt 43 rfl) (hL.k 43 rfl) rfl hM.c1 ?_
          refine E_const rfl ?_
          refine E_load rfl rfl rfl ?_
          refine E_add rfl ?_
          refine E_ialn (n := 943) (v := (s ((19 + b)))) rfl (hL.lt 44 rfl) (hL.k 44 rfl) (hL.l 44 rfl) (by omega) (rdS hs (by omega)) ?_
          refine E_load rfl rfl rfl ?_
          refine E_getr (c := 12) (r := 44) rfl (hL.lt 43 rfl) (hL.k 43 rfl) rfl hM.c1 ?_
          refine E_const rfl ?_
          refine E_load rfl rfl rfl ?_
          refine E_add rfl ?_
          refine E_ialn (n := 943) (v := (s ((19 + b2)))) rfl (hL.lt 44 rfl) (hL.k 44 rfl) (hL.l 44 rfl) (by omega) (rdS hs (by omega)) ?_
          refine E_add rfl ?_
          refine E_if5 rfl (by omega) (fun q5 => ?_) (fun q5 => ?_)
          · have y1 := hG.bs (b := b) (by omega)
            have y2 := hG.bs (b := b2) (by omega)
            have y5 := td2 (x := syS s b + syS s b2) (by omega)
            refine E_load rfl rfl rfl ?_
            refine E_load rfl rfl rfl ?_
            refine E_load rfl rfl rfl ?_
            refine E_load rfl rfl rfl ?_
            refine E_V1 (q := 43) (c := 12) (y := 167) rfl rfl (hL.lt 43 rfl) (hL.k 43 rfl) rfl rfl rfl rfl (n_saysOf hL hM hs (by omega) hI hH) (fun r h2 hq => ?_)
            obtain ⟨rfl, c_1, hh, hE0_1⟩ := hq
            subst hh
            have hE_1 : Eqk PS c c_1 := hE0_1.mono P47_PS
            have hM_1 : Mc c_1 := hM.of (hE0_1.row 43 (fun _ => rfl))
            have hs_1 : c_1 44 = s := (hE0_1.row 44 (fun _ => rfl)).trans hs
            refine E_load rfl rfl rfl ?_
            refine E_load rfl rfl rfl ?_
            refine E_V1 (q := 43) (c := 12) (y := 167) rfl rfl (hL.lt 43 rfl) (hL.k 43 rfl) rfl rfl rfl rfl (n_saysOf hL hM_1 hs_1 (by omega) hI hH) (fun r h2 hq => ?_)
            obtain ⟨rfl, c_2, hh, hE0_2⟩ := hq
            subst hh
            have hE_2 : Eqk PS c_1 c_2 := hE0_2.mono P47_PS
            have hM_2 : Mc c_2 := hM_1.of (hE0_2.row 43 (fun _ => rfl))
            have hs_2 : c_2 44 = s := (hE0_2.row 44 (fun _ => rfl)).trans hs_1
            refine E_add rfl ?_
            refine E_const rfl ?_
            refine E_div rfl (by omega) (by omega) (by omega) ?_
            refine E_V2 (q := 43) (c := 12) (y := 178) rfl rfl (hL.lt 43 rfl) (hL.k 43 rfl) rfl rfl rfl rfl (n_brings hL hM_2 hs_2 hG (by omega) y5) (fun r h2 hq => ?_)
            obtain ⟨rfl, c_3, hh, hs_3, hE0_3⟩ := hq
            subst hh
            have hE_3 : Eqk PS c_2 c_3 := hE0_3.mono P44_PS
            have hM_3 : Mc c_3 := hM_2.of (hE0_3.row 43 (fun _ => rfl))
            refine E_load rfl rfl rfl ?_
            refine E_getr (c := 12) (r := 44) rfl (hL.lt 43 rfl) (hL.k 43 rfl) rfl hM_3.c1 ?_
            refine E_const rfl ?_
            refine E_load rfl rfl rfl ?_
            refine E_add rfl ?_
            refine E_const rfl ?_
            refine E_iasg (n := 943) (j := (19 + b)) rfl (hL.lt 44 rfl) (hL.k 44 rfl) (hL.l 44 rfl) (by omega) (by omega) (fun c_4 hc_4 => ?_)
            have hE_4 : Eqk PS c_3 c_4 := by rw [hc_4]; exact Eqk.up rfl
            have hM_4 : Mc c_4 := by rw [hc_4]; exact hM_3.upo rfl
            have hs_4 : c_4 44 = upd1 (brS s j ((syS s b + syS s b2).tdiv 2)) (19 + b) 1 := by rw [hc_4]; exact up2_rowS hs_3
            refine E_load rfl rfl rfl ?_
            refine E_getr (c := 12) (r := 44) rfl (hL.lt 43 rfl) (hL.k 43 rfl) rfl hM_4.c1 ?_
            refine E_const rfl ?_
            refine E_load rfl rfl rfl ?_
            refine E_add rfl ?_
            refine E_const rfl ?_
            refine E_iasg (n := 943) (j := (19 + b2)) rfl (hL.lt 44 rfl) (hL.k 44 rfl) (hL.l 44 rfl) (by omega) (by omega) (fun c_5 hc_5 => ?_)
            have hE_5 : Eqk PS c_4 c_5 := by rw [hc_5]; exact Eqk.up rfl
            have hM_5 : Mc c_5 := by rw [hc_5]; exact hM_4.upo rfl
            have hs_5 : c_5 44 = upd1 (upd1 (brS s j ((syS s b + syS s b2).tdiv 2)) (19 + b) 1) (19 + b2) 1 := by rw [hc_5]; exact up2_rowS hs_4
            refine E_load rfl rfl rfl ?_
            refine E_getr (c := 12) (r := 44) rfl (hL.lt 43 rfl) (hL.k 43 rfl) rfl hM_5.c1 ?_
            refine E_const rfl ?_
            refine E_load rfl rfl rfl ?_
            refine E_add rfl ?_
            refine E_ialn (n := 943) (v := ((brS s j ((syS s b + syS s b2).tdiv 2)) ((25 + j)))) rfl (hL.lt 44 rfl) (hL.k 44 rfl) (hL.l 44 rfl) (by omega) (((rdS hs_5 (by omega)).trans (upd1_ne (by omega))).trans (upd1_ne (by omega))) ?_
            refine E_iret rfl (fun h => absurd h (by decide)) ?_
            refine mutl (s' := upd1 (upd1 (brS s j ((syS s b + syS s b2).tdiv 2)) (19 + b) 1) (19 + b2) 1) ?_ hs_5 (hE_1.trans (hE_2.trans (hE_3.trans (hE_4.trans hE_5))))
            unfold f_both
            try simp only [Int.toNat_natCast]
            first | (exfalso; omega) | (rw [if_pos (by omega)]; done) | (rw [if_neg (by omega), if_pos (by omega)]; done) | (rw [if_neg (by omega)]; done) | (rw [if_neg (by omega), if_neg (by omega), if_pos (by omega)]; done) | (rw [if_neg (by omega), if_neg (by omega)]; done) | (rw [if_neg (by omega), if_neg (by omega), if_neg (by omega), if_pos (by omega)]; done) | (rw [if_neg (by omega), if_neg (by omega), if_neg (by omega)]; done) | (rw [if_neg (by omega), if_neg (by omega), if_neg (by omega), if_neg (by omega), if_pos (by omega)]; done) | (rw [if_neg (by omega), if_neg (by omega), if_neg (by omega), if_neg (by omega)]; done) | (rw [if_neg (by omega), if_neg (by omega), if_neg (by omega), if_neg (by omega), if_neg (by omega), if_pos (by omega)]; done) | (rw [if_neg (by omega), if_neg (by omega), if_neg (by omega), if_neg (by omega), if_neg (by omega)]; done) | (rw [if_neg (by omega), if_neg (by omega), if_neg (by omega), if_neg (by omega), if_neg (by omega), if_neg (by omega), if_pos (by omega)]; done) | (rw [if_neg (by omega), if_neg (by omega), if_neg (by omega), if_neg (by omega), if_neg (by omega), if_neg (by omega)]; done)
          · refine E_const rfl ?_
            refine E_iret rfl (fun h => absurd h (by decide)) ?_
            refine mutl (s' := s) ?_ hs Eqk.nil
            unfold f_both
            try simp only [Int.toNat_natCast]
            first | (exfalso; omega) | (rw [if_pos (by omega)]; done) | (rw [if_neg (by omega), if_pos (by omega)]; done) | (rw [if_neg (by omega)]; done) | (rw [if_neg (by omega), if_neg (by omega), if_pos (by omega)]; done) | (rw [if_neg (by omega), if_neg (by omega)]; done) | (rw [if_neg (by omega), if_neg (by omega), if_neg (by omega), if_pos (by omega)]; done) | (rw [if_neg (by omega), if_neg (by omega), if_neg (by omega)]; done) | (rw [if_neg (by omega), if_neg (by omega), if_neg (by omega), if_neg (by omega), if_pos (by omega)]; done) | (rw [if_neg (by omega), if_neg (by omega), if_neg (by omega), if_neg (by omega)]; done) | (rw [if_neg (by omega), if_neg (by omega), if_neg (by omega), if_neg (by omega), if_neg (by omega), if_pos (by omega)]; done) | (rw [if_neg (by omega), if_neg (by omega), if_neg (by omega), if_neg (by omega), if_neg (by omega)]; done) | (rw [if_neg (by omega), if_neg (by omega), if_neg (by omega), if_neg (by omega), if_neg (by omega), if_neg (by omega), if_pos (by omega)]; done) | (rw [if_neg (by omega), if_neg (by omega), if_neg (by omega), if_neg (by omega), if_neg (by omega), if_neg (by omega)]; done)
        · refine E_const rfl ?_
          refine E_iret rfl (fun h => absurd h (by decide)) ?_
          refine mutl (s' := s) ?_ hs Eqk.nil
          unfold f_both
          try simp only [Int.toNat_natCast]
          first | (exfalso; omega) | (rw [if_pos (by omega)]; done) | (rw [if_neg (by omega), if_pos (by omega)]; done) | (rw [if_neg (by omega)]; done) | (rw [if_neg (by omega), if_neg (by omega), if_pos (by omega)]; done) | (rw [if_neg (by omega), if_neg (by omega)]; done) | (rw [if_neg (by omega), if_neg (by omega), if_neg (by omega), if_pos (by omega)]; done) | (rw [if_neg (by omega), if_neg (by omega), if_neg (by omega)]; done) | (rw [if_neg (by omega), if_neg (by omega), if_neg (by omega), if_neg (by omega), if_pos (by omega)]; done) | (rw [if_neg (by omega), if_neg (by omega), if_neg (by omega), if_neg (by omega)]; done) | (rw [if_neg (by omega), if_neg (by omega), if_neg (by omega), if_neg (by omega), if_neg (by omega), if_pos (by omega)]; done) | (rw [if_neg (by omega), if_neg (by omega), if_neg (by omega), if_neg (by omega), if_neg (by omega)]; done) | (rw [if_neg (by omega), if_neg (by omega), if_neg (by omega), if_neg (by omega), if_neg (by omega), if_neg (by omega), if_pos (by omega)]; done) | (rw [if_neg (by omega), if_neg (by omega), if_neg (by omega), if_neg (by omega), if_neg (by omega), if_neg (by omega)]; done)
      · replace q3 := bI_z q3
        refine E_const rfl ?_
        refine E_iret rfl (fun h => absurd h (by decide)) ?_
        refine mutl (s' := s) ?_ hs Eqk.nil
        unfold f_both
        try simp only [Int.toNat_natCast]
        first | (exfalso; omega) | (rw [if_pos (by omega)]; done) | (rw [if_neg (by omega), if_pos (by omega)]; done) | (rw [if_neg (by omega)]; done) | (rw [if_neg (by omega), if_neg (by omega), if_pos (by omega)]; done) | (rw [if_neg (by omega), if_neg (by omega)]; done) | (rw [if_neg (by omega), if_neg (by omega), if_neg (by omega), if_pos (by omega)]; done) | (rw [if_neg (by omega), if_neg (by omega), if_neg (by omega)]; done) | (rw [if_neg (by omega), if_neg (by omega), if_neg (by omega), if_neg (by omega), if_pos (by omega)]; done) | (rw [if_neg (by omega), if_neg (by omega), if_neg (by omega), if_neg (by omega)]; done) | (rw [if_neg (by omega), if_neg (by omega), if_neg (by omega), if_neg (by omega), if_neg (by omega), if_pos (by omega)]; done) | (rw [if_neg (by omega), if_neg (by omega), if_neg (by omega), if_neg (by omega), if_neg (by omega)]; done) | (rw [if_neg (by omega), if_neg (by omega), if_neg (by omega), if_neg (by omega), if_neg (by omega), if_neg (by omega), if_pos (by omega)]; done) | (rw [if_neg (by omega), if_neg (by omega), if_neg (by omega), if_neg (by omega), if_neg (by omega), if_neg (by omega)]; done)
set_option maxHeartbeats 4000000 in
set_option maxRecDepth 100000 in
theorem l_when {d : Nat} {h : Hp} {s : Nat → Int} (hL : Lay h) (hG : InvG s) {b : Nat} (hb : b < 6) {w : Int} (hw : inR w) {f46 : Nat → Int} (h46 : ∀ k, k < 29 → f46 k = s k) : ∀ (n i : Nat), i + n = 61 → ∀ (a1 a2 : Int) (v6 : AV), (a1, a2) = whL s b i → ∀ c, Mc c → c 44 = goN s i → c 46 = f46 → Ex (d + 6) none t_X11_when 0 34 [(1, ((43 : Nat) : Int)), (0, (b : Int)), (0, w), (0, a1), (0, a2), (0, (i : Int)), v6] [] (wC h c) (fun r h2 => r = some (0, if w = 0 then (whL s b 61).1 else (whL s b 61).2) ∧ ∃ c2, h2 = wC h c2 ∧ c2 44 = s ∧ Eqk PS c c2) := by
  intro n
  induction n with
  | zero =>
    intro i hi a1 a2 v6 ha c hM hs h46c
    have hGi := hG.goN i
    have hbs := hGi.bs hb
    have hin := whL_in hG hb i
    rw [← ha] at hin
    simp only at hin
    refine E_load rfl rfl rfl ?_
    refine E_const rfl ?_
    refine E_cmp4 rfl (by omega) (fun q1 => ?_) (fun q1 => ?_)
    · refine E_load rfl rfl rfl ?_
      refine E_V0 (q := 43) (c := 12) (y := 148) rfl rfl (hL.lt 43 rfl) (hL.k 43 rfl) rfl rfl rfl rfl (n_goesBack (s0 := s) hL hM hs (fun k hk => by rw [h46c]; exact h46 k hk) (fun k hk => goN_hi hG hk _)) (fun r h2 hq => ?_)
      obtain ⟨rfl, c_1, hh, hs_1, hE0_1⟩ := hq
      subst hh
      have hE_1 : Eqk PS c c_1 := hE0_1.mono P44_PS
      have hM_1 : Mc c_1 := hM.of (hE0_1.row 43 (fun _ => rfl))
      have hr46_1 : c_1 46 = f46 := (hE0_1.row 46 (fun _ => rfl)).trans h46c
      refine E_load rfl rfl rfl ?_
      refine E_if1 rfl (by omega) (fun q2 => ?_) (fun q2 => ?_)
      · refine E_load rfl rfl rfl ?_
        refine E_iret rfl (fun h => absurd h (by decide)) ?_
        exact ⟨by rw [if_neg (by omega)]; rw [show i = 61 by omega] at ha; exact congrArg (fun z : Int × Int => some (((0 : Nat), z.2) : AV)) ha, c_1, rfl, hs_1, hE_1⟩
      · refine E_load rfl rfl rfl ?_
        refine E_goto rfl ?_
        refine E_iret rfl (fun h => absurd h (by decide)) ?_
        exact ⟨by rw [if_pos (by omega)]; rw [show i = 61 by omega] at ha; exact congrArg (fun z : Int × Int => some (((0 : Nat), z.1) : AV)) ha, c_1, rfl, hs_1, hE_1⟩
    · exfalso; omega
  | succ n ih =>
    intro i hi a1 a2 v6 ha c hM hs h46c
    have hGi := hG.goN i
    have hbs := hGi.bs hb
    have hin := whL_in hG hb i
    rw [← ha] at hin
    simp only at hin
    refine E_load rfl rfl rfl ?_
    refine E_const rfl ?_
    refine E_cmp4 rfl (by omega) (fun q1 => ?_) (fun q1 => ?_)
    · exfalso; omega
    · refine E_load rfl rfl rfl ?_
      refine E_load rfl rfl rfl ?_
      refine E_V1 (q := 43) (c := 12) (y := 167) rfl rfl (hL.lt 43 rfl) (hL.k 43 rfl) rfl rfl rfl rfl (n_saysOf hL hM hs hb hGi.1 hGi.2.1) (fun r h2 hq => ?_)
      obtain ⟨rfl, c_1, hh, hE0_1⟩ := hq
      subst hh
      have hE_1 : Eqk PS c c_1 := hE0_1.mono P47_PS
      have hM_1 : Mc c_1 := hM.of (hE0_1.row 43 (fun _ => rfl))
      have hs_1 : c_1 44 = goN s i := (hE0_1.row 44 (fun _ => rfl)).trans hs
      have hr46_1 : c_1 46 = f46 := (hE0_1.row 46 (fun _ => rfl)).trans h46c
      refine E_store rfl rfl rfl ?_
      refine E_load rfl rfl rfl ?_
      refine E_load rfl rfl rfl ?_
      refine E_cmp5 rfl (by omega) (fun q2 => ?_) (fun q2 => ?_)
      · refine E_load rfl rfl rfl ?_
        refine E_store rfl rfl rfl ?_
        refine E_load rfl rfl rfl ?_
        refine E_load rfl rfl rfl ?_
        refine E_cmp5 rfl (by omega) (fun q3 => ?_) (fun q3 => ?_)
        · refine E_load rfl rfl rfl ?_
          refine E_store rfl rfl rfl ?_
          refine E_load rfl rfl rfl ?_
          refine E_V0 (q := 43) (c := 12) (y := 182) rfl rfl (hL.lt 43 rfl) (hL.k 43 rfl) rfl rfl rfl rfl (n_goes hL hM_1 hs_1 hGi) (fun r h2 hq => ?_)
          obtain ⟨rfl, c_2, hh, hs_2, hE0_2⟩ := hq
          subst hh
          have hE_2 : Eqk PS c_1 c_2 := hE0_2.mono P44_PS
          have hM_2 : Mc c_2 := hM_1.of (hE0_2.row 43 (fun _ => rfl))
          have hr46_2 : c_2 46 = f46 := (hE0_2.row 46 (fun _ => rfl)).trans hr46_1
          refine E_iinc rfl rfl rfl ?_
          refine E_goto rfl ?_
          refine (ih (i + 1) (by omega) _ _ _ (whL_f ha (by omega)) c_2 hM_2 hs_2 hr46_2).mono ?_
          rintro r hE ⟨e1, c9, e2, e4, e3⟩
          exact ⟨e1, c9, e2, e4, Eqk.trans (hE_1.trans hE_2) e3⟩
        · refine E_load rfl rfl rfl ?_
          refine E_goto rfl ?_
          refine E_store rfl rfl rfl ?_
          refine E_load rfl rfl rfl ?_
          refine E_V0 (q := 43) (c := 12) (y := 182) rfl rfl (hL.lt 43 rfl) (hL.k 43 rfl) rfl rfl rfl rfl (n_goes hL hM_1 hs_1 hGi) (fun r h2 hq => ?_)
          obtain ⟨rfl, c_3, hh, hs_3, hE0_3⟩ := hq
          subst hh
          have hE_3 : Eqk PS c_1 c_3 := hE0_3.mono P44_PS
          have hM_3 : Mc c_3 := hM_1.of (hE0_3.row 43 (fun _ => rfl))
          have hr46_3 : c_3 46 = f46 := (hE0_3.row 46 (fun _ => rfl)).trans hr46_1
          refine E_iinc rfl rfl rfl ?_
          refine E_goto rfl ?_
          exfalso; omega
      · refine E_load rfl rfl rfl ?_
        refine E_goto rfl ?_
        refine E_store rfl rfl rfl ?_
        refine E_load rfl rfl rfl ?_
        refine E_load rfl rfl rfl ?_
        refine E_cmp5 rfl (by omega) (fun q4 => ?_) (fun q4 => ?_)
        · refine E_load rfl rfl rfl ?_
          refine E_store rfl rfl rfl ?_
          refine E_load rfl rfl rfl ?_
          refine E_V0 (q := 43) (c := 12) (y := 182) rfl rfl (hL.lt 43 rfl) (hL.k 43 rfl) rfl rfl rfl rfl (n_goes hL hM_1 hs_1 hGi) (fun r h2 hq => ?_)
          obtain ⟨rfl, c_4, hh, hs_4, hE0_4⟩ := hq
          subst hh
          have hE_4 : Eqk PS c_1 c_4 := hE0_4.mono P44_PS
          have hM_4 : Mc c_4 := hM_1.of (hE0_4.row 43 (fun _ => rfl))
          have hr46_4 : c_4 46 = f46 := (hE0_4.row 46 (fun _ => rfl)).trans hr46_1
          refine E_iinc rfl rfl rfl ?_
          refine E_goto rfl ?_
          exfalso; omega
        · refine E_load rfl rfl rfl ?_
          refine E_goto rfl ?_
          refine E_store rfl rfl rfl ?_
          refine E_load rfl rfl rfl ?_
          refine E_V0 (q := 43) (c := 12) (y := 182) rfl rfl (hL.lt 43 rfl) (hL.k 43 rfl) rfl rfl rfl rfl (n_goes hL hM_1 hs_1 hGi) (fun r h2 hq => ?_)
          obtain ⟨rfl, c_5, hh, hs_5, hE0_5⟩ := hq
          subst hh
          have hE_5 : Eqk PS c_1 c_5 := hE0_5.mono P44_PS
          have hM_5 : Mc c_5 := hM_1.of (hE0_5.row 43 (fun _ => rfl))
          have hr46_5 : c_5 46 = f46 := (hE0_5.row 46 (fun _ => rfl)).trans hr46_1
          refine E_iinc rfl rfl rfl ?_
          refine E_goto rfl ?_
          refine (ih (i + 1) (by omega) _ _ _ (whL_t ha (by omega)) c_5 hM_5 hs_5 hr46_5).mono ?_
          rintro r hE ⟨e1, c9, e2, e4, e3⟩
          exact ⟨e1, c9, e2, e4, Eqk.trans (hE_1.trans hE_5) e3⟩
set_option maxHeartbeats 4000000 in
set_option maxRecDepth 100000 in
theorem n_when {d : Nat} {h : Hp} {c : Nat → Nat → Int} {s : Nat → Int} (hL : Lay h) (hM : Mc c) (hs : c 44 = s) (hA : Inv s) {x : Int} (hx : inR x) {w : Int} (hw : inR w) : Ok (d + 6) 186 [(1, ((43 : Nat) : Int)), (0, x), (0, w)] (wC h c) (fun r h2 => r = some (0, a_when s x w) ∧ ∃ c2, h2 = wC h c2 ∧ Eqk PQ c c2) := by
  show Ex _ none t_X11_when 0 0 _ [] (wC h c) _
  have hG := hA.G
  obtain ⟨hI, hH, ⟨⟨n29, n30, n31, n32, n33, n34, n36⟩, nM⟩, hX⟩ := hA
  refine E_load rfl rfl rfl ?_
  refine E_load rfl rfl rfl ?_
  refine E_V1 (q := 43) (c := 12) (y := 143) rfl rfl (hL.lt 43 rfl) (hL.k 43 rfl) rfl rfl rfl rfl (n_isBottle hL hM hs (by omega) (by omega)) (fun r h2 hq => ?_)
  obtain ⟨rfl, hh⟩ := hq
  subst hh
  refine E_if0 rfl (bI_R _) (fun q1 => ?_) (fun q1 => ?_)
  · replace q1 := bI_z q1
    refine E_const rfl ?_
    refine E_iret rfl (fun h => absurd h (by decide)) ?_
    refine qryl ?_ (Eqk.PQ_of Eqk.nil (hs.trans hs.symm))
    unfold a_when
    try simp only [Int.toNat_natCast]
    first | (exfalso; omega) | (rw [if_pos (by omega)]; done) | (rw [if_neg (by omega), if_pos (by omega)]; done) | (rw [if_neg (by omega)]; done) | (rw [if_neg (by omega), if_neg (by omega), if_pos (by omega)]; done) | (rw [if_neg (by omega), if_neg (by omega)]; done) | (rw [if_neg (by omega), if_neg (by omega), if_neg (by omega), if_pos (by omega)]; done) | (rw [if_neg (by omega), if_neg (by omega), if_neg (by omega)]; done) | (rw [if_neg (by omega), if_neg (by omega), if_neg (by omega), if_neg (by omega), if_pos (by omega)]; done) | (rw [if_neg (by omega), if_neg (by omega), if_neg (by omega), if_neg (by omega)]; done) | (rw [if_neg (by omega), if_neg (by omega), if_neg (by omega), if_neg (by omega), if_neg (by omega), if_pos (by omega)]; done) | (rw [if_neg (by omega), if_neg (by omega), if_neg (by omega), if_neg (by omega), if_neg (by omega)]; done) | (rw [if_neg (by omega), if_neg (by omega), if_neg (by omega), if_neg (by omega), if_neg (by omega), if_neg (by omega), if_pos (by omega)]; done) | (rw [if_neg (by omega), if_neg (by omega), if_neg (by omega), if_neg (by omega), if_neg (by omega), if_neg (by omega)]; done)
  · replace q1 := bI_nz q1
    obtain ⟨b, rfl⟩ := Int.eq_ofNat_of_zero_le q1.1
    have iB := hI b (by omega)
    refine E_load rfl rfl rfl ?_
    refine E_const rfl ?_
    refine E_const rfl ?_
    refine E_S3 (y := 139) rfl rfl rfl rfl rfl (m_in (by omega) (by omega) (by omega)) (fun r h2 hq => ?_)
    obtain ⟨rfl, hh⟩ := hq
    subst hh
    refine E_if1 rfl (bI_R _) (fun q2 => ?_) (fun q2 => ?_)
    · replace q2 := bI_nz q2
      refine E_load rfl rfl rfl ?_
      refine E_V0 (q := 43) (c := 12) (y := 147) rfl rfl (hL.lt 43 rfl) (hL.k 43 rfl) rfl rfl rfl rfl (n_keeps hL hM hs) (fun r h2 hq => ?_)
      obtain ⟨rfl, c_1, hh, h46_1, hE0_1⟩ := hq
      subst hh
      have hE_1 : Eqk PS c c_1 := hE0_1.mono P46_PS
      have hM_1 : Mc c_1 := hM.of (hE0_1.row 43 (fun _ => rfl))
      have hs_1 : c_1 44 = s := (hE0_1.row 44 (fun _ => rfl)).trans hs
      obtain ⟨f46, hr46_1⟩ : ∃ f, c_1 46 = f := ⟨_, rfl⟩
      have h46 : ∀ k, k < 29 → f46 k = s k := fun k hk => by rw [← hr46_1]; exact h46_1 k hk
      refine E_const rfl ?_
      refine E_store rfl rfl rfl ?_
      refine E_const rfl ?_
      refine E_store rfl rfl rfl ?_
      refine E_const rfl ?_
      refine E_store rfl rfl rfl ?_
      refine (l_when hL hG (by omega) hw h46 61 0 rfl _ _ _ rfl c_1 hM_1 hs_1 hr46_1).mono ?_
      rintro r hE ⟨rfl, c9, rfl, e4, e3⟩
      refine qryl ?_ (Eqk.PQ_of (Eqk.trans hE_1 e3) (e4.trans hs.symm))
      unfold a_when
      rw [if_neg (by omega)]
      rfl
    · replace q2 := bI_z q2
      refine E_const rfl ?_
      refine E_iret rfl (fun h => absurd h (by decide)) ?_
      refine qryl ?_ (Eqk.PQ_of Eqk.nil (hs.trans hs.symm))
      unfold a_when
      try simp only [Int.toNat_natCast]
      first | (exfalso; omega) | (rw [if_pos (by omega)]; done) | (rw [if_neg (by omega), if_pos (by omega)]; done) | (rw [if_neg (by omega)]; done) | (rw [if_neg (by omega), if_neg (by omega), if_pos (by omega)]; done) | (rw [if_neg (by omega), if_neg (by omega)]; done) | (rw [if_neg (by omega), if_neg (by omega), if_neg (by omega), if_pos (by omega)]; done) | (rw [if_neg (by omega), if_neg (by omega), if_neg (by omega)]; done) | (rw [if_neg (by omega), if_neg (by omega), if_neg (by omega), if_neg (by omega), if_pos (by omega)]; done) | (rw [if_neg (by omega), if_neg (by omega), if_neg (by omega), if_neg (by omega)]; done) | (rw [if_neg (by omega), if_neg (by omega), if_neg (by omega), if_neg (by omega), if_neg (by omega), if_pos (by omega)]; done) | (rw [if_neg (by omega), if_neg (by omega), if_neg (by omega), if_neg (by omega), if_neg (by omega)]; done) | (rw [if_neg (by omega), if_neg (by omega), if_neg (by omega), if_neg (by omega), if_neg (by omega), if_neg (by omega), if_pos (by omega)]; done) | (rw [if_neg (by omega), if_neg (by omega), if_neg (by omega), if_neg (by omega), if_neg (by omega), if_neg (by omega)]; done)
theorem wI_low {x : Int} (h1 : -2147483678 ≤ x) (h2 : x < -2147483648) : wI x = x + 4294967296 := by
  have e : Int32.ofInt x = Int32.ofInt (x + 4294967296) := by
    rw [Int32.ofInt_add, show Int32.ofInt 4294967296 = 0 from by decide, Int32.add_zero]
  unfold wI
  rw [e]
  exact Int32.toInt_ofInt_of_le (by omega) (by omega)
theorem m_inW {d : Nat} {v hi : Int} {h : Hp} (h1 : -2147483678 ≤ v ∧ v < 2147483648) (h3 : -100 ≤ hi ∧ hi ≤ 100) : Ok (d) 139 [(0, v), (0, 0), (0, hi)] h (fun r h2 => r = some (0, bI (0 ≤ v ∧ v ≤ hi)) ∧ h2 = h) := by
  by_cases hv : -2147483648 ≤ v
  · exact m_in (by omega) (by omega) (by omega)
  · have e := wI_low h1.1 (by omega)
    have e0 : wI 0 = 0 := wI_id (by omega)
    have e1 : wI hi = hi := wI_id (by omega)
    show Ex _ none t_X11_in 3 0 _ [] _ _
    refine E_load rfl rfl rfl ?_
    refine E_load rfl rfl rfl ?_
    refine E_cmpw (o := 2) rfl rfl rfl (fun c1 => ?_) (fun c1 => ?_)
    · have := mCmp_2.1.mp c1
      omega
    · refine E_load rfl rfl rfl ?_
      refine E_load rfl rfl rfl ?_
      refine E_cmpw (o := 4) rfl rfl rfl (fun c2 => ?_) (fun c2 => ?_)
      · refine E_const rfl ?_
        refine E_iret rfl (fun _ => by decide) ?_
        exact ⟨by rw [bI_f (by omega)], rfl⟩
      · have := mCmp_4.2.mp c2
        omega
theorem n_isBottleW {d : Nat} {h : Hp} {c : Nat → Nat → Int} {s : Nat → Int} (hL : Lay h) (hM : Mc c) (hs : c 44 = s) {x : Int} (h1 : -2147483678 ≤ x ∧ x < 2147483648) (hb : 0 ≤ s 29 ∧ s 29 ≤ 100) : Ok (d + 1) 143 [(1, ((43 : Nat) : Int)), (0, x)] (wC h c) (fun r h2 => r = some (0, bI (0 ≤ x ∧ x < s 29)) ∧ h2 = wC h c) := by
  show Ex _ none t_X11_isBottle 3 0 _ [] _ _
  refine E_load rfl rfl rfl ?_
  refine E_const rfl ?_
  refine E_load rfl rfl rfl ?_
  refine E_getr (c := 12) (r := 44) rfl (hL.lt 43 rfl) (hL.k 43 rfl) rfl hM.c1 ?_
  refine E_const rfl ?_
  refine E_ialn (n := 943) (v := (s 29)) rfl (hL.lt 44 rfl) (hL.k 44 rfl) (hL.l 44 rfl) (by omega) (rdS hs (by omega)) ?_
  refine E_const rfl ?_
  refine E_sub rfl ?_
  refine E_S3 (y := 139) rfl rfl rfl rfl rfl (m_inW h1 (by omega)) (fun r h2 hq => ?_)
  obtain ⟨rfl, hh⟩ := hq
  subst hh
  refine E_iret rfl (fun _ => bI_01 _) ?_
  exact ⟨by congr 2; exact bI_c ⟨fun q => by omega, fun q => by omega⟩, rfl⟩
theorem n_isGuestW {d : Nat} {h : Hp} {c : Nat → Nat → Int} {s : Nat → Int} (hL : Lay h) (hM : Mc c) (hs : c 44 = s) {x : Int} (h1 : -2147483678 ≤ x ∧ x < 2147483648) (hb : 0 ≤ s 36 ∧ s 36 ≤ 100) : Ok (d + 1) 144 [(1, ((43 : Nat) : Int)), (0, x)] (wC h c) (fun r h2 => r = some (0, bI (0 ≤ x ∧ x < s 36)) ∧ h2 = wC h c) := by
  show Ex _ none t_X11_isGuest 3 0 _ [] _ _
  refine E_load rfl rfl rfl ?_
  refine E_const rfl ?_
  refine E_load rfl rfl rfl ?_
  refine E_getr (c := 12) (r := 44) rfl (hL.lt 43 rfl) (hL.k 43 rfl) rfl hM.c1 ?_
  refine E_const rfl ?_
  refine E_ialn (n := 943) (v := (s 36)) rfl (hL.lt 44 rfl) (hL.k 44 rfl) (hL.l 44 rfl) (by omega) (rdS hs (by omega)) ?_
  refine E_const rfl ?_
  refine E_sub rfl ?_
  refine E_S3 (y := 139) rfl rfl rfl rfl rfl (m_inW h1 (by omega)) (fun r h2 hq => ?_)
  obtain ⟨rfl, hh⟩ := hq
  subst hh
  refine E_iret rfl (fun _ => bI_01 _) ?_
  exact ⟨by congr 2; exact bI_c ⟨fun q => by omega, fun q => by omega⟩, rfl⟩
set_option maxHeartbeats 4000000 in
set_option maxRecDepth 100000 in
theorem n_on {d : Nat} {h : Hp} {c : Nat → Nat → Int} {s : Nat → Int} (hL : Lay h) (hM : Mc c) (hs : c 44 = s) (hA : Inv s) {n : Int} (hn : inR n) {w : Int} (hw : inR w) : Ok (d + 6) 185 [(1, ((43 : Nat) : Int)), (0, n), (0, w)] (wC h c) (fun r h2 => r = some (0, a_on s n w) ∧ ∃ c2, h2 = wC h c2 ∧ Eqk PQ c c2) := by
  show Ex _ none t_X11_on 0 0 _ [] (wC h c) _
  have hG := hA.G
  obtain ⟨hI, hH, ⟨⟨n29, n30, n31, n32, n33, n34, n36⟩, nM⟩, hX⟩ := hA
  refine E_load rfl rfl rfl ?_
  refine E_const rfl ?_
  refine E_const rfl ?_
  refine E_S3 (y := 139) rfl rfl rfl rfl rfl (m_in (by omega) (by omega) (by omega)) (fun r h2 hq => ?_)
  obtain ⟨rfl, hh⟩ := hq
  subst hh
  refine E_if1 rfl (bI_R _) (fun q1 => ?_) (fun q1 => ?_)
  · replace q1 := bI_nz q1
    refine E_load rfl rfl rfl ?_
    refine E_const rfl ?_
    refine E_const rfl ?_
    refine E_S3 (y := 139) rfl rfl rfl rfl rfl (m_in (by omega) (by omega) (by omega)) (fun r h2 hq => ?_)
    obtain ⟨rfl, hh⟩ := hq
    subst hh
    refine E_if1 rfl (bI_R _) (fun q2 => ?_) (fun q2 => ?_)
    · replace q2 := bI_nz q2
      obtain ⟨m, rfl⟩ := Int.eq_ofNat_of_zero_le q2.1
      have hG2 := hG.goN m
      refine E_load rfl rfl rfl ?_
      refine E_V0 (q := 43) (c := 12) (y := 147) rfl rfl (hL.lt 43 rfl) (hL.k 43 rfl) rfl rfl rfl rfl (n_keeps hL hM hs) (fun r h2 hq => ?_)
      obtain ⟨rfl, c_1, hh, h46_1, hE0_1⟩ := hq
      subst hh
      have hE_1 : Eqk PS c c_1 := hE0_1.mono P46_PS
      have hM_1 : Mc c_1 := hM.of (hE0_1.row 43 (fun _ => rfl))
      have hs_1 : c_1 44 = s := (hE0_1.row 44 (fun _ => rfl)).trans hs
      obtain ⟨f46, hr46_1⟩ : ∃ f, c_1 46 = f := ⟨_, rfl⟩
      have h46 : ∀ k, k < 29 → f46 k = s k := fun k hk => by rw [← hr46_1]; exact h46_1 k hk
      refine E_load rfl rfl rfl ?_
      refine E_load rfl rfl rfl ?_
      refine E_V1 (q := 43) (c := 12) (y := 183) rfl rfl (hL.lt 43 rfl) (hL.k 43 rfl) rfl rfl rfl rfl (n_goesOn hL hM_1 hs_1 hG (by omega)) (fun r h2 hq => ?_)
      obtain ⟨rfl, c_2, hh, hs_2, hE0_2⟩ := hq
      subst hh
      have hE_2 : Eqk PS c_1 c_2 := hE0_2.mono P44_PS
      have hM_2 : Mc c_2 := hM_1.of (hE0_2.row 43 (fun _ => rfl))
      have hr46_2 : c_2 46 = f46 := (hE0_2.row 46 (fun _ => rfl)).trans hr46_1
      refine E_load rfl rfl rfl ?_
      refine E_if1 rfl (by omega) (fun q3 => ?_) (fun q3 => ?_)
      · refine E_load rfl rfl rfl ?_
        refine E_const rfl ?_
        refine E_cmp1 rfl (by omega) (fun q4 => ?_) (fun q4 => ?_)
        · refine E_load rfl rfl rfl ?_
          refine E_const rfl ?_
          refine E_cmp3 rfl (by omega) (fun q5 => ?_) (fun q5 => ?_)
          · refine E_load rfl rfl rfl ?_
            refine E_getr (c := 12) (r := 44) rfl (hL.lt 43 rfl) (hL.k 43 rfl) rfl hM_2.c1 ?_
            refine E_const rfl ?_
            refine E_load rfl rfl rfl ?_
            refine E_add rfl ?_
            refine E_const rfl ?_
            refine E_sub rfl ?_
            refine E_ialn (n := 943) (v := (goN s m (25 + (w - 20).toNat))) rfl (hL.lt 44 rfl) (hL.k 44 rfl) (hL.l 44 rfl) (by omega) (rdS hs_2 (by omega)) ?_
            refine E_store rfl rfl rfl ?_
            refine E_load rfl rfl rfl ?_
            refine E_V0 (q := 43) (c := 12) (y := 148) rfl rfl (hL.lt 43 rfl) (hL.k 43 rfl) rfl rfl rfl rfl (n_goesBack (s0 := s) hL hM_2 hs_2 (fun k hk => by rw [hr46_2]; exact h46 k hk) (fun k hk => goN_hi hG hk _)) (fun r h2 hq => ?_)
            obtain ⟨rfl, c_3, hh, hs_3, hE0_3⟩ := hq
            subst hh
            have hE_3 : Eqk PS c_2 c_3 := hE0_3.mono P44_PS
            have hM_3 : Mc c_3 := hM_2.of (hE0_3.row 43 (fun _ => rfl))
            have hr46_3 : c_3 46 = f46 := (hE0_3.row 46 (fun _ => rfl)).trans hr46_2
            refine E_load rfl rfl rfl ?_
            refine E_iret rfl (fun h => absurd h (by decide)) ?_
            refine qryl ?_ (Eqk.PQ_of (hE_1.trans (hE_2.trans hE_3)) (hs_3.trans hs.symm))
            unfold a_on
            try simp only [Int.toNat_natCast]
            try rw [hb, Int.toNat_natCast]
            first | (exfalso; omega) | (rw [if_pos (by omega)]; done) | (rw [if_neg (by omega), if_pos (by omega)]; done) | (rw [if_neg (by omega)]; done) | (rw [if_neg (by omega), if_neg (by omega), if_pos (by omega)]; done) | (rw [if_neg (by omega), if_neg (by omega)]; done) | (rw [if_neg (by omega), if_neg (by omega), if_neg (by omega), if_pos (by omega)]; done) | (rw [if_neg (by omega), if_neg (by omega), if_neg (by omega)]; done) | (rw [if_neg (by omega), if_neg (by omega), if_neg (by omega), if_neg (by omega), if_pos (by omega)]; done) | (rw [if_neg (by omega), if_neg (by omega), if_neg (by omega), if_neg (by omega)]; done) | (rw [if_neg (by omega), if_neg (by omega), if_neg (by omega), if_neg (by omega), if_neg (by omega), if_pos (by omega)]; done) | (rw [if_neg (by omega), if_neg (by omega), if_neg (by omega), if_neg (by omega), if_neg (by omega)]; done) | (rw [if_neg (by omega), if_neg (by omega), if_neg (by omega), if_neg (by omega), if_neg (by omega), if_neg (by omega), if_pos (by omega)]; done) | (rw [if_neg (by omega), if_neg (by omega), if_neg (by omega), if_neg (by omega), if_neg (by omega), if_neg (by omega)]; done)
          · obtain ⟨b, hb⟩ := Int.eq_ofNat_of_zero_le (show 0 ≤ w - 10 by omega)
            refine E_load rfl rfl rfl ?_
            refine E_load rfl rfl rfl ?_
            refine E_const rfl ?_
            refine E_sub rfl ?_
            rw [hb]
            refine E_V1 (q := 43) (c := 12) (y := 167) rfl rfl (hL.lt 43 rfl) (hL.k 43 rfl) rfl rfl rfl rfl (n_saysOf hL hM_2 hs_2 (by omega) hG2.1 hG2.2.1) (fun r h2 hq => ?_)
            obtain ⟨rfl, c_4, hh, hE0_4⟩ := hq
            subst hh
            have hE_4 : Eqk PS c_2 c_4 := hE0_4.mono P47_PS
            have hM_4 : Mc c_4 := hM_2.of (hE0_4.row 43 (fun _ => rfl))
            have hs_4 : c_4 44 = goN s m := (hE0_4.row 44 (fun _ => rfl)).trans hs_2
            have hr46_4 : c_4 46 = f46 := (hE0_4.row 46 (fun _ => rfl)).trans hr46_2
            refine E_goto rfl ?_
            refine E_store rfl rfl rfl ?_
            refine E_load rfl rfl rfl ?_
            refine E_V0 (q := 43) (c := 12) (y := 148) rfl rfl (hL.lt 43 rfl) (hL.k 43 rfl) rfl rfl rfl rfl (n_goesBack (s0 := s) hL hM_4 hs_4 (fun k hk => by rw [hr46_4]; exact h46 k hk) (fun k hk => goN_hi hG hk _)) (fun r h2 hq => ?_)
            obtain ⟨rfl, c_5, hh, hs_5, hE0_5⟩ := hq
            subst hh
            have hE_5 : Eqk PS c_4 c_5 := hE0_5.mono P44_PS
            have hM_5 : Mc c_5 := hM_4.of (hE0_5.row 43 (fun _ => rfl))
            have hr46_5 : c_5 46 = f46 := (hE0_5.row 46 (fun _ => rfl)).trans hr46_4
            refine E_load rfl rfl rfl ?_
            refine E_iret rfl (fun h => absurd h (by decide)) ?_
            refine qryl ?_ (Eqk.PQ_of (hE_1.trans (hE_2.trans (hE_4.trans hE_5))) (hs_5.trans hs.symm))
            unfold a_on
            try simp only [Int.toNat_natCast]
            try rw [hb, Int.toNat_natCast]
            first | (exfalso; omega) | (rw [if_pos (by omega)]; done) | (rw [if_neg (by omega), if_pos (by omega)]; done) | (rw [if_neg (by omega)]; done) | (rw [if_neg (by omega), if_neg (by omega), if_pos (by omega)]; done) | (rw [if_neg (by omega), if_neg (by omega)]; done) | (rw [if_neg (by omega), if_neg (by omega), if_neg (by omega), if_pos (by omega)]; done) | (rw [if_neg (by omega), if_neg (by omega), if_neg (by omega)]; done) | (rw [if_neg (by omega), if_neg (by omega), if_neg (by omega), if_neg (by omega), if_pos (by omega)]; done) | (rw [if_neg (by omega), if_neg (by omega), if_neg (by omega), if_neg (by omega)]; done) | (rw [if_neg (by omega), if_neg (by omega), if_neg (by omega), if_neg (by omega), if_neg (by omega), if_pos (by omega)]; done) | (rw [if_neg (by omega), if_neg (by omega), if_neg (by omega), if_neg (by omega), if_neg (by omega)]; done) | (rw [if_neg (by omega), if_neg (by omega), if_neg (by omega), if_neg (by omega), if_neg (by omega), if_neg (by omega), if_pos (by omega)]; done) | (rw [if_neg (by omega), if_neg (by omega), if_neg (by omega), if_neg (by omega), if_neg (by omega), if_neg (by omega)]; done)
        · refine E_load rfl rfl rfl ?_
          refine E_V0 (q := 43) (c := 12) (y := 176) rfl rfl (hL.lt 43 rfl) (hL.k 43 rfl) rfl rfl rfl rfl (n_allMoods hL hM_2 hs_2 hG2) (fun r h2 hq => ?_)
          obtain ⟨rfl, hh⟩ := hq
          subst hh
          refine E_goto rfl ?_
          refine E_store rfl rfl rfl ?_
          refine E_load rfl rfl rfl ?_
          refine E_V0 (q := 43) (c := 12) (y := 148) rfl rfl (hL.lt 43 rfl) (hL.k 43 rfl) rfl rfl rfl rfl (n_goesBack (s0 := s) hL hM_2 hs_2 (fun k hk => by rw [hr46_2]; exact h46 k hk) (fun k hk => goN_hi hG hk _)) (fun r h2 hq => ?_)
          obtain ⟨rfl, c_6, hh, hs_6, hE0_6⟩ := hq
          subst hh
          have hE_6 : Eqk PS c_2 c_6 := hE0_6.mono P44_PS
          have hM_6 : Mc c_6 := hM_2.of (hE0_6.row 43 (fun _ => rfl))
          have hr46_6 : c_6 46 = f46 := (hE0_6.row 46 (fun _ => rfl)).trans hr46_2
          refine E_load rfl rfl rfl ?_
          refine E_iret rfl (fun h => absurd h (by decide)) ?_
          refine qryl ?_ (Eqk.PQ_of (hE_1.trans (hE_2.trans hE_6)) (hs_6.trans hs.symm))
          unfold a_on
          try simp only [Int.toNat_natCast]
          try rw [hb, Int.toNat_natCast]
          first | (exfalso; omega) | (rw [if_pos (by omega)]; done) | (rw [if_neg (by omega), if_pos (by omega)]; done) | (rw [if_neg (by omega)]; done) | (rw [if_neg (by omega), if_neg (by omega), if_pos (by omega)]; done) | (rw [if_neg (by omega), if_neg (by omega)]; done) | (rw [if_neg (by omega), if_neg (by omega), if_neg (by omega), if_pos (by omega)]; done) | (rw [if_neg (by omega), if_neg (by omega), if_neg (by omega)]; done) | (rw [if_neg (by omega), if_neg (by omega), if_neg (by omega), if_neg (by omega), if_pos (by omega)]; done) | (rw [if_neg (by omega), if_neg (by omega), if_neg (by omega), if_neg (by omega)]; done) | (rw [if_neg (by omega), if_neg (by omega), if_neg (by omega), if_neg (by omega), if_neg (by omega), if_pos (by omega)]; done) | (rw [if_neg (by omega), if_neg (by omega), if_neg (by omega), if_neg (by omega), if_neg (by omega)]; done) | (rw [if_neg (by omega), if_neg (by omega), if_neg (by omega), if_neg (by omega), if_neg (by omega), if_neg (by omega), if_pos (by omega)]; done) | (rw [if_neg (by omega), if_neg (by omega), if_neg (by omega), if_neg (by omega), if_neg (by omega), if_neg (by omega)]; done)
      · refine E_load rfl rfl rfl ?_
        refine E_V0 (q := 43) (c := 12) (y := 175) rfl rfl (hL.lt 43 rfl) (hL.k 43 rfl) rfl rfl rfl rfl (n_allSay hL hM_2 hs_2 hG2) (fun r h2 hq => ?_)
        obtain ⟨rfl, c_7, hh, hE0_7⟩ := hq
        subst hh
        have hE_7 : Eqk PS c_2 c_7 := hE0_7.mono P47_PS
        have hM_7 : Mc c_7 := hM_2.of (hE0_7.row 43 (fun _ => rfl))
        have hs_7 : c_7 44 = goN s m := (hE0_7.row 44 (fun _ => rfl)).trans hs_2
        have hr46_7 : c_7 46 = f46 := (hE0_7.row 46 (fun _ => rfl)).trans hr46_2
        refine E_goto rfl ?_
        refine E_store rfl rfl rfl ?_
        refine E_load rfl rfl rfl ?_
        refine E_V0 (q := 43) (c := 12) (y := 148) rfl rfl (hL.lt 43 rfl) (hL.k 43 rfl) rfl rfl rfl rfl (n_goesBack (s0 := s) hL hM_7 hs_7 (fun k hk => by rw [hr46_7]; exact h46 k hk) (fun k hk => goN_hi hG hk _)) (fun r h2 hq => ?_)
        obtain ⟨rfl, c_8, hh, hs_8, hE0_8⟩ := hq
        subst hh
        have hE_8 : Eqk PS c_7 c_8 := hE0_8.mono P44_PS
        have hM_8 : Mc c_8 := hM_7.of (hE0_8.row 43 (fun _ => rfl))
        have hr46_8 : c_8 46 = f46 := (hE0_8.row 46 (fun _ => rfl)).trans hr46_7
        refine E_load rfl rfl rfl ?_
        refine E_iret rfl (fun h => absurd h (by decide)) ?_
        refine qryl ?_ (Eqk.PQ_of (hE_1.trans (hE_2.trans (hE_7.trans hE_8))) (hs_8.trans hs.symm))
        unfold a_on
        try simp only [Int.toNat_natCast]
        try rw [hb, Int.toNat_natCast]
        first | (exfalso; omega) | (rw [if_pos (by omega)]; done) | (rw [if_neg (by omega), if_pos (by omega)]; done) | (rw [if_neg (by omega)]; done) | (rw [if_neg (by omega), if_neg (by omega), if_pos (by omega)]; done) | (rw [if_neg (by omega), if_neg (by omega)]; done) | (rw [if_neg (by omega), if_neg (by omega), if_neg (by omega), if_pos (by omega)]; done) | (rw [if_neg (by omega), if_neg (by omega), if_neg (by omega)]; done) | (rw [if_neg (by omega), if_neg (by omega), if_neg (by omega), if_neg (by omega), if_pos (by omega)]; done) | (rw [if_neg (by omega), if_neg (by omega), if_neg (by omega), if_neg (by omega)]; done) | (rw [if_neg (by omega), if_neg (by omega), if_neg (by omega), if_neg (by omega), if_neg (by omega), if_pos (by omega)]; done) | (rw [if_neg (by omega), if_neg (by omega), if_neg (by omega), if_neg (by omega), if_neg (by omega)]; done) | (rw [if_neg (by omega), if_neg (by omega), if_neg (by omega), if_neg (by omega), if_neg (by omega), if_neg (by omega), if_pos (by omega)]; done) | (rw [if_neg (by omega), if_neg (by omega), if_neg (by omega), if_neg (by omega), if_neg (by omega), if_neg (by omega)]; done)
    · replace q2 := bI_z q2
      refine E_const rfl ?_
      refine E_iret rfl (fun h => absurd h (by decide)) ?_
      refine qryl ?_ (Eqk.PQ_of Eqk.nil (hs.trans hs.symm))
      unfold a_on
      try simp only [Int.toNat_natCast]
      try rw [hb, Int.toNat_natCast]
      first | (exfalso; omega) | (rw [if_pos (by omega)]; done) | (rw [if_neg (by omega), if_pos (by omega)]; done) | (rw [if_neg (by omega)]; done) | (rw [if_neg (by omega), if_neg (by omega), if_pos (by omega)]; done) | (rw [if_neg (by omega), if_neg (by omega)]; done) | (rw [if_neg (by omega), if_neg (by omega), if_neg (by omega), if_pos (by omega)]; done) | (rw [if_neg (by omega), if_neg (by omega), if_neg (by omega)]; done) | (rw [if_neg (by omega), if_neg (by omega), if_neg (by omega), if_neg (by omega), if_pos (by omega)]; done) | (rw [if_neg (by omega), if_neg (by omega), if_neg (by omega), if_neg (by omega)]; done) | (rw [if_neg (by omega), if_neg (by omega), if_neg (by omega), if_neg (by omega), if_neg (by omega), if_pos (by omega)]; done) | (rw [if_neg (by omega), if_neg (by omega), if_neg (by omega), if_neg (by omega), if_neg (by omega)]; done) | (rw [if_neg (by omega), if_neg (by omega), if_neg (by omega), if_neg (by omega), if_neg (by omega), if_neg (by omega), if_pos (by omega)]; done) | (rw [if_neg (by omega), if_neg (by omega), if_neg (by omega), if_neg (by omega), if_neg (by omega), if_neg (by omega)]; done)
  · replace q1 := bI_z q1
    refine E_load rfl rfl rfl ?_
    refine E_load rfl rfl rfl ?_
    refine E_const rfl ?_
    refine E_sub rfl ?_
    refine E_V1 (q := 43) (c := 12) (y := 143) rfl rfl (hL.lt 43 rfl) (hL.k 43 rfl) rfl rfl rfl rfl (n_isBottleW hL hM hs (by omega) (by omega)) (fun r h2 hq => ?_)
    obtain ⟨rfl, hh⟩ := hq
    subst hh
    refine E_if1 rfl (bI_R _) (fun q6 => ?_) (fun q6 => ?_)
    · replace q6 := bI_nz q6
      refine E_load rfl rfl rfl ?_
      refine E_const rfl ?_
      refine E_const rfl ?_
      refine E_S3 (y := 139) rfl rfl rfl rfl rfl (m_in (by omega) (by omega) (by omega)) (fun r h2 hq => ?_)
      obtain ⟨rfl, hh⟩ := hq
      subst hh
      refine E_if1 rfl (bI_R _) (fun q7 => ?_) (fun q7 => ?_)
      · replace q7 := bI_nz q7
        obtain ⟨m, rfl⟩ := Int.eq_ofNat_of_zero_le q7.1
        have hG2 := hG.goN m
        refine E_load rfl rfl rfl ?_
        refine E_V0 (q := 43) (c := 12) (y := 147) rfl rfl (hL.lt 43 rfl) (hL.k 43 rfl) rfl rfl rfl rfl (n_keeps hL hM hs) (fun r h2 hq => ?_)
        obtain ⟨rfl, c_9, hh, h46_9, hE0_9⟩ := hq
        subst hh
        have hE_9 : Eqk PS c c_9 := hE0_9.mono P46_PS
        have hM_9 : Mc c_9 := hM.of (hE0_9.row 43 (fun _ => rfl))
        have hs_9 : c_9 44 = s := (hE0_9.row 44 (fun _ => rfl)).trans hs
        obtain ⟨f46, hr46_9⟩ : ∃ f, c_9 46 = f := ⟨_, rfl⟩
        have h46 : ∀ k, k < 29 → f46 k = s k := fun k hk => by rw [← hr46_9]; exact h46_9 k hk
        refine E_load rfl rfl rfl ?_
        refine E_load rfl rfl rfl ?_
        refine E_V1 (q := 43) (c := 12) (y := 183) rfl rfl (hL.lt 43 rfl) (hL.k 43 rfl) rfl rfl rfl rfl (n_goesOn hL hM_9 hs_9 hG (by omega)) (fun r h2 hq => ?_)
        obtain ⟨rfl, c_10, hh, hs_10, hE0_10⟩ := hq
        subst hh
        have hE_10 : Eqk PS c_9 c_10 := hE0_10.mono P44_PS
        have hM_10 : Mc c_10 := hM_9.of (hE0_10.row 43 (fun _ => rfl))
        have hr46_10 : c_10 46 = f46 := (hE0_10.row 46 (fun _ => rfl)).trans hr46_9
        refine E_load rfl rfl rfl ?_
        refine E_if1 rfl (by omega) (fun q8 => ?_) (fun q8 => ?_)
        · refine E_load rfl rfl rfl ?_
          refine E_const rfl ?_
          refine E_cmp1 rfl (by omega) (fun q9 => ?_) (fun q9 => ?_)
          · refine E_load rfl rfl rfl ?_
            refine E_const rfl ?_
            refine E_cmp3 rfl (by omega) (fun q10 => ?_) (fun q10 => ?_)
            · refine E_load rfl rfl rfl ?_
              refine E_getr (c := 12) (r := 44) rfl (hL.lt 43 rfl) (hL.k 43 rfl) rfl hM_10.c1 ?_
              refine E_const rfl ?_
              refine E_load rfl rfl rfl ?_
              refine E_add rfl ?_
              refine E_const rfl ?_
              refine E_sub rfl ?_
              refine E_ialn (n := 943) (v := (goN s m (25 + (w - 20).toNat))) rfl (hL.lt 44 rfl) (hL.k 44 rfl) (hL.l 44 rfl) (by omega) (rdS hs_10 (by omega)) ?_
              refine E_store rfl rfl rfl ?_
              refine E_load rfl rfl rfl ?_
              refine E_V0 (q := 43) (c := 12) (y := 148) rfl rfl (hL.lt 43 rfl) (hL.k 43 rfl) rfl rfl rfl rfl (n_goesBack (s0 := s) hL hM_10 hs_10 (fun k hk => by rw [hr46_10]; exact h46 k hk) (fun k hk => goN_hi hG hk _)) (fun r h2 hq => ?_)
              obtain ⟨rfl, c_11, hh, hs_11, hE0_11⟩ := hq
              subst hh
              have hE_11 : Eqk PS c_10 c_11 := hE0_11.mono P44_PS
              have hM_11 : Mc c_11 := hM_10.of (hE0_11.row 43 (fun _ => rfl))
              have hr46_11 : c_11 46 = f46 := (hE0_11.row 46 (fun _ => rfl)).trans hr46_10
              refine E_load rfl rfl rfl ?_
              refine E_iret rfl (fun h => absurd h (by decide)) ?_
              refine qryl ?_ (Eqk.PQ_of (hE_9.trans (hE_10.trans hE_11)) (hs_11.trans hs.symm))
              unfold a_on
              try simp only [Int.toNat_natCast]
              try rw [hb, Int.toNat_natCast]
              first | (exfalso; omega) | (rw [if_pos (by omega)]; done) | (rw [if_neg (by omega), if_pos (by omega)]; done) | (rw [if_neg (by omega)]; done) | (rw [if_neg (by omega), if_neg (by omega), if_pos (by omega)]; done) | (rw [if_neg (by omega), if_neg (by omega)]; done) | (rw [if_neg (by omega), if_neg (by omega), if_neg (by omega), if_pos (by omega)]; done) | (rw [if_neg (by omega), if_neg (by omega), if_neg (by omega)]; done) | (rw [if_neg (by omega), if_neg (by omega), if_neg (by omega), if_neg (by omega), if_pos (by omega)]; done) | (rw [if_neg (by omega), if_neg (by omega), if_neg (by omega), if_neg (by omega)]; done) | (rw [if_neg (by omega), if_neg (by omega), if_neg (by omega), if_neg (by omega), if_neg (by omega), if_pos (by omega)]; done) | (rw [if_neg (by omega), if_neg (by omega), if_neg (by omega), if_neg (by omega), if_neg (by omega)]; done) | (rw [if_neg (by omega), if_neg (by omega), if_neg (by omega), if_neg (by omega), if_neg (by omega), if_neg (by omega), if_pos (by omega)]; done) | (rw [if_neg (by omega), if_neg (by omega), if_neg (by omega), if_neg (by omega), if_neg (by omega), if_neg (by omega)]; done)
            · obtain ⟨b, hb⟩ := Int.eq_ofNat_of_zero_le (show 0 ≤ w - 10 by omega)
              refine E_load rfl rfl rfl ?_
              refine E_load rfl rfl rfl ?_
              refine E_const rfl ?_
              refine E_sub rfl ?_
              rw [hb]
              refine E_V1 (q := 43) (c := 12) (y := 167) rfl rfl (hL.lt 43 rfl) (hL.k 43 rfl) rfl rfl rfl rfl (n_saysOf hL hM_10 hs_10 (by omega) hG2.1 hG2.2.1) (fun r h2 hq => ?_)
              obtain ⟨rfl, c_12, hh, hE0_12⟩ := hq
              subst hh
              have hE_12 : Eqk PS c_10 c_12 := hE0_12.mono P47_PS
              have hM_12 : Mc c_12 := hM_10.of (hE0_12.row 43 (fun _ => rfl))
              have hs_12 : c_12 44 = goN s m := (hE0_12.row 44 (fun _ => rfl)).trans hs_10
              have hr46_12 : c_12 46 = f46 := (hE0_12.row 46 (fun _ => rfl)).trans hr46_10
              refine E_goto rfl ?_
              refine E_store rfl rfl rfl ?_
              refine E_load rfl rfl rfl ?_
              refine E_V0 (q := 43) (c := 12) (y := 148) rfl rfl (hL.lt 43 rfl) (hL.k 43 rfl) rfl rfl rfl rfl (n_goesBack (s0 := s) hL hM_12 hs_12 (fun k hk => by rw [hr46_12]; exact h46 k hk) (fun k hk => goN_hi hG hk _)) (fun r h2 hq => ?_)
              obtain ⟨rfl, c_13, hh, hs_13, hE0_13⟩ := hq
              subst hh
              have hE_13 : Eqk PS c_12 c_13 := hE0_13.mono P44_PS
              have hM_13 : Mc c_13 := hM_12.of (hE0_13.row 43 (fun _ => rfl))
              have hr46_13 : c_13 46 = f46 := (hE0_13.row 46 (fun _ => rfl)).trans hr46_12
              refine E_load rfl rfl rfl ?_
              refine E_iret rfl (fun h => absurd h (by decide)) ?_
              refine qryl ?_ (Eqk.PQ_of (hE_9.trans (hE_10.trans (hE_12.trans hE_13))) (hs_13.trans hs.symm))
              unfold a_on
              try simp only [Int.toNat_natCast]
              try rw [hb, Int.toNat_natCast]
              first | (exfalso; omega) | (rw [if_pos (by omega)]; done) | (rw [if_neg (by omega), if_pos (by omega)]; done) | (rw [if_neg (by omega)]; done) | (rw [if_neg (by omega), if_neg (by omega), if_pos (by omega)]; done) | (rw [if_neg (by omega), if_neg (by omega)]; done) | (rw [if_neg (by omega), if_neg (by omega), if_neg (by omega), if_pos (by omega)]; done) | (rw [if_neg (by omega), if_neg (by omega), if_neg (by omega)]; done) | (rw [if_neg (by omega), if_neg (by omega), if_neg (by omega), if_neg (by omega), if_pos (by omega)]; done) | (rw [if_neg (by omega), if_neg (by omega), if_neg (by omega), if_neg (by omega)]; done) | (rw [if_neg (by omega), if_neg (by omega), if_neg (by omega), if_neg (by omega), if_neg (by omega), if_pos (by omega)]; done) | (rw [if_neg (by omega), if_neg (by omega), if_neg (by omega), if_neg (by omega), if_neg (by omega)]; done) | (rw [if_neg (by omega), if_neg (by omega), if_neg (by omega), if_neg (by omega), if_neg (by omega), if_neg (by omega), if_pos (by omega)]; done) | (rw [if_neg (by omega), if_neg (by omega), if_neg (by omega), if_neg (by omega), if_neg (by omega), if_neg (by omega)]; done)
          · refine E_load rfl rfl rfl ?_
            refine E_V0 (q := 43) (c := 12) (y := 176) rfl rfl (hL.lt 43 rfl) (hL.k 43 rfl) rfl rfl rfl rfl (n_allMoods hL hM_10 hs_10 hG2) (fun r h2 hq => ?_)
            obtain ⟨rfl, hh⟩ := hq
            subst hh
            refine E_goto rfl ?_
            refine E_store rfl rfl rfl ?_
            refine E_load rfl rfl rfl ?_
            refine E_V0 (q := 43) (c := 12) (y := 148) rfl rfl (hL.lt 43 rfl) (hL.k 43 rfl) rfl rfl rfl rfl (n_goesBack (s0 := s) hL hM_10 hs_10 (fun k hk => by rw [hr46_10]; exact h46 k hk) (fun k hk => goN_hi hG hk _)) (fun r h2 hq => ?_)
            obtain ⟨rfl, c_14, hh, hs_14, hE0_14⟩ := hq
            subst hh
            have hE_14 : Eqk PS c_10 c_14 := hE0_14.mono P44_PS
            have hM_14 : Mc c_14 := hM_10.of (hE0_14.row 43 (fun _ => rfl))
            have hr46_14 : c_14 46 = f46 := (hE0_14.row 46 (fun _ => rfl)).trans hr46_10
            refine E_load rfl rfl rfl ?_
            refine E_iret rfl (fun h => absurd h (by decide)) ?_
            refine qryl ?_ (Eqk.PQ_of (hE_9.trans (hE_10.trans hE_14)) (hs_14.trans hs.symm))
            unfold a_on
            try simp only [Int.toNat_natCast]
            try rw [hb, Int.toNat_natCast]
            first | (exfalso; omega) | (rw [if_pos (by omega)]; done) | (rw [if_neg (by omega), if_pos (by omega)]; done) | (rw [if_neg (by omega)]; done) | (rw [if_neg (by omega), if_neg (by omega), if_pos (by omega)]; done) | (rw [if_neg (by omega), if_neg (by omega)]; done) | (rw [if_neg (by omega), if_neg (by omega), if_neg (by omega), if_pos (by omega)]; done) | (rw [if_neg (by omega), if_neg (by omega), if_neg (by omega)]; done) | (rw [if_neg (by omega), if_neg (by omega), if_neg (by omega), if_neg (by omega), if_pos (by omega)]; done) | (rw [if_neg (by omega), if_neg (by omega), if_neg (by omega), if_neg (by omega)]; done) | (rw [if_neg (by omega), if_neg (by omega), if_neg (by omega), if_neg (by omega), if_neg (by omega), if_pos (by omega)]; done) | (rw [if_neg (by omega), if_neg (by omega), if_neg (by omega), if_neg (by omega), if_neg (by omega)]; done) | (rw [if_neg (by omega), if_neg (by omega), if_neg (by omega), if_neg (by omega), if_neg (by omega), if_neg (by omega), if_pos (by omega)]; done) | (rw [if_neg (by omega), if_neg (by omega), if_neg (by omega), if_neg (by omega), if_neg (by omega), if_neg (by omega)]; done)
        · refine E_load rfl rfl rfl ?_
          refine E_V0 (q := 43) (c := 12) (y := 175) rfl rfl (hL.lt 43 rfl) (hL.k 43 rfl) rfl rfl rfl rfl (n_allSay hL hM_10 hs_10 hG2) (fun r h2 hq => ?_)
          obtain ⟨rfl, c_15, hh, hE0_15⟩ := hq
          subst hh
          have hE_15 : Eqk PS c_10 c_15 := hE0_15.mono P47_PS
          have hM_15 : Mc c_15 := hM_10.of (hE0_15.row 43 (fun _ => rfl))
          have hs_15 : c_15 44 = goN s m := (hE0_15.row 44 (fun _ => rfl)).trans hs_10
          have hr46_15 : c_15 46 = f46 := (hE0_15.row 46 (fun _ => rfl)).trans hr46_10
          refine E_goto rfl ?_
          refine E_store rfl rfl rfl ?_
          refine E_load rfl rfl rfl ?_
          refine E_V0 (q := 43) (c := 12) (y := 148) rfl rfl (hL.lt 43 rfl) (hL.k 43 rfl) rfl rfl rfl rfl (n_goesBack (s0 := s) hL hM_15 hs_15 (fun k hk => by rw [hr46_15]; exact h46 k hk) (fun k hk => goN_hi hG hk _)) (fun r h2 hq => ?_)
          obtain ⟨rfl, c_16, hh, hs_16, hE0_16⟩ := hq
          subst hh
          have hE_16 : Eqk PS c_15 c_16 := hE0_16.mono P44_PS
          have hM_16 : Mc c_16 := hM_15.of (hE0_16.row 43 (fun _ => rfl))
          have hr46_16 : c_16 46 = f46 := (hE0_16.row 46 (fun _ => rfl)).trans hr46_15
          refine E_load rfl rfl rfl ?_
          refine E_iret rfl (fun h => absurd h (by decide)) ?_
          refine qryl ?_ (Eqk.PQ_of (hE_9.trans (hE_10.trans (hE_15.trans hE_16))) (hs_16.trans hs.symm))
          unfold a_on
          try simp only [Int.toNat_natCast]
          try rw [hb, Int.toNat_natCast]
          first | (exfalso; omega) | (rw [if_pos (by omega)]; done) | (rw [if_neg (by omega), if_pos (by omega)]; done) | (rw [if_neg (by omega)]; done) | (rw [if_neg (by omega), if_neg (by omega), if_pos (by omega)]; done) | (rw [if_neg (by omega), if_neg (by omega)]; done) | (rw [if_neg (by omega), if_neg (by omega), if_neg (by omega), if_pos (by omega)]; done) | (rw [if_neg (by omega), if_neg (by omega), if_neg (by omega)]; done) | (rw [if_neg (by omega), if_neg (by omega), if_neg (by omega), if_neg (by omega), if_pos (by omega)]; done) | (rw [if_neg (by omega), if_neg (by omega), if_neg (by omega), if_neg (by omega)]; done) | (rw [if_neg (by omega), if_neg (by omega), if_neg (by omega), if_neg (by omega), if_neg (by omega), if_pos (by omega)]; done) | (rw [if_neg (by omega), if_neg (by omega), if_neg (by omega), if_neg (by omega), if_neg (by omega)]; done) | (rw [if_neg (by omega), if_neg (by omega), if_neg (by omega), if_neg (by omega), if_neg (by omega), if_neg (by omega), if_pos (by omega)]; done) | (rw [if_neg (by omega), if_neg (by omega), if_neg (by omega), if_neg (by omega), if_neg (by omega), if_neg (by omega)]; done)
      · replace q7 := bI_z q7
        refine E_const rfl ?_
        refine E_iret rfl (fun h => absurd h (by decide)) ?_
        refine qryl ?_ (Eqk.PQ_of Eqk.nil (hs.trans hs.symm))
        unfold a_on
        try simp only [Int.toNat_natCast]
        try rw [hb, Int.toNat_natCast]
        first | (exfalso; omega) | (rw [if_pos (by omega)]; done) | (rw [if_neg (by omega), if_pos (by omega)]; done) | (rw [if_neg (by omega)]; done) | (rw [if_neg (by omega), if_neg (by omega), if_pos (by omega)]; done) | (rw [if_neg (by omega), if_neg (by omega)]; done) | (rw [if_neg (by omega), if_neg (by omega), if_neg (by omega), if_pos (by omega)]; done) | (rw [if_neg (by omega), if_neg (by omega), if_neg (by omega)]; done) | (rw [if_neg (by omega), if_neg (by omega), if_neg (by omega), if_neg (by omega), if_pos (by omega)]; done) | (rw [if_neg (by omega), if_neg (by omega), if_neg (by omega), if_neg (by omega)]; done) | (rw [if_neg (by omega), if_neg (by omega), if_neg (by omega), if_neg (by omega), if_neg (by omega), if_pos (by omega)]; done) | (rw [if_neg (by omega), if_neg (by omega), if_neg (by omega), if_neg (by omega), if_neg (by omega)]; done) | (rw [if_neg (by omega), if_neg (by omega), if_neg (by omega), if_neg (by omega), if_neg (by omega), if_neg (by omega), if_pos (by omega)]; done) | (rw [if_neg (by omega), if_neg (by omega), if_neg (by omega), if_neg (by omega), if_neg (by omega), if_neg (by omega)]; done)
    · replace q6 := bI_z q6
      refine E_load rfl rfl rfl ?_
      refine E_load rfl rfl rfl ?_
      refine E_const rfl ?_
      refine E_sub rfl ?_
      refine E_V1 (q := 43) (c := 12) (y := 144) rfl rfl (hL.lt 43 rfl) (hL.k 43 rfl) rfl rfl rfl rfl (n_isGuestW hL hM hs (by omega) (by omega)) (fun r h2 hq => ?_)
      obtain ⟨rfl, hh⟩ := hq
      subst hh
      refine E_if1 rfl (bI_R _) (fun q11 => ?_) (fun q11 => ?_)
      · replace q11 := bI_nz q11
        refine E_load rfl rfl rfl ?_
        refine E_const rfl ?_
        refine E_const rfl ?_
        refine E_S3 (y := 139) rfl rfl rfl rfl rfl (m_in (by omega) (by omega) (by omega)) (fun r h2 hq => ?_)
        obtain ⟨rfl, hh⟩ := hq
        subst hh
        refine E_if1 rfl (bI_R _) (fun q12 => ?_) (fun q12 => ?_)
        · replace q12 := bI_nz q12
          obtain ⟨m, rfl⟩ := Int.eq_ofNat_of_zero_le q12.1
          have hG2 := hG.goN m
          refine E_load rfl rfl rfl ?_
          refine E_V0 (q := 43) (c := 12) (y := 147) rfl rfl (hL.lt 43 rfl) (hL.k 43 rfl) rfl rfl rfl rfl (n_keeps hL hM hs) (fun r h2 hq => ?_)
          obtain ⟨rfl, c_17, hh, h46_17, hE0_17⟩ := hq
          subst hh
          have hE_17 : Eqk PS c c_17 := hE0_17.mono P46_PS
          have hM_17 : Mc c_17 := hM.of (hE0_17.row 43 (fun _ => rfl))
          have hs_17 : c_17 44 = s := (hE0_17.row 44 (fun _ => rfl)).trans hs
          obtain ⟨f46, hr46_17⟩ : ∃ f, c_17 46 = f := ⟨_, rfl⟩
          have h46 : ∀ k, k < 29 → f46 k = s k := fun k hk => by rw [← hr46_17]; exact h46_17 k hk
          refine E_load rfl rfl rfl ?_
          refine E_load rfl rfl rfl ?_
          refine E_V1 (q := 43) (c := 12) (y := 183) rfl rfl (hL.lt 43 rfl) (hL.k 43 rfl) rfl rfl rfl rfl (n_goesOn hL hM_17 hs_17 hG (by omega)) (fun r h2 hq => ?_)
          obtain ⟨rfl, c_18, hh, hs_18, hE0_18⟩ := hq
          subst hh
          have hE_18 : Eqk PS c_17 c_18 := hE0_18.mono P44_PS
          have hM_18 : Mc c_18 := hM_17.of (hE0_18.row 43 (fun _ => rfl))
          have hr46_18 : c_18 46 = f46 := (hE0_18.row 46 (fun _ => rfl)).trans hr46_17
          refine E_load rfl rfl rfl ?_
          refine E_if1 rfl (by omega) (fun q13 => ?_) (fun q13 => ?_)
          · refine E_load rfl rfl rfl ?_
            refine E_const rfl ?_
            refine E_cmp1 rfl (by omega) (fun q14 => ?_) (fun q14 => ?_)
            · refine E_load rfl rfl rfl ?_
              refine E_const rfl ?_
              refine E_cmp3 rfl (by omega) (fun q15 => ?_) (fun q15 => ?_)
              · refine E_load rfl rfl rfl ?_
                refine E_getr (c := 12) (r := 44) rfl (hL.lt 43 rfl) (hL.k 43 rfl) rfl hM_18.c1 ?_
                refine E_const rfl ?_
                refine E_load rfl rfl rfl ?_
                refine E_add rfl ?_
                refine E_const rfl ?_
                refine E_sub rfl ?_
                refine E_ialn (n := 943) (v := (goN s m (25 + (w - 20).toNat))) rfl (hL.lt 44 rfl) (hL.k 44 rfl) (hL.l 44 rfl) (by omega) (rdS hs_18 (by omega)) ?_
                refine E_store rfl rfl rfl ?_
                refine E_load rfl rfl rfl ?_
                refine E_V0 (q := 43) (c := 12) (y := 148) rfl rfl (hL.lt 43 rfl) (hL.k 43 rfl) rfl rfl rfl rfl (n_goesBack (s0 := s) hL hM_18 hs_18 (fun k hk => by rw [hr46_18]; exact h46 k hk) (fun k hk => goN_hi hG hk _)) (fun r h2 hq => ?_)
                obtain ⟨rfl, c_19, hh, hs_19, hE0_19⟩ := hq
                subst hh
                have hE_19 : Eqk PS c_18 c_19 := hE0_19.mono P44_PS
                have hM_19 : Mc c_19 := hM_18.of (hE0_19.row 43 (fun _ => rfl))
                have hr46_19 : c_19 46 = f46 := (hE0_19.row 46 (fun _ => rfl)).trans hr46_18
                refine E_load rfl rfl rfl ?_
                refine E_iret rfl (fun h => absurd h (by decide)) ?_
                refine qryl ?_ (Eqk.PQ_of (hE_17.trans (hE_18.trans hE_19)) (hs_19.trans hs.symm))
                unfold a_on
                try simp only [Int.toNat_natCast]
                try rw [hb, Int.toNat_natCast]
                first | (exfalso; omega) | (rw [if_pos (by omega)]; done) | (rw [if_neg (by omega), if_pos (by omega)]; done) | (rw [if_neg (by omega)]; done) | (rw [if_neg (by omega), if_neg (by omega), if_pos (by omega)]; done) | (rw [if_neg (by omega), if_neg (by omega)]; done) | (rw [if_neg (by omega), if_neg (by omega), if_neg (by omega), if_pos (by omega)]; done) | (rw [if_neg (by omega), if_neg (by omega), if_neg (by omega)]; done) | (rw [if_neg (by omega), if_neg (by omega), if_neg (by omega), if_neg (by omega), if_pos (by omega)]; done) | (rw [if_neg (by omega), if_neg (by omega), if_neg (by omega), if_neg (by omega)]; done) | (rw [if_neg (by omega), if_neg (by omega), if_neg (by omega), if_neg (by omega), if_neg (by omega), if_pos (by omega)]; done) | (rw [if_neg (by omega), if_neg (by omega), if_neg (by omega), if_neg (by omega), if_neg (by omega)]; done) | (rw [if_neg (by omega), if_neg (by omega), if_neg (by omega), if_neg (by omega), if_neg (by omega), if_neg (by omega), if_pos (by omega)]; done) | (rw [if_neg (by omega), if_neg (by omega), if_neg (by omega), if_neg (by omega), if_neg (by omega), if_neg (by omega)]; done)
              · obtain ⟨b, hb⟩ := Int.eq_ofNat_of_zero_le (show 0 ≤ w - 10 by omega)
                refine E_load rfl rfl rfl ?_
                refine E_load rfl rfl rfl ?_
                refine E_const rfl ?_
                refine E_sub rfl ?_
                rw [hb]
                refine E_V1 (q := 43) (c := 12) (y := 167) rfl rfl (hL.lt 43 rfl) (hL.k 43 rfl) rfl rfl rfl rfl (n_saysOf hL hM_18 hs_18 (by omega) hG2.1 hG2.2.1) (fun r h2 hq => ?_)
                obtain ⟨rfl, c_20, hh, hE0_20⟩ := hq
                subst hh
                have hE_20 : Eqk PS c_18 c_20 := hE0_20.mono P47_PS
                have hM_20 : Mc c_20 := hM_18.of (hE0_20.row 43 (fun _ => rfl))
                have hs_20 : c_20 44 = goN s m := (hE0_20.row 44 (fun _ => rfl)).trans hs_18
                have hr46_20 : c_20 46 = f46 := (hE0_20.row 46 (fun _ => rfl)).trans hr46_18
                refine E_goto rfl ?_
                refine E_store rfl rfl rfl ?_
                refine E_load rfl rfl rfl ?_
                refine E_V0 (q := 43) (c := 12) (y := 148) rfl rfl (hL.lt 43 rfl) (hL.k 43 rfl) rfl rfl rfl rfl (n_goesBack (s0 := s) hL hM_20 hs_20 (fun k hk => by rw [hr46_20]; exact h46 k hk) (fun k hk => goN_hi hG hk _)) (fun r h2 hq => ?_)
                obtain ⟨rfl, c_21, hh, hs_21, hE0_21⟩ := hq
                subst hh
                have hE_21 : Eqk PS c_20 c_21 := hE0_21.mono P44_PS
                have hM_21 : Mc c_21 := hM_20.of (hE0_21.row 43 (fun _ => rfl))
                have hr46_21 : c_21 46 = f46 := (hE0_21.row 46 (fun _ => rfl)).trans hr46_20
                refine E_load rfl rfl rfl ?_
                refine E_iret rfl (fun h => absurd h (by decide)) ?_
                refine qryl ?_ (Eqk.PQ_of (hE_17.trans (hE_18.trans (hE_20.trans hE_21))) (hs_21.trans hs.symm))
                unfold a_on
                try simp only [Int.toNat_natCast]
                try rw [hb, Int.toNat_natCast]
                first | (exfalso; omega) | (rw [if_pos (by omega)]; done) | (rw [if_neg (by omega), if_pos (by omega)]; done) | (rw [if_neg (by omega)]; done) | (rw [if_neg (by omega), if_neg (by omega), if_pos (by omega)]; done) | (rw [if_neg (by omega), if_neg (by omega)]; done) | (rw [if_neg (by omega), if_neg (by omega), if_neg (by omega), if_pos (by omega)]; done) | (rw [if_neg (by omega), if_neg (by omega), if_neg (by omega)]; done) | (rw [if_neg (by omega), if_neg (by omega), if_neg (by omega), if_neg (by omega), if_pos (by omega)]; done) | (rw [if_neg (by omega), if_neg (by omega), if_neg (by omega), if_neg (by omega)]; done) | (rw [if_neg (by omega), if_neg (by omega), if_neg (by omega), if_neg (by omega), if_neg (by omega), if_pos (by omega)]; done) | (rw [if_neg (by omega), if_neg (by omega), if_neg (by omega), if_neg (by omega), if_neg (by omega)]; done) | (rw [if_neg (by omega), if_neg (by omega), if_neg (by omega), if_neg (by omega), if_neg (by omega), if_neg (by omega), if_pos (by omega)]; done) | (rw [if_neg (by omega), if_neg (by omega), if_neg (by omega), if_neg (by omega), if_neg (by omega), if_neg (by omega)]; done)
            · refine E_load rfl rfl rfl ?_
              refine E_V0 (q := 43) (c := 12) (y := 176) rfl rfl (hL.lt 43 rfl) (hL.k 43 rfl) rfl rfl rfl rfl (n_allMoods hL hM_18 hs_18 hG2) (fun r h2 hq => ?_)
              obtain ⟨rfl, hh⟩ := hq
              subst hh
              refine E_goto rfl ?_
              refine E_store rfl rfl rfl ?_
              refine E_load rfl rfl rfl ?_
              refine E_V0 (q := 43) (c := 12) (y := 148) rfl rfl (hL.lt 43 rfl) (hL.k 43 rfl) rfl rfl rfl rfl (n_goesBack (s0 := s) hL hM_18 hs_18 (fun k hk => by rw [hr46_18]; exact h46 k hk) (fun k hk => goN_hi hG hk _)) (fun r h2 hq => ?_)
              obtain ⟨rfl, c_22, hh, hs_22, hE0_22⟩ := hq
              subst hh
              have hE_22 : Eqk PS c_18 c_22 := hE0_22.mono P44_PS
              have hM_22 : Mc c_22 := hM_18.of (hE0_22.row 43 (fun _ => rfl))
              have hr46_22 : c_22 46 = f46 := (hE0_22.row 46 (fun _ => rfl)).trans hr46_18
              refine E_load rfl rfl rfl ?_
              refine E_iret rfl (fun h => absurd h (by decide)) ?_
              refine qryl ?_ (Eqk.PQ_of (hE_17.trans (hE_18.trans hE_22)) (hs_22.trans hs.symm))
              unfold a_on
              try simp only [Int.toNat_natCast]
              try rw [hb, Int.toNat_natCast]
              first | (exfalso; omega) | (rw [if_pos (by omega)]; done) | (rw [if_neg (by omega), if_pos (by omega)]; done) | (rw [if_neg (by omega)]; done) | (rw [if_neg (by omega), if_neg (by omega), if_pos (by omega)]; done) | (rw [if_neg (by omega), if_neg (by omega)]; done) | (rw [if_neg (by omega), if_neg (by omega), if_neg (by omega), if_pos (by omega)]; done) | (rw [if_neg (by omega), if_neg (by omega), if_neg (by omega)]; done) | (rw [if_neg (by omega), if_neg (by omega), if_neg (by omega), if_neg (by omega), if_pos (by omega)]; done) | (rw [if_neg (by omega), if_neg (by omega), if_neg (by omega), if_neg (by omega)]; done) | (rw [if_neg (by omega), if_neg (by omega), if_neg (by omega), if_neg (by omega), if_neg (by omega), if_pos (by omega)]; done) | (rw [if_neg (by omega), if_neg (by omega), if_neg (by omega), if_neg (by omega), if_neg (by omega)]; done) | (rw [if_neg (by omega), if_neg (by omega), if_neg (by omega), if_neg (by omega), if_neg (by omega), if_neg (by omega), if_pos (by omega)]; done) | (rw [if_neg (by omega), if_neg (by omega), if_neg (by omega), if_neg (by omega), if_neg (by omega), if_neg (by omega)]; done)
          · refine E_load rfl rfl rfl ?_
            refine E_V0 (q := 43) (c := 12) (y := 175) rfl rfl (hL.lt 43 rfl) (hL.k 43 rfl) rfl rfl rfl rfl (n_allSay hL hM_18 hs_18 hG2) (fun r h2 hq => ?_)
            obtain ⟨rfl, c_23, hh, hE0_23⟩ := hq
            subst hh
            have hE_23 : Eqk PS c_18 c_23 := hE0_23.mono P47_PS
            have hM_23 : Mc c_23 := hM_18.of (hE0_23.row 43 (fun _ => rfl))
            have hs_23 : c_23 44 = goN s m := (hE0_23.row 44 (fun _ => rfl)).trans hs_18
            have hr46_23 : c_23 46 = f46 := (hE0_23.row 46 (fun _ => rfl)).trans hr46_18
            refine E_goto rfl ?_
            refine E_store rfl rfl rfl ?_
            refine E_load rfl rfl rfl ?_
            refine E_V0 (q := 43) (c := 12) (y := 148) rfl rfl (hL.lt 43 rfl) (hL.k 43 rfl) rfl rfl rfl rfl (n_goesBack (s0 := s) hL hM_23 hs_23 (fun k hk => by rw [hr46_23]; exact h46 k hk) (fun k hk => goN_hi hG hk _)) (fun r h2 hq => ?_)
            obtain ⟨rfl, c_24, hh, hs_24, hE0_24⟩ := hq
            subst hh
            have hE_24 : Eqk PS c_23 c_24 := hE0_24.mono P44_PS
            have hM_24 : Mc c_24 := hM_23.of (hE0_24.row 43 (fun _ => rfl))
            have hr46_24 : c_24 46 = f46 := (hE0_24.row 46 (fun _ => rfl)).trans hr46_23
            refine E_load rfl rfl rfl ?_
            refine E_iret rfl (fun h => absurd h (by decide)) ?_
            refine qryl ?_ (Eqk.PQ_of (hE_17.trans (hE_18.trans (hE_23.trans hE_24))) (hs_24.trans hs.symm))
            unfold a_on
            try simp only [Int.toNat_natCast]
            try rw [hb, Int.toNat_natCast]
            first | (exfalso; omega) | (rw [if_pos (by omega)]; done) | (rw [if_neg (by omega), if_pos (by omega)]; done) | (rw [if_neg (by omega)]; done) | (rw [if_neg (by omega), if_neg (by omega), if_pos (by omega)]; done) | (rw [if_neg (by omega), if_neg (by omega)]; done) | (rw [if_neg (by omega), if_neg (by omega), if_neg (by omega), if_pos (by omega)]; done) | (rw [if_neg (by omega), if_neg (by omega), if_neg (by omega)]; done) | (rw [if_neg (by omega), if_neg (by omega), if_neg (by omega), if_neg (by omega), if_pos (by omega)]; done) | (rw [if_neg (by omega), if_neg (by omega), if_neg (by omega), if_neg (by omega)]; done) | (rw [if_neg (by omega), if_neg (by omega), if_neg (by omega), if_neg (by omega), if_neg (by omega), if_pos (by omega)]; done) | (rw [if_neg (by omega), if_neg (by omega), if_neg (by omega), if_neg (by omega), if_neg (by omega)]; done) | (rw [if_neg (by omega), if_neg (by omega), if_neg (by omega), if_neg (by omega), if_neg (by omega), if_neg (by omega), if_pos (by omega)]; done) | (rw [if_neg (by omega), if_neg (by omega), if_neg (by omega), if_neg (by omega), if_neg (by omega), if_neg (by omega)]; done)
        · replace q12 := bI_z q12
          refine E_const rfl ?_
          refine E_iret rfl (fun h => absurd h (by decide)) ?_
          refine qryl ?_ (Eqk.PQ_of Eqk.nil (hs.trans hs.symm))
          unfold a_on
          try simp only [Int.toNat_natCast]
          try rw [hb, Int.toNat_natCast]
          first | (exfalso; omega) | (rw [if_pos (by omega)]; done) | (rw [if_neg (by omega), if_pos (by omega)]; done) | (rw [if_neg (by omega)]; done) | (rw [if_neg (by omega), if_neg (by omega), if_pos (by omega)]; done) | (rw [if_neg (by omega), if_neg (by omega)]; done) | (rw [if_neg (by omega), if_neg (by omega), if_neg (by omega), if_pos (by omega)]; done) | (rw [if_neg (by omega), if_neg (by omega), if_neg (by omega)]; done) | (rw [if_neg (by omega), if_neg (by omega), if_neg (by omega), if_neg (by omega), if_pos (by omega)]; done) | (rw [if_neg (by omega), if_neg (by omega), if_neg (by omega), if_neg (by omega)]; done) | (rw [if_neg (by omega), if_neg (by omega), if_neg (by omega), if_neg (by omega), if_neg (by omega), if_pos (by omega)]; done) | (rw [if_neg (by omega), if_neg (by omega), if_neg (by omega), if_neg (by omega), if_neg (by omega)]; done) | (rw [if_neg (by omega), if_neg (by omega), if_neg (by omega), if_neg (by omega), if_neg (by omega), if_neg (by omega), if_pos (by omega)]; done) | (rw [if_neg (by omega), if_neg (by omega), if_neg (by omega), if_neg (by omega), if_neg (by omega), if_neg (by omega)]; done)
      · replace q11 := bI_z q11
        refine E_const rfl ?_
        refine E_iret rfl (fun h => absurd h (by decide)) ?_
        refine qryl ?_ (Eqk.PQ_of Eqk.nil (hs.trans hs.symm))
        unfold a_on
        try simp only [Int.toNat_natCast]
        try rw [hb, Int.toNat_natCast]
        first | (exfalso; omega) | (rw [if_pos (by omega)]; done) | (rw [if_neg (by omega), if_pos (by omega)]; done) | (rw [if_neg (by omega)]; done) | (rw [if_neg (by omega), if_neg (by omega), if_pos (by omega)]; done) | (rw [if_neg (by omega), if_neg (by omega)]; done) | (rw [if_neg (by omega), if_neg (by omega), if_neg (by omega), if_pos (by omega)]; done) | (rw [if_neg (by omega), if_neg (by omega), if_neg (by omega)]; done) | (rw [if_neg (by omega), if_neg (by omega), if_neg (by omega), if_neg (by omega), if_pos (by omega)]; done) | (rw [if_neg (by omega), if_neg (by omega), if_neg (by omega), if_neg (by omega)]; done) | (rw [if_neg (by omega), if_neg (by omega), if_neg (by omega), if_neg (by omega), if_neg (by omega), if_pos (by omega)]; done) | (rw [if_neg (by omega), if_neg (by omega), if_neg (by omega), if_neg (by omega), if_neg (by omega)]; done) | (rw [if_neg (by omega), if_neg (by omega), if_neg (by omega), if_neg (by omega), if_neg (by omega), if_neg (by omega), if_pos (by omega)]; done) | (rw [if_neg (by omega), if_neg (by omega), if_neg (by omega), if_neg (by omega), if_neg (by omega), if_neg (by omega)]; done)
