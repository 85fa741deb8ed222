set_option maxHeartbeats 4000000 in
set_option maxRecDepth 100000 in
theorem C_bottle {d : Nat} {h : Hp} {c : Nat → Nat → Int} {B : Nat → Nat} {s im : Nat → Int} {hi : Int} {L : List Int} (hL : Lay h) (hR : RepC h c B s im hi L) (hA : Inv s) {k v w : Int} (hk : inR k) (hv : inR v) (hw : inR w) : Ok (d + 6) 76 [(1, ((0 : Nat) : Int)), (0, k), (0, v), (0, w)] (wC h c) (fun r h2 => r = some (0, (f_bottle s k v w).1) ∧ ∃ h' c' B', h2 = wC h' c' ∧ Hx h h' ∧ (mN h' ≤ mN h + 8 ∧ mS h' ≤ mS h + 46) ∧ RepC h' c' B' (f_bottle s k v w).2 im hi L ∧ EqP FrC c c') := by
  show Ex _ none t_X10_bottle 0 0 _ [] (wC h c) _
  have hAA := hA
  obtain ⟨hI, hH, ⟨⟨n29, n30, n31, n32, n33, n34, n36⟩, nM⟩, hX⟩ := hA
  refine E_load rfl rfl rfl ?_
  refine E_const rfl ?_
  refine E_const rfl ?_
  refine E_S3 (y := 111) rfl rfl rfl rfl rfl (c_within (by omega) (by omega) (by omega)) (fun r h2 hq => ?_)
  obtain ⟨rfl, hh⟩ := hq
  subst hh
  refine E_if1 rfl (bI_R _) (fun q1 => ?_) (fun q1 => ?_)
  · replace q1 := bI_nz q1
    refine E_load rfl rfl rfl ?_
    refine E_const rfl ?_
    refine E_const rfl ?_
    refine E_S3 (y := 111) rfl rfl rfl rfl rfl (c_within (by omega) (by omega) (by omega)) (fun r h2 hq => ?_)
    obtain ⟨rfl, hh⟩ := hq
    subst hh
    refine E_if0 rfl (bI_R _) (fun q2 => ?_) (fun q2 => ?_)
    · replace q2 := bI_z q2
      refine E_const rfl ?_
      refine E_iret rfl (fun h => absurd h (by decide)) ?_
      have eF : f_bottle s k v w = (-2, s) := (if_neg (by omega)).trans (if_pos (by omega))
      rw [eF]
      exact ⟨rfl, h, c, B, rfl, Hx.refl, ⟨by omega, by omega⟩, hR, EqP.nil⟩
    · replace q2 := bI_nz q2
      refine E_load rfl rfl rfl ?_
      refine E_const rfl ?_
      refine E_const rfl ?_
      refine E_S3 (y := 111) rfl rfl rfl rfl rfl (c_within (by omega) (by omega) (by omega)) (fun r h2 hq => ?_)
      obtain ⟨rfl, hh⟩ := hq
      subst hh
      refine E_if1 rfl (bI_R _) (fun q3 => ?_) (fun q3 => ?_)
      · replace q3 := bI_nz q3
        refine E_load rfl rfl rfl ?_
        refine E_getr (c := 11) (r := 42) rfl (hL.lt 0 rfl) (hL.k 0 rfl) rfl (hR.C.g 0 11 42 (by decide)) ?_
        refine E_V0 (q := 42) (c := 0) (y := 3) rfl rfl (hL.lt 42 rfl) (hL.k 42 rfl) rfl rfl rfl rfl (j_size hL hR.list) (fun r h2 hq => ?_)
        obtain ⟨rfl, hh⟩ := hq
        subst hh
        refine E_const rfl ?_
        refine E_cmp2 rfl (by omega) (fun q4 => ?_) (fun q4 => ?_)
        · obtain ⟨n, hn⟩ := Int.eq_ofNat_of_zero_le n29.1
          have hnn : (s 29).toNat = n := by omega
          have h55 := hL.1
          refine E_load rfl rfl rfl ?_
          refine E_load rfl rfl rfl ?_
          refine E_V1 (q := 0) (c := 11) (y := 121) rfl rfl (hL.lt 0 rfl) (hL.k 0 rfl) rfl rfl rfl rfl (c_made hL hR (by omega)) (fun r h2 hq => ?_)
          obtain ⟨rfl, h1, c1, hh, hx1, ⟨m1, m2⟩, hBo, hLV, hf1⟩ := hq
          subst hh
          rw [hnn] at hBo
          refine E_store rfl rfl rfl ?_
          refine E_load rfl rfl rfl ?_
          have hp1 : mN h < mN h1 := by omega
          refine E_getrB (r := mN h + 1) rfl hp1 hBo.isB rfl hBo.2.1.2.2.2.1 ?_
          refine E_load rfl rfl rfl ?_
          refine E_putg (cl := 6) (q := mN h + 1) rfl (by omega) hBo.2.2.1.2.1 rfl (fun c_2 hc_2 => ?_)
          refine E_load rfl rfl rfl ?_
          refine E_getrB (r := mN h + 1) rfl hp1 hBo.isB rfl (show c_2 (mN h) 3 = _ from by rw [hc_2]; exact (up2_fldN (by omega)).trans hBo.2.1.2.2.2.1) ?_
          refine E_load rfl rfl rfl ?_
          refine E_putg (cl := 6) (q := mN h + 1) rfl (by omega) hBo.2.2.1.2.1 rfl (fun c_3 hc_3 => ?_)
          have hL1 := hL.x hx1
          have e3 : ∀ a k, a ≠ mN h + 1 → c_3 a k = c1 a k := fun a k ha => by
            rw [hc_3, hc_2]
            exact (up2_fldN (by omega)).trans (up2_fldN (by omega))
          have e30 : ∀ a k, a < mN h → c_3 a k = c a k := fun a k ha => (e3 a k (by omega)).trans (by rw [hf1 a ha])
          have hBo3 : Bot h1 c_3 (mN h) n k := hBo.ofE (fun j => e3 _ j (by omega)) (by rw [hc_3, hc_2]; exact (up2_fldN (by omega)).trans (up2_fldN (by omega))) (e3 _ 0 (by omega)) (e3 _ 0 (by omega))
          have hLV3 : LV c_3 (mN h + 1) v w 0 0 0 (fun _ => 0) := by
            refine ⟨⟨?_, ?_, ?_, ?_, ?_⟩, fun j hj => (e3 _ j (by omega)).trans (hLV.2 j hj)⟩
            · rw [hc_3, hc_2]; exact (up2_fldN (by omega)).trans up2_same
            · rw [hc_3]; exact up2_same
            · rw [hc_3, hc_2]; exact (up2_fldN (by omega)).trans ((up2_fldN (by omega)).trans hLV.1.2.2.1)
            · rw [hc_3, hc_2]; exact (up2_fldN (by omega)).trans ((up2_fldN (by omega)).trans hLV.1.2.2.2.1)
            · rw [hc_3, hc_2]; exact (up2_fldN (by omega)).trans ((up2_fldN (by omega)).trans hLV.1.2.2.2.2)
          have hlist := hR.list
          rw [hnn] at hlist
          have hLB3 : LBp h1 c_3 n B := (hlist.ofE (e30 42 1 (by omega)) (e30 42 2 (by omega)) (fun E f1 f2 f3 k => e30 E k f1.2)).x hx1
          have hE3 : ∀ E : Nat, c_3 42 1 = (E : Int) → 55 ≤ E ∧ E < mN h ∧ ∀ i, i < n → E < B i ∨ B i + 6 < E := fun E hE => by
            rw [e30 42 1 (by omega)] at hE
            obtain ⟨b1, b2, b3⟩ := hlist
            rcases b3 with ⟨b4, -⟩ | ⟨E2, g1, g2, g3, g4, g5, g6⟩
            · omega
            · obtain rfl : E2 = E := by omega
              exact ⟨g2.1, g2.2, g6⟩
          refine E_load rfl rfl rfl ?_
          refine E_getr (c := 11) (r := 42) rfl (hL1.lt 0 rfl) (hL1.k 0 rfl) rfl ((e30 0 11 (by omega)).trans (hR.C.g 0 11 42 (by decide))) ?_
          refine E_load rfl rfl rfl ?_
          refine E_V1 (q := 42) (c := 0) (y := 7) rfl rfl (hL1.lt 42 rfl) (hL1.k 42 rfl) rfl rfl rfl rfl (j_add (p := mN h) hL1 hLB3 (by omega) (by omega) hBo.isB (fun E hE => (hE3 E hE).2.1)) (fun r h2 hq => ?_)
          obtain ⟨rfl, h4, c4, hh, hx4, ⟨m3, m4⟩, hLB4, hf4⟩ := hq
          subst hh
          have e4 : ∀ a k, a < mN h1 → a ≠ 42 → (55 ≤ a → a < mN h → ∃ i, i < n ∧ B i ≤ a ∧ a ≤ B i + 6) → c4 a k = c_3 a k := fun a k h1 h2 h3 => hf4 a k h1 h2 fun E hE => by
            obtain ⟨g1, g2, g3⟩ := hE3 E hE
            rintro rfl
            obtain ⟨i, i1, i2, i3⟩ := h3 g1 g2
            have := g3 i i1
            omega
          refine E_pop rfl rfl ?_
          refine E_load rfl rfl rfl ?_
          have hBo4 : Bot h4 c4 (mN h) n k := (hBo3.x hx4).ofE (fun j => e4 _ j (by omega) (by omega) (by omega)) (e4 _ 0 (by omega) (by omega) (by omega)) (e4 _ 0 (by omega) (by omega) (by omega)) (e4 _ 0 (by omega) (by omega) (by omega))
          refine E_getfB (x := (n : Int)) rfl (show mN h < mN h4 by have := hBo4.1.1; omega) hBo4.isB rfl hBo4.2.1.2.1 ?_
          refine E_iret rfl (fun h => absurd h (by decide)) ?_
          have eF : f_bottle s k v w = (s 29, nbS s n k v w) := by
            unfold f_bottle
            rw [if_neg (by omega), if_neg (by omega), if_neg (by omega), hnn]
          rw [eF]
          have hbn : ∀ b : Nat, b < n → 55 ≤ B b ∧ B b + 6 < mN h := fun b hb => ⟨(hR.bot b (by omega)).2.2, (hR.bot b (by omega)).1.1.1⟩
          refine ⟨by rw [hn], h4, c4, upB B n (mN h), rfl, hx1.trans hx4, ⟨by omega, by omega⟩, hR.mkN hAA hn (by omega) rfl h55 (hx1.trans hx4) (fun a k h1 h2 => ?_) (fun b hb a k h1 h2 => ?_) hLB4 hBo4 ?_, fun a k ha => ?_⟩
          · exact (e4 a k (by omega) h2 (by omega)).trans (e30 a k (by omega))
          · have := hbn b hb
            exact (e4 a k (by omega) (by omega) (fun _ _ => ⟨b, hb, h1, h2⟩)).trans (e30 a k (by omega))
          · exact hLV3.ofE (fun j => e4 _ j (by omega) (by omega) (by omega)) (fun j => e4 _ j (by omega) (by omega) (by omega))
          · unfold FrC at ha
            exact (e4 a k (by omega) (by omega) (by omega)).trans (e30 a k (by omega))
        · refine E_const rfl ?_
          refine E_iret rfl (fun h => absurd h (by decide)) ?_
          have eF : f_bottle s k v w = (-4, s) := (if_neg (by omega)).trans ((if_neg (by omega)).trans (if_pos (by omega)))
          rw [eF]
          exact ⟨rfl, h, c, B, rfl, Hx.refl, ⟨by omega, by omega⟩, hR, EqP.nil⟩
      · replace q3 := bI_z q3
        refine E_const rfl ?_
        refine E_iret rfl (fun h => absurd h (by decide)) ?_
        have eF : f_bottle s k v w = (-2, s) := (if_neg (by omega)).trans (if_pos (by omega))
        rw [eF]
        exact ⟨rfl, h, c, B, rfl, Hx.refl, ⟨by omega, by omega⟩, hR, EqP.nil⟩
  · replace q1 := bI_z q1
    refine E_const rfl ?_
    refine E_iret rfl (fun h => absurd h (by decide)) ?_
    have eF : f_bottle s k v w = (-1, s) := if_pos (by omega)
    rw [eF]
    exact ⟨rfl, h, c, B, rfl, Hx.refl, ⟨by omega, by omega⟩, hR, EqP.nil⟩
