def PA (a k : Nat) : Bool := a == 54 || (a == 43 && (k == 20 || (k == 21 || (k == 22 || k == 23))))
theorem PA_PA : ∀ a k, PA a k = false → PA a k = false := fun _ _ h => h
theorem PT_PA : ∀ a k, PA a k = false → PT a k = false := by
  intro a k h
  simp only [PA, PT, Bool.or_eq_false_iff, Bool.and_eq_false_iff] at h ⊢
  refine ⟨h.1, ?_⟩
  rcases h.2 with h2 | h2
  · exact Or.inl h2
  · exact Or.inr h2.1
def f_act (s : Nat → Int) (x a y : Int) : Int × List Int := if ¬ isB s x ∨ ¬ btw 0 a 2 then (0, []) else if a = 0 then uA (s (37 + x.toNat)) x y else if a = 1 then kA (s (37 + x.toNat)) x (s (43 + x.toNat)) y else tA (s (37 + x.toNat)) x (s (43 + x.toNat)) y
def a_trace (L : List Int) (i : Int) : Int := if 0 ≤ i ∧ i < (L.length : Int) then L.getD i.toNat 0 else -1
set_option maxHeartbeats 4000000 in
set_option maxRecDepth 100000 in
theorem n_act {d : Nat} {h : Hp} {c : Nat → Nat → Int} {s : Nat → Int} (hL : Lay h) (hM : Mc c) (hs : c 44 = s) (hA : Inv s) {x a y : Int} (hx : inR x) (ha : inR a) : Ok (d + 12) 221 [(1, ((43 : Nat) : Int)), (0, x), (0, a), (0, y)] (wC h c) (fun r h2 => r = some (0, (f_act s x a y).1) ∧ ∃ c2, h2 = wC h c2 ∧ TrR (f_act s x a y).2 c2 ∧ Eqk PA c c2) := by
  show Ex _ none t_X11_act 0 0 _ [] (wC h c) _
  have hAA := hA
  have hG := hA.G
  obtain ⟨hI, hH, ⟨⟨n29, n30, n31, n32, n33, n34, n36⟩, nM⟩, hX⟩ := hA
  refine E_load rfl rfl rfl ?_
  refine E_const rfl ?_
  refine E_putg (cl := 12) rfl (hL.lt 43 rfl) (hL.k 43 rfl) rfl (fun c_1 hc_1 => ?_)
  have hE_1 : Eqk PA c c_1 := by rw [hc_1]; exact Eqk.up rfl
  have hM_1 : Mc c_1 := by rw [hc_1]; exact hM.up43 rfl
  have hs_1 : c_1 44 = s := by rw [hc_1]; exact (up2_oth rfl).trans hs
  have hf20_1 : c_1 43 20 = 0 := by rw [hc_1]; exact up2_same
  refine E_load rfl rfl rfl ?_
  refine E_load rfl rfl rfl ?_
  refine E_V1 (q := 43) (c := 12) (y := 143) rfl rfl (hL.lt 43 rfl) (hL.k 43 rfl) rfl rfl rfl rfl (n_isBottle hL hM_1 hs_1 (by omega) (by omega)) (fun r h2 hq => ?_)
  obtain ⟨rfl, hh⟩ := hq
  subst hh
  refine E_if0 rfl (bI_R _) (fun q1 => ?_) (fun q1 => ?_)
  · replace q1 := bI_z q1
    refine E_const rfl ?_
    refine E_iret rfl (fun h => absurd h (by decide)) ?_
    refine ⟨congrArg (fun z : Int => some (((0 : Nat), z) : AV)) ?_, c_1, rfl, ?_, hE_1⟩
    · unfold f_act; try simp only [Int.toNat_natCast]
      rw [if_pos (by omega)]
    · unfold f_act; try simp only [Int.toNat_natCast]
      rw [if_pos (by omega)]; exact ⟨hf20_1, fun j hj => absurd hj (Nat.not_lt_zero j)⟩
  · replace q1 := bI_nz q1
    obtain ⟨b, rfl⟩ := Int.eq_ofNat_of_zero_le q1.1
    have iB := hI b (by omega)
    refine E_load rfl rfl rfl ?_
    refine E_const rfl ?_
    refine E_const rfl ?_
    refine E_S3 (y := 139) rfl rfl rfl rfl rfl (m_in (by omega) (by omega) (by omega)) (fun r h2 hq => ?_)
    obtain ⟨rfl, hh⟩ := hq
    subst hh
    refine E_if1 rfl (bI_R _) (fun q2 => ?_) (fun q2 => ?_)
    · replace q2 := bI_nz q2
      refine E_load rfl rfl rfl ?_
      refine E_load rfl rfl rfl ?_
      refine E_getr (c := 12) (r := 44) rfl (hL.lt 43 rfl) (hL.k 43 rfl) rfl hM_1.c1 ?_
      refine E_const rfl ?_
      refine E_load rfl rfl rfl ?_
      refine E_add rfl ?_
      refine E_ialn (n := 943) (v := (s ((37 + b)))) rfl (hL.lt 44 rfl) (hL.k 44 rfl) (hL.l 44 rfl) (by omega) (rdS hs_1 (by omega)) ?_
      refine E_putg (cl := 12) rfl (hL.lt 43 rfl) (hL.k 43 rfl) rfl (fun c_2 hc_2 => ?_)
      have hE_2 : Eqk PA c_1 c_2 := by rw [hc_2]; exact Eqk.up rfl
      have hM_2 : Mc c_2 := by rw [hc_2]; exact hM_1.up43 rfl
      have hs_2 : c_2 44 = s := by rw [hc_2]; exact (up2_oth rfl).trans hs_1
      have hf20_2 : c_2 43 20 = 0 := by rw [hc_2]; exact (up2_fld rfl).trans hf20_1
      have hf21_2 : c_2 43 21 = (s ((37 + b))) := by rw [hc_2]; exact up2_same
      refine E_load rfl rfl rfl ?_
      refine E_load rfl rfl rfl ?_
      refine E_putg (cl := 12) rfl (hL.lt 43 rfl) (hL.k 43 rfl) rfl (fun c_3 hc_3 => ?_)
      have hE_3 : Eqk PA c_2 c_3 := by rw [hc_3]; exact Eqk.up rfl
      have hM_3 : Mc c_3 := by rw [hc_3]; exact hM_2.up43 rfl
      have hs_3 : c_3 44 = s := by rw [hc_3]; exact (up2_oth rfl).trans hs_2
      have hf20_3 : c_3 43 20 = 0 := by rw [hc_3]; exact (up2_fld rfl).trans hf20_2
      have hf21_3 : c_3 43 21 = (s ((37 + b))) := by rw [hc_3]; exact (up2_fld rfl).trans hf21_2
      have hf22_3 : c_3 43 22 = ((b : Nat) : Int) := by rw [hc_3]; exact up2_same
      refine E_load rfl rfl rfl ?_
      refine E_load rfl rfl rfl ?_
      refine E_getr (c := 12) (r := 44) rfl (hL.lt 43 rfl) (hL.k 43 rfl) rfl hM_3.c1 ?_
      refine E_const rfl ?_
      refine E_load rfl rfl rfl ?_
      refine E_add rfl ?_
      refine E_ialn (n := 943) (v := (s ((43 + b)))) rfl (hL.lt 44 rfl) (hL.k 44 rfl) (hL.l 44 rfl) (by omega) (rdS hs_3 (by omega)) ?_
      refine E_putg (cl := 12) rfl (hL.lt 43 rfl) (hL.k 43 rfl) rfl (fun c_4 hc_4 => ?_)
      have hE_4 : Eqk PA c_3 c_4 := by rw [hc_4]; exact Eqk.up rfl
      have hM_4 : Mc c_4 := by rw [hc_4]; exact hM_3.up43 rfl
      have hs_4 : c_4 44 = s := by rw [hc_4]; exact (up2_oth rfl).trans hs_3
      have hf20_4 : c_4 43 20 = 0 := by rw [hc_4]; exact (up2_fld rfl).trans hf20_3
      have hf21_4 : c_4 43 21 = (s ((37 + b))) := by rw [hc_4]; exact (up2_fld rfl).trans hf21_3
      have hf22_4 : c_4 43 22 = ((b : Nat) : Int) := by rw [hc_4]; exact (up2_fld rfl).trans hf22_3
      have hf23_4 : c_4 43 23 = (s ((43 + b))) := by rw [hc_4]; exact up2_same
      have hTT : TrR [] c_4 := ⟨hf20_4, fun j hj => absurd hj (Nat.not_lt_zero j)⟩
      have hFF : AF (s (37 + b)) (b : Int) (s (43 + b)) c_4 := ⟨hf21_4, hf22_4, hf23_4⟩
      refine E_load rfl rfl rfl ?_
      refine E_if1 rfl (by omega) (fun q3 => ?_) (fun q3 => ?_)
      · refine E_load rfl rfl rfl ?_
        refine E_const rfl ?_
        refine E_cmp1 rfl (by omega) (fun q4 => ?_) (fun q4 => ?_)
        · refine E_load rfl rfl rfl ?_
          refine E_load rfl rfl rfl ?_
          refine E_V1 (q := 43) (c := 12) (y := 220) rfl rfl (hL.lt 43 rfl) (hL.k 43 rfl) rfl rfl rfl rfl (n_tA hL hM_4 hs_4 hTT (by decide) (by omega) hFF) (fun r h2 hq => ?_)
          obtain ⟨rfl, c_5, hh, hT_5, hE0_5⟩ := hq
          subst hh
          have hE_5 : Eqk PA c_4 c_5 := hE0_5.mono PT_PA
          refine E_iret rfl (fun h => absurd h (by decide)) ?_
          refine ⟨congrArg (fun z : Int => some (((0 : Nat), z) : AV)) ?_, c_5, rfl, ?_, (hE_1.trans (hE_2.trans (hE_3.trans (hE_4.trans hE_5))))⟩
          · unfold f_act; try simp only [Int.toNat_natCast]
            rw [if_neg (by omega), if_neg (by omega), if_neg (by omega)]
          · unfold f_act; try simp only [Int.toNat_natCast]
            rw [if_neg (by omega), if_neg (by omega), if_neg (by omega)]; exact hT_5
        · refine E_load rfl rfl rfl ?_
          refine E_load rfl rfl rfl ?_
          refine E_V1 (q := 43) (c := 12) (y := 218) rfl rfl (hL.lt 43 rfl) (hL.k 43 rfl) rfl rfl rfl rfl (n_kA hL hM_4 hs_4 hTT (by decide) (by omega) hFF) (fun r h2 hq => ?_)
          obtain ⟨rfl, c_6, hh, hT_6, hE0_6⟩ := hq
          subst hh
          have hE_6 : Eqk PA c_4 c_6 := hE0_6.mono PT_PA
          refine E_goto rfl ?_
          refine E_iret rfl (fun h => absurd h (by decide)) ?_
          refine ⟨congrArg (fun z : Int => some (((0 : Nat), z) : AV)) ?_, c_6, rfl, ?_, (hE_1.trans (hE_2.trans (hE_3.trans (hE_4.trans hE_6))))⟩
          · unfold f_act; try simp only [Int.toNat_natCast]
            rw [if_neg (by omega), if_neg (by omega), if_pos (by omega)]
          · unfold f_act; try simp only [Int.toNat_natCast]
            rw [if_neg (by omega), if_neg (by omega), if_pos (by omega)]; exact hT_6
      · refine E_load rfl rfl rfl ?_
        refine E_load rfl rfl rfl ?_
        refine E_V1 (q := 43) (c := 12) (y := 216) rfl rfl (hL.lt 43 rfl) (hL.k 43 rfl) rfl rfl rfl rfl (n_uA hL hM_4 hs_4 hTT (by decide) (by omega) hFF) (fun r h2 hq => ?_)
        obtain ⟨rfl, c_7, hh, hT_7, hE0_7⟩ := hq
        subst hh
        have hE_7 : Eqk PA c_4 c_7 := hE0_7.mono PT_PA
        refine E_goto rfl ?_
        refine E_iret rfl (fun h => absurd h (by decide)) ?_
        refine ⟨congrArg (fun z : Int => some (((0 : Nat), z) : AV)) ?_, c_7, rfl, ?_, (hE_1.trans (hE_2.trans (hE_3.trans (hE_4.trans hE_7))))⟩
        · unfold f_act; try simp only [Int.toNat_natCast]
          rw [if_neg (by omega), if_pos (by omega)]
        · unfold f_act; try simp only [Int.toNat_natCast]
          rw [if_neg (by omega), if_pos (by omega)]; exact hT_7
    · replace q2 := bI_z q2
      refine E_const rfl ?_
      refine E_iret rfl (fun h => absurd h (by decide)) ?_
      refine ⟨congrArg (fun z : Int => some (((0 : Nat), z) : AV)) ?_, c_1, rfl, ?_, hE_1⟩
      · unfold f_act; try simp only [Int.toNat_natCast]
        rw [if_pos (by omega)]
      · unfold f_act; try simp only [Int.toNat_natCast]
        rw [if_pos (by omega)]; exact ⟨hf20_1, fun j hj => absurd hj (Nat.not_lt_zero j)⟩
set_option maxHeartbeats 4000000 in
set_option maxRecDepth 100000 in
theorem n_trace {d : Nat} {h : Hp} {c : Nat → Nat → Int} {s : Nat → Int} (hL : Lay h) (hM : Mc c) (hs : c 44 = s) (hA : Inv s) {L : List Int} (hT : TrR L c) (hl : L.length ≤ 20) {i : Int} (hi : inR i) : Ok (d + 6) 222 [(1, ((43 : Nat) : Int)), (0, i)] (wC h c) (fun r h2 => r = some (0, a_trace L i) ∧ ∃ c2, h2 = wC h c2 ∧ Eqk PQ c c2) := by
  show Ex _ none t_X11_trace 0 0 _ [] (wC h c) _
  refine E_load rfl rfl rfl ?_
  refine E_const rfl ?_
  refine E_load rfl rfl rfl ?_
  refine E_getf (c := 12) (v := (0, ((L.length : Nat) : Int))) rfl (hL.lt 43 rfl) (hL.k 43 rfl) rfl (fv hT.1) ?_
  refine E_const rfl ?_
  refine E_cmp3 rfl (by omega) (fun q1 => ?_) (fun q1 => ?_)
  · refine E_const rfl ?_
    refine E_const rfl ?_
    refine E_sub rfl ?_
    refine E_S3 (y := 139) rfl rfl rfl rfl rfl (m_in (by omega) (by omega) (by omega)) (fun r h2 hq => ?_)
    obtain ⟨rfl, hh⟩ := hq
    subst hh
    refine E_if0 rfl (bI_R _) (fun q2 => ?_) (fun q2 => ?_)
    · replace q2 := bI_z q2
      refine E_const rfl ?_
      refine E_iret rfl (fun h => absurd h (by decide)) ?_
      refine qryl ?_ Eqk.nil
      unfold a_trace
      first | (exfalso; omega) | (rw [if_pos (by omega)]; done) | (rw [if_neg (by omega), if_pos (by omega)]; done) | (rw [if_neg (by omega)]; done) | (rw [if_neg (by omega), if_neg (by omega), if_pos (by omega)]; done) | (rw [if_neg (by omega), if_neg (by omega)]; done) | (rw [if_neg (by omega), if_neg (by omega), if_neg (by omega), if_pos (by omega)]; done) | (rw [if_neg (by omega), if_neg (by omega), if_neg (by omega)]; done) | (rw [if_neg (by omega), if_neg (by omega), if_neg (by omega), if_neg (by omega), if_pos (by omega)]; done) | (rw [if_neg (by omega), if_neg (by omega), if_neg (by omega), if_neg (by omega)]; done) | (rw [if_neg (by omega), if_neg (by omega), if_neg (by omega), if_neg (by omega), if_neg (by omega), if_pos (by omega)]; done) | (rw [if_neg (by omega), if_neg (by omega), if_neg (by omega), if_neg (by omega), if_neg (by omega)]; done) | (rw [if_neg (by omega), if_neg (by omega), if_neg (by omega), if_neg (by omega), if_neg (by omega), if_neg (by omega), if_pos (by omega)]; done) | (rw [if_neg (by omega), if_neg (by omega), if_neg (by omega), if_neg (by omega), if_neg (by omega), if_neg (by omega)]; done)
    · replace q2 := bI_nz q2
      refine E_load rfl rfl rfl ?_
      refine E_getr (c := 12) (r := 54) rfl (hL.lt 43 rfl) (hL.k 43 rfl) rfl hM.c19 ?_
      refine E_load rfl rfl rfl ?_
      refine E_ialn (n := 20) (v := (L.getD i.toNat 0)) rfl (hL.lt 54 rfl) (hL.k 54 rfl) (hL.l 54 rfl) (by omega) ((rdS rfl rfl).trans (hT.2 _ (by omega))) ?_
      refine E_goto rfl ?_
      refine E_iret rfl (fun h => absurd h (by decide)) ?_
      refine qryl ?_ Eqk.nil
      unfold a_trace
      first | (exfalso; omega) | (rw [if_pos (by omega)]; done) | (rw [if_neg (by omega), if_pos (by omega)]; done) | (rw [if_neg (by omega)]; done) | (rw [if_neg (by omega), if_neg (by omega), if_pos (by omega)]; done) | (rw [if_neg (by omega), if_neg (by omega)]; done) | (rw [if_neg (by omega), if_neg (by omega), if_neg (by omega), if_pos (by omega)]; done) | (rw [if_neg (by omega), if_neg (by omega), if_neg (by omega)]; done) | (rw [if_neg (by omega), if_neg (by omega), if_neg (by omega), if_neg (by omega), if_pos (by omega)]; done) | (rw [if_neg (by omega), if_neg (by omega), if_neg (by omega), if_neg (by omega)]; done) | (rw [if_neg (by omega), if_neg (by omega), if_neg (by omega), if_neg (by omega), if_neg (by omega), if_pos (by omega)]; done) | (rw [if_neg (by omega), if_neg (by omega), if_neg (by omega), if_neg (by omega), if_neg (by omega)]; done) | (rw [if_neg (by omega), if_neg (by omega), if_neg (by omega), if_neg (by omega), if_neg (by omega), if_neg (by omega), if_pos (by omega)]; done) | (rw [if_neg (by omega), if_neg (by omega), if_neg (by omega), if_neg (by omega), if_neg (by omega), if_neg (by omega)]; done)
  · refine E_load rfl rfl rfl ?_
    refine E_getf (c := 12) (v := (0, ((L.length : Nat) : Int))) rfl (hL.lt 43 rfl) (hL.k 43 rfl) rfl (fv hT.1) ?_
    refine E_goto rfl ?_
    refine E_const rfl ?_
    refine E_sub rfl ?_
    refine E_S3 (y := 139) rfl rfl rfl rfl rfl (m_in (by omega) (by omega) (by omega)) (fun r h2 hq => ?_)
    obtain ⟨rfl, hh⟩ := hq
    subst hh
    refine E_if0 rfl (bI_R _) (fun q3 => ?_) (fun q3 => ?_)
    · replace q3 := bI_z q3
      refine E_const rfl ?_
      refine E_iret rfl (fun h => absurd h (by decide)) ?_
      refine qryl ?_ Eqk.nil
      unfold a_trace
      first | (exfalso; omega) | (rw [if_pos (by omega)]; done) | (rw [if_neg (by omega), if_pos (by omega)]; done) | (rw [if_neg (by omega)]; done) | (rw [if_neg (by omega), if_neg (by omega), if_pos (by omega)]; done) | (rw [if_neg (by omega), if_neg (by omega)]; done) | (rw [if_neg (by omega), if_neg (by omega), if_neg (by omega), if_pos (by omega)]; done) | (rw [if_neg (by omega), if_neg (by omega), if_neg (by omega)]; done) | (rw [if_neg (by omega), if_neg (by omega), if_neg (by omega), if_neg (by omega), if_pos (by omega)]; done) | (rw [if_neg (by omega), if_neg (by omega), if_neg (by omega), if_neg (by omega)]; done) | (rw [if_neg (by omega), if_neg (by omega), if_neg (by omega), if_neg (by omega), if_neg (by omega), if_pos (by omega)]; done) | (rw [if_neg (by omega), if_neg (by omega), if_neg (by omega), if_neg (by omega), if_neg (by omega)]; done) | (rw [if_neg (by omega), if_neg (by omega), if_neg (by omega), if_neg (by omega), if_neg (by omega), if_neg (by omega), if_pos (by omega)]; done) | (rw [if_neg (by omega), if_neg (by omega), if_neg (by omega), if_neg (by omega), if_neg (by omega), if_neg (by omega)]; done)
    · replace q3 := bI_nz q3
      refine E_load rfl rfl rfl ?_
      refine E_getr (c := 12) (r := 54) rfl (hL.lt 43 rfl) (hL.k 43 rfl) rfl hM.c19 ?_
      refine E_load rfl rfl rfl ?_
      refine E_ialn (n := 20) (v := (L.getD i.toNat 0)) rfl (hL.lt 54 rfl) (hL.k 54 rfl) (hL.l 54 rfl) (by omega) ((rdS rfl rfl).trans (hT.2 _ (by omega))) ?_
      refine E_goto rfl ?_
      refine E_iret rfl (fun h => absurd h (by decide)) ?_
      refine qryl ?_ Eqk.nil
      unfold a_trace
      first | (exfalso; omega) | (rw [if_pos (by omega)]; done) | (rw [if_neg (by omega), if_pos (by omega)]; done) | (rw [if_neg (by omega)]; done) | (rw [if_neg (by omega), if_neg (by omega), if_pos (by omega)]; done) | (rw [if_neg (by omega), if_neg (by omega)]; done) | (rw [if_neg (by omega), if_neg (by omega), if_neg (by omega), if_pos (by omega)]; done) | (rw [if_neg (by omega), if_neg (by omega), if_neg (by omega)]; done) | (rw [if_neg (by omega), if_neg (by omega), if_neg (by omega), if_neg (by omega), if_pos (by omega)]; done) | (rw [if_neg (by omega), if_neg (by omega), if_neg (by omega), if_neg (by omega)]; done) | (rw [if_neg (by omega), if_neg (by omega), if_neg (by omega), if_neg (by omega), if_neg (by omega), if_pos (by omega)]; done) | (rw [if_neg (by omega), if_neg (by omega), if_neg (by omega), if_neg (by omega), if_neg (by omega)]; done) | (rw [if_neg (by omega), if_neg (by omega), if_neg (by omega), if_neg (by omega), if_neg (by omega), if_neg (by omega), if_pos (by omega)]; done) | (rw [if_neg (by omega), if_neg (by omega), if_neg (by omega), if_neg (by omega), if_neg (by omega), if_neg (by omega)]; done)
set_option maxHeartbeats 4000000 in
set_option maxRecDepth 100000 in
theorem n_count {d : Nat} {h : Hp} {c : Nat → Nat → Int} {s : Nat → Int} (hL : Lay h) (hM : Mc c) (hs : c 44 = s) (hA : Inv s) {L : List Int} (hT : TrR L c) (hl : L.length ≤ 20) {w : Int} (hw : inR w) : Ok (d + 6) 226 [(1, ((43 : Nat) : Int)), (0, w)] (wC h c) (fun r h2 => r = some (0, a_count s (L.length : Int) w) ∧ ∃ c2, h2 = wC h c2 ∧ Eqk PQ c c2) := by
  show Ex _ none t_X11_count 0 0 _ [] (wC h c) _
  have hAA := hA
  have hG := hA.G
  obtain ⟨hI, hH, ⟨⟨n29, n30, n31, n32, n33, n34, n36⟩, nM⟩, hX⟩ := hA
  refine E_load rfl rfl rfl ?_
  refine E_const rfl ?_
  refine E_cmp1 rfl (by omega) (fun q1 => ?_) (fun q1 => ?_)
  · refine E_load rfl rfl rfl ?_
    refine E_const rfl ?_
    refine E_cmp1 rfl (by omega) (fun q2 => ?_) (fun q2 => ?_)
    · refine E_load rfl rfl rfl ?_
      refine E_const rfl ?_
      refine E_const rfl ?_
      refine E_S3 (y := 139) rfl rfl rfl rfl rfl (m_in (by omega) (by omega) (by omega)) (fun r h2 hq => ?_)
      obtain ⟨rfl, hh⟩ := hq
      subst hh
      refine E_if0 rfl (bI_R _) (fun q3 => ?_) (fun q3 => ?_)
      · replace q3 := bI_z q3
        refine E_const rfl ?_
        refine E_iret rfl (fun h => absurd h (by decide)) ?_
        refine qryl ?_ Eqk.nil
        unfold a_count
        try simp only [Int.toNat_natCast]
        first | (exfalso; omega) | (rw [if_pos (by omega)]; done) | (rw [if_neg (by omega), if_pos (by omega)]; done) | (rw [if_neg (by omega)]; done) | (rw [if_neg (by omega), if_neg (by omega), if_pos (by omega)]; done) | (rw [if_neg (by omega), if_neg (by omega)]; done) | (rw [if_neg (by omega), if_neg (by omega), if_neg (by omega), if_pos (by omega)]; done) | (rw [if_neg (by omega), if_neg (by omega), if_neg (by omega)]; done) | (rw [if_neg (by omega), if_neg (by omega), if_neg (by omega), if_neg (by omega), if_pos (by omega)]; done) | (rw [if_neg (by omega), if_neg (by omega), if_neg (by omega), if_neg (by omega)]; done) | (rw [if_neg (by omega), if_neg (by omega), if_neg (by omega), if_neg (by omega), if_neg (by omega), if_pos (by omega)]; done) | (rw [if_neg (by omega), if_neg (by omega), if_neg (by omega), if_neg (by omega), if_neg (by omega)]; done) | (rw [if_neg (by omega), if_neg (by omega), if_neg (by omega), if_neg (by omega), if_neg (by omega), if_neg (by omega), if_pos (by omega)]; done) | (rw [if_neg (by omega), if_neg (by omega), if_neg (by omega), if_neg (by omega), if_neg (by omega), if_neg (by omega)]; done)
      · replace q3 := bI_nz q3
        obtain ⟨k, rfl⟩ := Int.eq_ofNat_of_zero_le q3.1
        refine E_load rfl rfl rfl ?_
        refine E_getr (c := 12) (r := 44) rfl (hL.lt 43 rfl) (hL.k 43 rfl) rfl hM.c1 ?_
        refine E_const rfl ?_
        refine E_load rfl rfl rfl ?_
        refine E_add rfl ?_
        refine E_ialn (n := 943) (v := (s ((29 + k)))) rfl (hL.lt 44 rfl) (hL.k 44 rfl) (hL.l 44 rfl) (by omega) (rdS hs (by omega)) ?_
        refine E_goto rfl ?_
        refine E_iret rfl (fun h => absurd h (by decide)) ?_
        refine qryl ?_ Eqk.nil
        unfold a_count
        try simp only [Int.toNat_natCast]
        first | (exfalso; omega) | (rw [if_pos (by omega)]; done) | (rw [if_neg (by omega), if_pos (by omega)]; done) | (rw [if_neg (by omega)]; done) | (rw [if_neg (by omega), if_neg (by omega), if_pos (by omega)]; done) | (rw [if_neg (by omega), if_neg (by omega)]; done) | (rw [if_neg (by omega), if_neg (by omega), if_neg (by omega), if_pos (by omega)]; done) | (rw [if_neg (by omega), if_neg (by omega), if_neg (by omega)]; done) | (rw [if_neg (by omega), if_neg (by omega), if_neg (by omega), if_neg (by omega), if_pos (by omega)]; done) | (rw [if_neg (by omega), if_neg (by omega), if_neg (by omega), if_neg (by omega)]; done) | (rw [if_neg (by omega), if_neg (by omega), if_neg (by omega), if_neg (by omega), if_neg (by omega), if_pos (by omega)]; done) | (rw [if_neg (by omega), if_neg (by omega), if_neg (by omega), if_neg (by omega), if_neg (by omega)]; done) | (rw [if_neg (by omega), if_neg (by omega), if_neg (by omega), if_neg (by omega), if_neg (by omega), if_neg (by omega), if_pos (by omega)]; done) | (rw [if_neg (by omega), if_neg (by omega), if_neg (by omega), if_neg (by omega), if_neg (by omega), if_neg (by omega)]; done)
    · refine E_load rfl rfl rfl ?_
      refine E_getr (c := 12) (r := 44) rfl (hL.lt 43 rfl) (hL.k 43 rfl) rfl hM.c1 ?_
      refine E_const rfl ?_
      refine E_ialn (n := 943) (v := (s 36)) rfl (hL.lt 44 rfl) (hL.k 44 rfl) (hL.l 44 rfl) (by omega) (rdS hs (by omega)) ?_
      refine E_goto rfl ?_
      refine E_iret rfl (fun h => absurd h (by decide)) ?_
      refine qryl ?_ Eqk.nil
      unfold a_count
      try simp only [Int.toNat_natCast]
      first | (exfalso; omega) | (rw [if_pos (by omega)]; done) | (rw [if_neg (by omega), if_pos (by omega)]; done) | (rw [if_neg (by omega)]; done) | (rw [if_neg (by omega), if_neg (by omega), if_pos (by omega)]; done) | (rw [if_neg (by omega), if_neg (by omega)]; done) | (rw [if_neg (by omega), if_neg (by omega), if_neg (by omega), if_pos (by omega)]; done) | (rw [if_neg (by omega), if_neg (by omega), if_neg (by omega)]; done) | (rw [if_neg (by omega), if_neg (by omega), if_neg (by omega), if_neg (by omega), if_pos (by omega)]; done) | (rw [if_neg (by omega), if_neg (by omega), if_neg (by omega), if_neg (by omega)]; done) | (rw [if_neg (by omega), if_neg (by omega), if_neg (by omega), if_neg (by omega), if_neg (by omega), if_pos (by omega)]; done) | (rw [if_neg (by omega), if_neg (by omega), if_neg (by omega), if_neg (by omega), if_neg (by omega)]; done) | (rw [if_neg (by omega), if_neg (by omega), if_neg (by omega), if_neg (by omega), if_neg (by omega), if_neg (by omega), if_pos (by omega)]; done) | (rw [if_neg (by omega), if_neg (by omega), if_neg (by omega), if_neg (by omega), if_neg (by omega), if_neg (by omega)]; done)
  · refine E_load rfl rfl rfl ?_
    refine E_getf (c := 12) (v := (0, ((L.length : Nat) : Int))) rfl (hL.lt 43 rfl) (hL.k 43 rfl) rfl (fv hT.1) ?_
    refine E_goto rfl ?_
    refine E_iret rfl (fun h => absurd h (by decide)) ?_
    refine qryl ?_ Eqk.nil
    unfold a_count
    try simp only [Int.toNat_natCast]
    first | (exfalso; omega) | (rw [if_pos (by omega)]; done) | (rw [if_neg (by omega), if_pos (by omega)]; done) | (rw [if_neg (by omega)]; done) | (rw [if_neg (by omega), if_neg (by omega), if_pos (by omega)]; done) | (rw [if_neg (by omega), if_neg (by omega)]; done) | (rw [if_neg (by omega), if_neg (by omega), if_neg (by omega), if_pos (by omega)]; done) | (rw [if_neg (by omega), if_neg (by omega), if_neg (by omega)]; done) | (rw [if_neg (by omega), if_neg (by omega), if_neg (by omega), if_neg (by omega), if_pos (by omega)]; done) | (rw [if_neg (by omega), if_neg (by omega), if_neg (by omega), if_neg (by omega)]; done) | (rw [if_neg (by omega), if_neg (by omega), if_neg (by omega), if_neg (by omega), if_neg (by omega), if_pos (by omega)]; done) | (rw [if_neg (by omega), if_neg (by omega), if_neg (by omega), if_neg (by omega), if_neg (by omega)]; done) | (rw [if_neg (by omega), if_neg (by omega), if_neg (by omega), if_neg (by omega), if_neg (by omega), if_neg (by omega), if_pos (by omega)]; done) | (rw [if_neg (by omega), if_neg (by omega), if_neg (by omega), if_neg (by omega), if_neg (by omega), if_neg (by omega)]; done)
def PI (a k : Nat) : Bool := a == 45 || (a == 43 && k == 4)
theorem PI_PI : ∀ a k, PI a k = false → PI a k = false := fun _ _ h => h
def PU (a _k : Nat) : Bool := a == 44
theorem PU_PU : ∀ a k, PU a k = false → PU a k = false := fun _ _ h => h
set_option maxHeartbeats 4000000 in
set_option maxRecDepth 100000 in
theorem l_image {d : Nat} {h : Hp} {s : Nat → Int} (hL : Lay h)  : ∀ (n i : Nat), i + n = 943 → ∀ (f : Nat → Int), (∀ k, k < i → f k = s k) → ∀ c, Mc c → c 44 = s → c 45 = f → Ex (d) none t_X11_image 0 2 [(1, ((43 : Nat) : Int)), (0, (i : Int))] [] (wC h c) (fun r h2 => r = some (0, s 29) ∧ ∃ c2, h2 = wC h c2 ∧ (∀ k, k < 943 → c2 45 k = s k) ∧ c2 43 4 = 1 ∧ Eqk PI c c2) := by
  intro n
  induction n with
  | zero =>
    intro i hi f ha c hM hs h45c
    refine E_load rfl rfl rfl ?_
    refine E_const rfl ?_
    refine E_cmp3 rfl (by omega) (fun q1 => ?_) (fun q1 => ?_)
    · refine E_load rfl rfl rfl ?_
      refine E_const rfl ?_
      refine E_putzg (cl := 12) rfl (hL.lt 43 rfl) (hL.k 43 rfl) rfl (by decide) (fun c_1 hc_1 => ?_)
      have hE_1 : Eqk PI c c_1 := by rw [hc_1]; exact Eqk.up rfl
      have hM_1 : Mc c_1 := by rw [hc_1]; exact hM.up43 rfl
      have hs_1 : c_1 44 = s := by rw [hc_1]; exact (up2_oth rfl).trans hs
      have hf4_1 : c_1 43 4 = 1 := by rw [hc_1]; exact up2_same
      have hr45_1 : c_1 45 = f := by rw [hc_1]; exact (up2_oth rfl).trans h45c
      refine E_load rfl rfl rfl ?_
      refine E_getr (c := 12) (r := 44) rfl (hL.lt 43 rfl) (hL.k 43 rfl) rfl hM_1.c1 ?_
      refine E_const rfl ?_
      refine E_ialn (n := 943) (v := (s 29)) rfl (hL.lt 44 rfl) (hL.k 44 rfl) (hL.l 44 rfl) (by omega) (rdS hs_1 (by omega)) ?_
      refine E_iret rfl (fun h => absurd h (by decide)) ?_
      exact ⟨rfl, c_1, rfl, fun k hk => by rw [hc_1, up2_oth rfl, h45c]; exact ha k (by omega), hf4_1, hE_1⟩
    · exfalso; omega
  | succ n ih =>
    intro i hi f ha c hM hs h45c
    refine E_load rfl rfl rfl ?_
    refine E_const rfl ?_
    refine E_cmp3 rfl (by omega) (fun q1 => ?_) (fun q1 => ?_)
    · exfalso; omega
    · refine E_load rfl rfl rfl ?_
      refine E_getr (c := 12) (r := 45) rfl (hL.lt 43 rfl) (hL.k 43 rfl) rfl hM.c2 ?_
      refine E_load rfl rfl rfl ?_
      refine E_load rfl rfl rfl ?_
      refine E_getr (c := 12) (r := 44) rfl (hL.lt 43 rfl) (hL.k 43 rfl) rfl hM.c1 ?_
      refine E_load rfl rfl rfl ?_
      refine E_ialn (n := 943) (v := (s i)) rfl (hL.lt 44 rfl) (hL.k 44 rfl) (hL.l 44 rfl) (by omega) (rdS hs (by omega)) ?_
      refine E_iasg (n := 943) (j := i) rfl (hL.lt 45 rfl) (hL.k 45 rfl) (hL.l 45 rfl) (by omega) (by omega) (fun c_1 hc_1 => ?_)
      have hE_1 : Eqk PI c c_1 := by rw [hc_1]; exact Eqk.up rfl
      have hM_1 : Mc c_1 := by rw [hc_1]; exact hM.upo rfl
      have hs_1 : c_1 44 = s := by rw [hc_1]; exact (up2_oth rfl).trans hs
      have hr45_1 : c_1 45 = upd1 f i (s i) := by rw [hc_1]; exact up2_rowS h45c
      refine E_iinc rfl rfl rfl ?_
      refine E_goto rfl ?_
      refine (ih (i + 1) (by omega) _ (fun k hk => ?_) c_1 hM_1 hs_1 hr45_1).mono ?_
      · unfold upd1
        split
        · next e => rw [e]
        · exact ha k (by omega)
      rintro r hE ⟨e1, c9, e2, e4, e5, e3⟩
      exact ⟨e1, c9, e2, e4, e5, Eqk.trans hE_1 e3⟩
set_option maxHeartbeats 4000000 in
set_option maxRecDepth 100000 in
theorem n_image {d : Nat} {h : Hp} {c : Nat → Nat → Int} {s : Nat → Int} (hL : Lay h) (hM : Mc c) (hs : c 44 = s) (hA : Inv s) : Ok (d) 224 [(1, ((43 : Nat) : Int))] (wC h c) (fun r h2 => r = some (0, s 29) ∧ ∃ c2, h2 = wC h c2 ∧ (∀ k, k < 943 → c2 45 k = s k) ∧ c2 43 4 = 1 ∧ Eqk PI c c2) := by
  show Ex _ none t_X11_image 0 0 _ [] (wC h c) _
  refine E_const rfl ?_
  refine E_store rfl rfl rfl ?_
  exact l_image hL 943 0 rfl _ (fun k hk => absurd hk (Nat.not_lt_zero k)) c hM hs rfl
def unS (s im : Nat → Int) : Nat → Int := fun k => if k < 943 then im k else s k
set_option maxHeartbeats 4000000 in
set_option maxRecDepth 100000 in
theorem l_undo {d : Nat} {h : Hp} {s : Nat → Int} (hL : Lay h) {im f45 : Nat → Int} (h45 : ∀ k, k < 943 → f45 k = im k) : ∀ (n i : Nat), i + n = 943 → ∀ c, Mc c → c 44 = (fun k => if k < i then im k else s k) → c 45 = f45 → Ex (d) none t_X11_undo 0 12 [(1, ((43 : Nat) : Int)), (0, (i : Int))] [] (wC h c) (fun r h2 => r = some (0, im 29) ∧ ∃ c2, h2 = wC h c2 ∧ c2 44 = unS s im ∧ Eqk PU c c2) := by
  intro n
  induction n with
  | zero =>
    intro i hi   c hM hs h45c
    refine E_load rfl rfl rfl ?_
    refine E_const rfl ?_
    refine E_cmp3 rfl (by omega) (fun q1 => ?_) (fun q1 => ?_)
    · refine E_load rfl rfl rfl ?_
      refine E_getr (c := 12) (r := 44) rfl (hL.lt 43 rfl) (hL.k 43 rfl) rfl hM.c1 ?_
      refine E_const rfl ?_
      refine E_ialn (n := 943) (v := (im 29)) rfl (hL.lt 44 rfl) (hL.k 44 rfl) (hL.l 44 rfl) (by omega) ((rdS hs (by omega)).trans (if_pos (by omega))) ?_
      refine E_iret rfl (fun h => absurd h (by decide)) ?_
      exact ⟨by first | rfl | rfl, c, rfl, hs.trans (by rw [show i = 943 by omega]; rfl), Eqk.nil⟩
    · exfalso; omega
  | succ n ih =>
    intro i hi   c hM hs h45c
    refine E_load rfl rfl rfl ?_
    refine E_const rfl ?_
    refine E_cmp3 rfl (by omega) (fun q1 => ?_) (fun q1 => ?_)
    · exfalso; omega
    · refine E_load rfl rfl rfl ?_
      refine E_getr (c := 12) (r := 44) rfl (hL.lt 43 rfl) (hL.k 43 rfl) rfl hM.c1 ?_
      refine E_load rfl rfl rfl ?_
      refine E_load rfl rfl rfl ?_
      refine E_getr (c := 12) (r := 45) rfl (hL.lt 43 rfl) (hL.k 43 rfl) rfl hM.c2 ?_
      refine E_load rfl rfl rfl ?_
      refine E_ialn (n := 943) (v := (f45 i)) rfl (hL.lt 45 rfl) (hL.k 45 rfl) (hL.l 45 rfl) (by omega) (rdS h45c (by omega)) ?_
      refine E_iasg (n := 943) (j := i) rfl (hL.lt 44 rfl) (hL.k 44 rfl) (hL.l 44 rfl) (by omega) (by omega) (fun c_1 hc_1 => ?_)
      have hE_1 : Eqk PU c c_1 := by rw [hc_1]; exact Eqk.up rfl
      have hM_1 : Mc c_1 := by rw [hc_1]; exact hM.upo rfl
      have hs_1 : c_1 44 = upd1 (fun k => if k < i then im k else s k) i (f45 i) := by rw [hc_1]; exact up2_rowS hs
      have hr45_1 : c_1 45 = f45 := by rw [hc_1]; exact (up2_oth rfl).trans h45c
      refine E_iinc rfl rfl rfl ?_
      refine E_goto rfl ?_
      refine (ih (i + 1) (by omega) c_1 hM_1 (hs_1.trans ?_) hr45_1).mono ?_
      · funext k
        unfold upd1
        by_cases e : k = i
        · rw [if_pos e, if_pos (by omega), e, h45 i (by omega)]
        · rw [if_neg e]
          by_cases e2 : k < i
          · exact (if_pos e2).trans (if_pos (by omega)).symm
          · exact (if_neg e2).trans (if_neg (by omega)).symm
      rintro r hE ⟨e1, c9, e2, e4, e3⟩
      exact ⟨e1, c9, e2, e4, Eqk.trans hE_1 e3⟩
set_option maxHeartbeats 4000000 in
set_option maxRecDepth 100000 in
theorem n_undo {d : Nat} {h : Hp} {c : Nat → Nat → Int} {s : Nat → Int} (hL : Lay h) (hM : Mc c) (hs : c 44 = s) {im : Nat → Int} (h45 : ∀ k, k < 943 → c 45 k = im k) {hi : Int} (hi4 : c 43 4 = hi) (hi01 : hi = 0 ∨ hi = 1) : Ok (d) 225 [(1, ((43 : Nat) : Int))] (wC h c) (fun r h2 => r = some (0, if hi = 0 then -3 else im 29) ∧ ∃ c2, h2 = wC h c2 ∧ c2 44 = (if hi = 0 then s else unS s im) ∧ Eqk PU c c2) := by
  show Ex _ none t_X11_undo 0 0 _ [] (wC h c) _
  refine E_load rfl rfl rfl ?_
  refine E_getf (c := 12) (v := (0, hi)) rfl (hL.lt 43 rfl) (hL.k 43 rfl) rfl (fv hi4) ?_
  refine E_if1 rfl (by omega) (fun q1 => ?_) (fun q1 => ?_)
  · refine E_const rfl ?_
    refine E_store rfl rfl rfl ?_
    rw [if_neg q1, if_neg q1]
    exact l_undo hL h45 943 0 rfl c hM (hs.trans (by funext k; exact (if_neg (Nat.not_lt_zero k)).symm)) rfl
  · refine E_const rfl ?_
    refine E_iret rfl (fun h => absurd h (by decide)) ?_
    exact ⟨by rw [if_pos q1], c, rfl, by rw [if_pos q1]; exact hs, Eqk.nil⟩
