theorem pbS_ge {s : Nat → Int} : ∀ (n b : Nat) (pt : Nat → Int) (many : Int), many ≤ (pbS s n b pt many).1
  | 0, _, _, many => Int.le_refl many
  | n + 1, b, pt, many => by
    have h0 := pbS_ge (s := s) n (b + 1) pt many
    rw [pbS_s]
    split
    · exact h0
    · unfold upG
      split
      · exact h0
      · omega
def pbA (s : Nat → Int) : GR := pbS s (s 29).toNat 0 (fun _ => -5) 0
def a_match (s : Nat → Int) (w : Int) : Int := if w ≠ 0 ∧ ¬ isB s (w - 10) then -1 else if w = 0 then (pbA s).1 else (pbA s).2 (w - 10).toNat
set_option maxHeartbeats 4000000 in
set_option maxRecDepth 100000 in
theorem l_match {d : Nat} {h : Hp} {s : Nat → Int} (hL : Lay h) {f49 : Nat → Int} {w : Int} {Q : Option AV → Hp → Prop} {c0 : Nat → Nat → Int} (K : ∀ c, Mc c → c 44 = s → c 49 = f49 → (∀ j, j < 6 → c 52 j = -5) → Eqk PQ c0 c → Ex (d) none t_X11_match 0 43 [(1, ((43 : Nat) : Int)), (0, w), (0, 6)] [] (wC h c) Q) : ∀ (n i : Nat), i + n = 6 → ∀ (f : Nat → Int), (∀ j : Nat, j < i → f j = -5) → ∀ c, Mc c → c 44 = s → c 52 = f → c 49 = f49 → Eqk PQ c0 c → Ex (d) none t_X11_match 0 23 [(1, ((43 : Nat) : Int)), (0, w), (0, (i : Int))] [] (wC h c) (Q) := by
  intro n
  induction n with
  | zero =>
    intro i hi f ha c hM hs h52c h49c hEE
    refine E_load rfl rfl rfl ?_
    refine E_const rfl ?_
    refine E_cmp3 rfl (by omega) (fun q1 => ?_) (fun q1 => ?_)
    · subst h52c
      rw [show i = 6 by omega]
      exact K c hM hs h49c (fun j hj => ha j (by omega)) hEE
    · exfalso; omega
  | succ n ih =>
    intro i hi f ha c hM hs h52c h49c hEE
    refine E_load rfl rfl rfl ?_
    refine E_const rfl ?_
    refine E_cmp3 rfl (by omega) (fun q1 => ?_) (fun q1 => ?_)
    · exfalso; omega
    · refine E_load rfl rfl rfl ?_
      refine E_getr (c := 12) (r := 52) rfl (hL.lt 43 rfl) (hL.k 43 rfl) rfl hM.c16 ?_
      refine E_load rfl rfl rfl ?_
      refine E_const rfl ?_
      refine E_iasg (n := 6) (j := i) rfl (hL.lt 52 rfl) (hL.k 52 rfl) (hL.l 52 rfl) (by omega) (by omega) (fun c_1 hc_1 => ?_)
      have hE_1 : Eqk PQ c c_1 := by rw [hc_1]; exact Eqk.up rfl
      have hM_1 : Mc c_1 := by rw [hc_1]; exact hM.upo rfl
      have hs_1 : c_1 44 = s := by rw [hc_1]; exact (up2_oth rfl).trans hs
      have hr52_1 : c_1 52 = upd1 f i (-5) := by rw [hc_1]; exact up2_rowS h52c
      refine E_iinc rfl rfl rfl ?_
      refine E_goto rfl ?_
      refine ih (i + 1) (by omega) _ (fun j hj => ?_) c_1 hM_1 hs_1 hr52_1 (by rw [hc_1, up2_oth rfl]; exact h49c) (hEE.trans hE_1)
      unfold upd1
      split
      · rfl
      · exact ha j (by omega)
set_option maxHeartbeats 4000000 in
set_option maxRecDepth 100000 in
theorem n_match {d : Nat} {h : Hp} {c : Nat → Nat → Int} {s : Nat → Int} (hL : Lay h) (hM : Mc c) (hs : c 44 = s) (hA : Inv s) {w : Int} (hw : inR w) : Ok (d + 12) 197 [(1, ((43 : Nat) : Int)), (0, w)] (wC h c) (fun r h2 => r = some (0, a_match s w) ∧ ∃ c2, h2 = wC h c2 ∧ Eqk PQ c c2) := by
  show Ex _ none t_X11_match 0 0 _ [] (wC h c) _
  have hAA := hA
  have hG := hA.G
  obtain ⟨hI, hH, ⟨⟨n29, n30, n31, n32, n33, n34, n36⟩, nM⟩, hX⟩ := hA
  refine E_load rfl rfl rfl ?_
  refine E_if0 rfl (by omega) (fun q1 => ?_) (fun q1 => ?_)
  · refine E_load rfl rfl rfl ?_
    refine E_V0 (q := 43) (c := 12) (y := 189) rfl rfl (hL.lt 43 rfl) (hL.k 43 rfl) rfl rfl rfl rfl (n_lookS hL hM hs hG) (fun r h2 hq => ?_)
    obtain ⟨rfl, c_1, hh, h49_1, hE0_1⟩ := hq
    subst hh
    have hE_1 : Eqk PQ c c_1 := hE0_1.mono P49_PQ
    have hM_1 : Mc c_1 := hM.of (hE0_1.row 43 (fun _ => rfl))
    have hs_1 : c_1 44 = s := (hE0_1.row 44 (fun _ => rfl)).trans hs
    obtain ⟨f49, hr49_1⟩ : ∃ f, c_1 49 = f := ⟨_, rfl⟩
    have hsay : SAY s f49 := by rw [← hr49_1]; exact h49_1
    refine E_const rfl ?_
    refine E_store rfl rfl rfl ?_
    refine l_match hL (f49 := f49) (c0 := c) (fun c_1 hM_1 hs_1 h49 h52 hEE => ?_) 6 0 rfl _ (fun j hj => absurd hj (Nat.not_lt_zero j)) c_1 hM_1 hs_1 rfl hr49_1 hE_1
    refine E_load rfl rfl rfl ?_
    refine E_const rfl ?_
    refine E_putg (cl := 12) rfl (hL.lt 43 rfl) (hL.k 43 rfl) rfl (fun c_2 hc_2 => ?_)
    have hE_2 : Eqk PQ c_1 c_2 := by rw [hc_2]; exact Eqk.up rfl
    have hM_2 : Mc c_2 := by rw [hc_2]; exact hM_1.up43 rfl
    have hs_2 : c_2 44 = s := by rw [hc_2]; exact (up2_oth rfl).trans hs_1
    have hf18_2 : c_2 43 18 = (-1) := by rw [hc_2]; exact up2_same
    refine E_load rfl rfl rfl ?_
    refine E_const rfl ?_
    refine E_const rfl ?_
    have hpr : PTr (fun _ => -5) := fun j hj => Or.inl rfl
    have hge := pbS_ge (s := s) (s 29).toNat 0 (fun _ => -5) 0
    have hin := pbS_in (s := s) (s 29).toNat 0 (fun _ => -5) 0 (by omega) hpr (by omega)
    have h49_2 : c_2 49 = f49 := by rw [hc_2, up2_oth rfl]; exact h49
    have ko := n_pairs (d := d + 10 - (s 29).toNat) hL hG hsay (s 29).toNat 0 0 (by omega) (by omega) (fun _ => -5) hpr (-1, fun j => c_2 53 j) ⟨Int.le_refl _, show (-1 : Int) ≤ 50 by omega⟩ c_2 hM_2 hs_2 h49_2 ⟨fun j hj => by rw [hc_2, up2_oth rfl]; exact h52 j hj, by rw [hc_2]; exact up2_same, fun j hj => rfl⟩
    rw [show d + 10 - (s 29).toNat + (s 29).toNat + 1 = d + 11 by omega] at ko
    refine E_V2 (q := 43) (c := 12) (y := 196) rfl rfl (hL.lt 43 rfl) (hL.k 43 rfl) rfl rfl rfl rfl (ko) (fun r h2 hq => ?_)
    obtain ⟨rfl, c_3, hh, hO3, hE0_3⟩ := hq
    subst hh
    have hE_3 : Eqk PQ c_2 c_3 := hE0_3.mono P53_PQ
    have hM_3 := hM_2.p53 hE0_3
    have hs_3 : c_3 44 = s := (hE0_3.row 44 (fun _ => rfl)).trans hs_2
    rw [show upG (-1, fun j => c_2 53 j) (pbS s (s 29).toNat 0 (fun _ => -5) 0) = pbS s (s 29).toNat 0 (fun _ => -5) 0 from if_pos (show (-1 : Int) < (pbS s (s 29).toNat 0 (fun _ => -5) 0).1 by omega)] at hO3
    refine E_load rfl rfl rfl ?_
    refine E_if1 rfl (by omega) (fun q1 => ?_) (fun q1 => ?_)
    · refine E_load rfl rfl rfl ?_
      refine E_getr (c := 12) (r := 53) rfl (hL.lt 43 rfl) (hL.k 43 rfl) rfl hM_3.c17 ?_
      refine E_load rfl rfl rfl ?_
      refine E_const rfl ?_
      refine E_sub rfl ?_
      refine E_ialn (n := 6) (v := (pbA s).2 (w - 10).toNat) rfl (hL.lt 53 rfl) (hL.k 53 rfl) (hL.l 53 rfl) (by omega) ((rdS rfl rfl).trans (hO3.2.2 _ (by omega))) ?_
      refine E_iret rfl (fun h => absurd h (by decide)) ?_
      refine qryl ?_ (hEE.trans (hE_2.trans hE_3))
      unfold a_match
      first | (exfalso; omega) | (rw [if_pos (by omega)]; done) | (rw [if_neg (by omega), if_pos (by omega)]; done) | (rw [if_neg (by omega)]; done) | (rw [if_neg (by omega), if_neg (by omega), if_pos (by omega)]; done) | (rw [if_neg (by omega), if_neg (by omega)]; done) | (rw [if_neg (by omega), if_neg (by omega), if_neg (by omega), if_pos (by omega)]; done) | (rw [if_neg (by omega), if_neg (by omega), if_neg (by omega)]; done) | (rw [if_neg (by omega), if_neg (by omega), if_neg (by omega), if_neg (by omega), if_pos (by omega)]; done) | (rw [if_neg (by omega), if_neg (by omega), if_neg (by omega), if_neg (by omega)]; done) | (rw [if_neg (by omega), if_neg (by omega), if_neg (by omega), if_neg (by omega), if_neg (by omega), if_pos (by omega)]; done) | (rw [if_neg (by omega), if_neg (by omega), if_neg (by omega), if_neg (by omega), if_neg (by omega)]; done) | (rw [if_neg (by omega), if_neg (by omega), if_neg (by omega), if_neg (by omega), if_neg (by omega), if_neg (by omega), if_pos (by omega)]; done) | (rw [if_neg (by omega), if_neg (by omega), if_neg (by omega), if_neg (by omega), if_neg (by omega), if_neg (by omega)]; done)
    · refine E_load rfl rfl rfl ?_
      refine E_getf (c := 12) (v := (0, (pbA s).1)) rfl (hL.lt 43 rfl) (hL.k 43 rfl) rfl (fv hO3.2.1) ?_
      refine E_goto rfl ?_
      refine E_iret rfl (fun h => absurd h (by decide)) ?_
      refine qryl ?_ (hEE.trans (hE_2.trans hE_3))
      unfold a_match
      first | (exfalso; omega) | (rw [if_pos (by omega)]; done) | (rw [if_neg (by omega), if_pos (by omega)]; done) | (rw [if_neg (by omega)]; done) | (rw [if_neg (by omega), if_neg (by omega), if_pos (by omega)]; done) | (rw [if_neg (by omega), if_neg (by omega)]; done) | (rw [if_neg (by omega), if_neg (by omega), if_neg (by omega), if_pos (by omega)]; done) | (rw [if_neg (by omega), if_neg (by omega), if_neg (by omega)]; done) | (rw [if_neg (by omega), if_neg (by omega), if_neg (by omega), if_neg (by omega), if_pos (by omega)]; done) | (rw [if_neg (by omega), if_neg (by omega), if_neg (by omega), if_neg (by omega)]; done) | (rw [if_neg (by omega), if_neg (by omega), if_neg (by omega), if_neg (by omega), if_neg (by omega), if_pos (by omega)]; done) | (rw [if_neg (by omega), if_neg (by omega), if_neg (by omega), if_neg (by omega), if_neg (by omega)]; done) | (rw [if_neg (by omega), if_neg (by omega), if_neg (by omega), if_neg (by omega), if_neg (by omega), if_neg (by omega), if_pos (by omega)]; done) | (rw [if_neg (by omega), if_neg (by omega), if_neg (by omega), if_neg (by omega), if_neg (by omega), if_neg (by omega)]; done)
  · refine E_load rfl rfl rfl ?_
    refine E_load rfl rfl rfl ?_
    refine E_const rfl ?_
    refine E_sub rfl ?_
    refine E_V1 (q := 43) (c := 12) (y := 143) rfl rfl (hL.lt 43 rfl) (hL.k 43 rfl) rfl rfl rfl rfl (n_isBottleW hL hM hs (by omega) (by omega)) (fun r h2 hq => ?_)
    obtain ⟨rfl, hh⟩ := hq
    subst hh
    refine E_if1 rfl (bI_R _) (fun q2 => ?_) (fun q2 => ?_)
    · replace q2 := bI_nz q2
      refine E_load rfl rfl rfl ?_
      refine E_V0 (q := 43) (c := 12) (y := 189) rfl rfl (hL.lt 43 rfl) (hL.k 43 rfl) rfl rfl rfl rfl (n_lookS hL hM hs hG) (fun r h2 hq => ?_)
      obtain ⟨rfl, c_2, hh, h49_2, hE0_2⟩ := hq
      subst hh
      have hE_2 : Eqk PQ c c_2 := hE0_2.mono P49_PQ
      have hM_2 : Mc c_2 := hM.of (hE0_2.row 43 (fun _ => rfl))
      have hs_2 : c_2 44 = s := (hE0_2.row 44 (fun _ => rfl)).trans hs
      obtain ⟨f49, hr49_2⟩ : ∃ f, c_2 49 = f := ⟨_, rfl⟩
      have hsay : SAY s f49 := by rw [← hr49_2]; exact h49_2
      refine E_const rfl ?_
      refine E_store rfl rfl rfl ?_
      refine l_match hL (f49 := f49) (c0 := c) (fun c_1 hM_1 hs_1 h49 h52 hEE => ?_) 6 0 rfl _ (fun j hj => absurd hj (Nat.not_lt_zero j)) c_2 hM_2 hs_2 rfl hr49_2 hE_2
      refine E_load rfl rfl rfl ?_
      refine E_const rfl ?_
      refine E_putg (cl := 12) rfl (hL.lt 43 rfl) (hL.k 43 rfl) rfl (fun c_2 hc_2 => ?_)
      have hE_2 : Eqk PQ c_1 c_2 := by rw [hc_2]; exact Eqk.up rfl
      have hM_2 : Mc c_2 := by rw [hc_2]; exact hM_1.up43 rfl
      have hs_2 : c_2 44 = s := by rw [hc_2]; exact (up2_oth rfl).trans hs_1
      have hf18_2 : c_2 43 18 = (-1) := by rw [hc_2]; exact up2_same
      refine E_load rfl rfl rfl ?_
      refine E_const rfl ?_
      refine E_const rfl ?_
      have hpr : PTr (fun _ => -5) := fun j hj => Or.inl rfl
      have hge := pbS_ge (s := s) (s 29).toNat 0 (fun _ => -5) 0
      have hin := pbS_in (s := s) (s 29).toNat 0 (fun _ => -5) 0 (by omega) hpr (by omega)
      have h49_2 : c_2 49 = f49 := by rw [hc_2, up2_oth rfl]; exact h49
      have ko := n_pairs (d := d + 10 - (s 29).toNat) hL hG hsay (s 29).toNat 0 0 (by omega) (by omega) (fun _ => -5) hpr (-1, fun j => c_2 53 j) ⟨Int.le_refl _, show (-1 : Int) ≤ 50 by omega⟩ c_2 hM_2 hs_2 h49_2 ⟨fun j hj => by rw [hc_2, up2_oth rfl]; exact h52 j hj, by rw [hc_2]; exact up2_same, fun j hj => rfl⟩
      rw [show d + 10 - (s 29).toNat + (s 29).toNat + 1 = d + 11 by omega] at ko
      refine E_V2 (q := 43) (c := 12) (y := 196) rfl rfl (hL.lt 43 rfl) (hL.k 43 rfl) rfl rfl rfl rfl (ko) (fun r h2 hq => ?_)
      obtain ⟨rfl, c_3, hh, hO3, hE0_3⟩ := hq
      subst hh
      have hE_3 : Eqk PQ c_2 c_3 := hE0_3.mono P53_PQ
      have hM_3 := hM_2.p53 hE0_3
      have hs_3 : c_3 44 = s := (hE0_3.row 44 (fun _ => rfl)).trans hs_2
      rw [show upG (-1, fun j => c_2 53 j) (pbS s (s 29).toNat 0 (fun _ => -5) 0) = pbS s (s 29).toNat 0 (fun _ => -5) 0 from if_pos (show (-1 : Int) < (pbS s (s 29).toNat 0 (fun _ => -5) 0).1 by omega)] at hO3
      refine E_load rfl rfl rfl ?_
      refine E_if1 rfl (by omega) (fun q1 => ?_) (fun q1 => ?_)
      · refine E_load rfl rfl rfl ?_
        refine E_getr (c := 12) (r := 53) rfl (hL.lt 43 rfl) (hL.k 43 rfl) rfl hM_3.c17 ?_
        refine E_load rfl rfl rfl ?_
        refine E_const rfl ?_
        refine E_sub rfl ?_
        refine E_ialn (n := 6) (v := (pbA s).2 (w - 10).toNat) rfl (hL.lt 53 rfl) (hL.k 53 rfl) (hL.l 53 rfl) (by omega) ((rdS rfl rfl).trans (hO3.2.2 _ (by omega))) ?_
        refine E_iret rfl (fun h => absurd h (by decide)) ?_
        refine qryl ?_ (hEE.trans (hE_2.trans hE_3))
        unfold a_match
        first | (exfalso; omega) | (rw [if_pos (by omega)]; done) | (rw [if_neg (by omega), if_pos (by omega)]; done) | (rw [if_neg (by omega)]; done) | (rw [if_neg (by omega), if_neg (by omega), if_pos (by omega)]; done) | (rw [if_neg (by omega), if_neg (by omega)]; done) | (rw [if_neg (by omega), if_neg (by omega), if_neg (by omega), if_pos (by omega)]; done) | (rw [if_neg (by omega), if_neg (by omega), if_neg (by omega)]; done) | (rw [if_neg (by omega), if_neg (by omega), if_neg (by omega), if_neg (by omega), if_pos (by omega)]; done) | (rw [if_neg (by omega), if_neg (by omega), if_neg (by omega), if_neg (by omega)]; done) | (rw [if_neg (by omega), if_neg (by omega), if_neg (by omega), if_neg (by omega), if_neg (by omega), if_pos (by omega)]; done) | (rw [if_neg (by omega), if_neg (by omega), if_neg (by omega), if_neg (by omega), if_neg (by omega)]; done) | (rw [if_neg (by omega), if_neg (by omega), if_neg (by omega), if_neg (by omega), if_neg (by omega), if_neg (by omega), if_pos (by omega)]; done) | (rw [if_neg (by omega), if_neg (by omega), if_neg (by omega), if_neg (by omega), if_neg (by omega), if_neg (by omega)]; done)
      · refine E_load rfl rfl rfl ?_
        refine E_getf (c := 12) (v := (0, (pbA s).1)) rfl (hL.lt 43 rfl) (hL.k 43 rfl) rfl (fv hO3.2.1) ?_
        refine E_goto rfl ?_
        refine E_iret rfl (fun h => absurd h (by decide)) ?_
        refine qryl ?_ (hEE.trans (hE_2.trans hE_3))
        unfold a_match
        first | (exfalso; omega) | (rw [if_pos (by omega)]; done) | (rw [if_neg (by omega), if_pos (by omega)]; done) | (rw [if_neg (by omega)]; done) | (rw [if_neg (by omega), if_neg (by omega), if_pos (by omega)]; done) | (rw [if_neg (by omega), if_neg (by omega)]; done) | (rw [if_neg (by omega), if_neg (by omega), if_neg (by omega), if_pos (by omega)]; done) | (rw [if_neg (by omega), if_neg (by omega), if_neg (by omega)]; done) | (rw [if_neg (by omega), if_neg (by omega), if_neg (by omega), if_neg (by omega), if_pos (by omega)]; done) | (rw [if_neg (by omega), if_neg (by omega), if_neg (by omega), if_neg (by omega)]; done) | (rw [if_neg (by omega), if_neg (by omega), if_neg (by omega), if_neg (by omega), if_neg (by omega), if_pos (by omega)]; done) | (rw [if_neg (by omega), if_neg (by omega), if_neg (by omega), if_neg (by omega), if_neg (by omega)]; done) | (rw [if_neg (by omega), if_neg (by omega), if_neg (by omega), if_neg (by omega), if_neg (by omega), if_neg (by omega), if_pos (by omega)]; done) | (rw [if_neg (by omega), if_neg (by omega), if_neg (by omega), if_neg (by omega), if_neg (by omega), if_neg (by omega)]; done)
    · replace q2 := bI_z q2
      refine E_const rfl ?_
      refine E_iret rfl (fun h => absurd h (by decide)) ?_
      refine qryl ?_ Eqk.nil
      unfold a_match
      first | (exfalso; omega) | (rw [if_pos (by omega)]; done) | (rw [if_neg (by omega), if_pos (by omega)]; done) | (rw [if_neg (by omega)]; done) | (rw [if_neg (by omega), if_neg (by omega), if_pos (by omega)]; done) | (rw [if_neg (by omega), if_neg (by omega)]; done) | (rw [if_neg (by omega), if_neg (by omega), if_neg (by omega), if_pos (by omega)]; done) | (rw [if_neg (by omega), if_neg (by omega), if_neg (by omega)]; done) | (rw [if_neg (by omega), if_neg (by omega), if_neg (by omega), if_neg (by omega), if_pos (by omega)]; done) | (rw [if_neg (by omega), if_neg (by omega), if_neg (by omega), if_neg (by omega)]; done) | (rw [if_neg (by omega), if_neg (by omega), if_neg (by omega), if_neg (by omega), if_neg (by omega), if_pos (by omega)]; done) | (rw [if_neg (by omega), if_neg (by omega), if_neg (by omega), if_neg (by omega), if_neg (by omega)]; done) | (rw [if_neg (by omega), if_neg (by omega), if_neg (by omega), if_neg (by omega), if_neg (by omega), if_neg (by omega), if_pos (by omega)]; done) | (rw [if_neg (by omega), if_neg (by omega), if_neg (by omega), if_neg (by omega), if_neg (by omega), if_neg (by omega)]; done)
