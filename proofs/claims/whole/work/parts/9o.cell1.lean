theorem stepsC_len : ∀ l : List CLA, (stepsC l).length ≤ (partsC l).length + l.length
  | [] => Nat.le_refl _
  | x :: l => by
    have ih := stepsC_len l
    have h1 := stepC_len (x := x)
    show (stepC x ++ stepsC l).length ≤ (x.2.2 ++ partsC l).length + (l.length + 1)
    rw [List.length_append, List.length_append]
    omega
def clW (a k : Nat) : Prop := FrD a k ∨ (a = 1 ∧ k = 3) ∨ a = 30 ∨ a = 33 ∨ (k = 3 ∧ (a = 29 ∨ a = 32)) ∨ (a = 0 ∧ k = 12)
theorem Cc.cl {c c2 : Nat → Nat → Int} (hC : Cc c) (hE : EqP clW c c2) : Cc c2 := hC.of fun e he => hE _ _ (by
  have : ∀ e ∈ CT, (e.1 = 0 ∨ e.2.1 < 3) ∧ (e.1 ≠ 0 ∨ e.2.1 < 12) ∧ e.1 ≠ 40 ∧ e.1 ≠ 37 ∧ e.1 ≠ 30 ∧ e.1 ≠ 33 := by decide
  have := this e he
  unfold clW FrD FrQ
  omega)
theorem RepC.mkC {h : Hp} {c c2 : Nat → Nat → Int} {B : Nat → Nat} {s t im : Nat → Int} {hi : Int} {L : List Int} (hR : RepC h c B s im hi L) (hA : Inv s) (hE : EqP clW c c2) (ht : ∀ k, k ≠ 30 → k ≠ 34 → k ≠ 35 → k < 228 → t k = s k) (h12 : c2 0 12 = t 30) (h13 : c2 1 3 = 0) (t34 : t 34 = 0) (hH : HeldR (c2 29 3) (c2 30) (c2 32 3) (c2 33) t) : RepC h c2 B t im hi L := by
  obtain ⟨hI, hHs, ⟨⟨n29, n30, n31, n32, n33, n34, n36⟩, nM⟩, hX⟩ := hA
  have up : ∀ a k, 55 ≤ a → c2 a k = c a k := fun a k h1 => hE a k (by unfold clW FrD FrQ; omega)
  have row : ∀ a, (a = 2 ∨ a = 3 ∨ a = 5 ∨ a = 6 ∨ a = 11 ∨ a = 12 ∨ a = 14 ∨ a = 15 ∨ a = 17 ∨ a = 18 ∨ a = 20 ∨ a = 31 ∨ a = 34) → c2 a = c a := fun a h1 => funext fun k => hE a k (by unfold clW FrD FrQ; omega)
  have fl : ∀ a k, (a = 4 ∨ a = 10 ∨ a = 13 ∨ a = 16 ∨ a = 19) → c2 a k = c a k := fun a k h1 => hE a k (by unfold clW FrD FrQ; omega)
  have f4 : ∀ a, (a = 1 ∨ a = 29 ∨ a = 32) → c2 a 4 = c a 4 := fun a h1 => hE a 4 (by unfold clW FrD FrQ; omega)
  have f0 : ∀ k, k ≠ 12 → c2 0 k = c 0 k := fun k h1 => hE 0 k (by unfold clW FrD FrQ; omega)
  have t29 := ht 29 (by omega) (by omega) (by omega) (by omega)
  refine ⟨hR.C.cl hE, ⟨h12, (f0 13 (by omega)).trans (hR.year.trans (ht 0 (by omega) (by omega) (by omega) (by omega)).symm)⟩, ⟨by rw [h13, t34], fun k hk => by omega⟩, ?_, ?_, ?_, ?_, ?_, hH, ?_, ?_, by rw [t29]; exact hR.dis, ?_, ?_⟩
  · rw [row 5 (by omega), fl 4 3 (by omega)]; exact hR.mood.tr (fun k hk => ht k (by omega) (by omega) (by omega) (by omega)) (by omega)
  · rw [row 11 (by omega), fl 10 3 (by omega)]; exact hR.seen.tr (fun k hk => ht k (by omega) (by omega) (by omega) (by omega)) (by omega)
  · rw [row 14 (by omega), fl 13 3 (by omega)]; exact hR.eve.tr (fun k hk => ht k (by omega) (by omega) (by omega) (by omega)) (by omega)
  · rw [row 17 (by omega), fl 16 3 (by omega)]; exact hR.book.tr (fun k hk => ht k (by omega) (by omega) (by omega) (by omega)) (by omega)
  · rw [row 20 (by omega), fl 19 3 (by omega)]; exact hR.bod
  · rw [t29]; exact hR.list.ofE (hE 42 1 (by unfold clW FrD FrQ; omega)) (hE 42 2 (by unfold clW FrD FrQ; omega)) fun E e1 e2 e3 k => up E k e1.1
  · intro b hb
    rw [t29] at hb
    obtain ⟨b1, b2, b3⟩ := hR.bot b hb
    rw [ht (37 + b) (by omega) (by omega) (by omega) (by omega)]
    exact ⟨b1.ofE (fun k => up _ k (by omega)) (up _ 0 (by omega)) (up _ 0 (by omega)) (up _ 0 (by omega)), LaidS.tr (b2.ofE (fun k => up _ k (by omega)) (fun k => up _ k (by omega))) (by omega) (fun k hk => ht k (by omega) (by omega) (by omega) (by omega)), b3⟩
  · rw [f0 14 (by omega)]; exact hR.none
  · intro hi1
    obtain ⟨k1, k2, k3, k4, k5, k6, k7, k8, k9⟩ := hR.kept hi1
    refine ⟨?_, ?_, ?_, ?_, ?_, ?_, ?_, by rw [t29]; exact k8, fun b hb => ?_⟩
    · rw [f0 14 (by omega), f0 15 (by omega), f0 16 (by omega)]; exact k1
    · rw [f4 1 (by omega), row 3 (by omega)]; exact k2
    · rw [fl 4 4 (by omega), row 6 (by omega)]; exact k3
    · rw [fl 10 4 (by omega), row 12 (by omega)]; exact k4
    · rw [fl 13 4 (by omega), row 15 (by omega)]; exact k5
    · rw [fl 16 4 (by omega), row 18 (by omega)]; exact k6
    · rw [f4 29 (by omega), f4 32 (by omega), row 31 (by omega), row 34 (by omega)]; exact k7
    · have hb2 := (hR.bot b (by omega)).2.2
      exact ⟨(k9 b hb).1.ofE (fun k => up _ k (by omega)) (fun k => up _ k (by omega)), by rw [ht (37 + b) (by omega) (by omega) (by omega) (by omega)]; exact (k9 b hb).2⟩
set_option maxHeartbeats 4000000 in
set_option maxRecDepth 100000 in
theorem C_cellar {d : Nat} {h : Hp} {c : Nat → Nat → Int} {B : Nat → Nat} {s im s2 : Nat → Int} {hi v : Int} {L : List Int} (hL : Lay h) (hR : RepC h c B s im hi L) (hA : Inv s) (hV : CelR s v s2) : Ok (d + 22) 75 [(1, ((0 : Nat) : Int))] (wC h c) (fun r h2 => r = some (0, v) ∧ ∃ c2, h2 = wC h c2 ∧ RepC h c2 B s2 im hi L ∧ EqP FrC c c2) := by
  show Ex _ none t_X10_cellar 0 0 _ [] (wC h c) _
  have hAA := hA
  have hEn := gS_ends hA
  obtain ⟨hI, hHs, ⟨⟨n29, n30, n31, n32, n33, n34, n36⟩, nM⟩, hX⟩ := hA
  refine E_load rfl rfl rfl ?_
  refine E_getf (c := 11) (v := (0, s 30)) rfl (hL.lt 0 rfl) (hL.k 0 rfl) rfl (fv hR.cellars) ?_
  refine E_const rfl ?_
  refine E_cmp2 rfl (by omega) (fun q1 => ?_) (fun q1 => ?_)
  · rcases hV with ⟨z, -, -⟩ | ⟨hs5, s', hRh, hV⟩
    · exfalso; omega
    have hT : TapeS c (gS s) (s 34).toNat := ⟨by rw [hR.tape.1, Int.toNat_of_nonneg n34.1], fun j hj => by rw [hR.tape.2 j (by omega)]; exact (if_pos hj).symm⟩
    obtain ⟨p1, p2⟩ := pTxt_ok hEn 10 0 [] (Nat.zero_le _) (fun x hx => absurd hx List.not_mem_nil) (Nat.le_refl _) (Nat.zero_le _)
    generalize hTT : pTxt (gS s) (s 34).toNat 10 0 [] = TT at *
    refine E_load rfl rfl rfl ?_
    refine E_getr (c := 11) (r := 35) rfl (hL.lt 0 rfl) (hL.k 0 rfl) rfl (hR.C.g 0 10 35 (by decide)) ?_
    refine E_V0 (q := 35) (c := 2) (y := 30) rfl rfl (hL.lt 35 rfl) (hL.k 35 rfl) rfl rfl rfl rfl (c_text hL hEn hR.C hT) (fun r h2 hq => ?_)
    obtain ⟨rfl, c_1, hh, hF, hE1⟩ := hq
    subst hh
    rw [hTT] at hF ⊢
    have hW1 : EqP clW c c_1 := hE1.mono fun a k e => Or.inl e
    have hC_1 := hR.C.cl hW1
    refine E_store rfl rfl rfl ?_
    refine E_load rfl rfl rfl ?_
    refine E_getr (c := 11) (r := 1) rfl (hL.lt 0 rfl) (hL.k 0 rfl) rfl (hC_1.g 0 0 1 (by decide)) ?_
    refine E_V0 (q := 1) (c := 8) (y := 62) rfl rfl (hL.lt 1 rfl) (hL.k 1 rfl) rfl rfl rfl rfl (s_clear (sh1 hL hC_1) (by decide) (by decide)) (fun r h2 hq => ?_)
    obtain ⟨rfl, c_2, hh, hc_2⟩ := hq
    subst hh
    have hW2 : EqP clW c c_2 := by
      rw [hc_2]
      exact hW1.trans (EqP.up (by unfold clW; omega))
    have hC_2 := hR.C.cl hW2
    have h13 : c_2 1 3 = 0 := by rw [hc_2]; exact up2_same
    have hs' : ∀ k, k ≠ 34 → k < 228 → s' k = s k := fun k a b => (hRh k (by omega) (by omega) (by omega) (by omega)).trans (upd1_ne a)
    have s34 : s' 34 = 0 := (hRh 34 (by omega) (by omega) (by omega) (by omega)).trans upd1_same
    refine E_load rfl rfl rfl ?_
    rcases hV with ⟨hb, hv, rfl⟩ | ⟨hb, hv, hCu, hs2⟩
    · have hb2 : ¬ TT.1 = true := by rw [hb]; decide
      rw [if_neg hb2]
      refine E_if2 rfl (by omega) (fun q2 => ?_) (fun q2 => ?_)
      · exfalso; omega
      refine E_const rfl ?_
      refine E_load rfl rfl rfl ?_
      refine E_sub rfl ?_
      refine E_iret rfl (fun h => absurd h (by decide)) ?_
      refine ⟨by rw [hv], c_2, rfl, hR.mkC hAA hW2 (fun k a b c d => hs' k b d) ?_ h13 s34 ?_, hW2.mono fun a k e => by unfold clW FrD FrQ at e; unfold FrC; omega⟩
      · rw [hs' 30 (by omega) (by omega), ← hR.cellars, hc_2]
        exact (up2_fldN (by omega)).trans (hE1 0 12 (by unfold FrD FrQ; omega))
      · obtain ⟨l, l1, l2⟩ := hR.held
        have e9 : ∀ a k, (a = 29 ∨ a = 30 ∨ a = 32 ∨ a = 33) → c_2 a k = c a k := fun a k h1 => by
          rw [hc_2]
          exact (up2_fldN (by omega)).trans (hE1 a k (by unfold FrD FrQ; omega))
        exact ⟨l, l1.of (e9 29 3 (by omega)) (e9 32 3 (by omega)) (fun j _ => e9 30 j (by omega)) (fun j _ => e9 33 j (by omega)), l2.cel hAA (by omega) hRh⟩
    · rw [if_pos hb]
      refine E_if2 rfl (by omega) (fun q2 => ?_) (fun q2 => ?_)
      · obtain ⟨hF1, hF2⟩ := hF hb
        obtain ⟨o1, o2, o3⟩ := p2 hb
        refine E_load rfl rfl rfl ?_
        refine E_getr (c := 11) (r := 28) rfl (hL.lt 0 rfl) (hL.k 0 rfl) rfl (hC_2.g 0 9 28 (by decide)) ?_
        refine E_load rfl rfl rfl ?_
        refine E_getr (c := 11) (r := 35) rfl (hL.lt 0 rfl) (hL.k 0 rfl) rfl (hC_2.g 0 10 35 (by decide)) ?_
        refine E_V1 (q := 28) (c := 2) (y := 20) rfl rfl (hL.lt 28 rfl) (hL.k 28 rfl) rfl rfl rfl rfl (c_hcopy hL hC_2) (fun r h2 hq => ?_)
        obtain ⟨rfl, c_3, hh, ⟨g1, g2, g3, g4⟩, hE3⟩ := hq
        subst hh
        have hW3 : EqP clW c c_3 := hW2.trans (hE3.mono fun a k e => by unfold clW; omega)
        have h30 : c_3 0 12 = s 30 := (hE3 0 12 (by omega)).trans (by rw [hc_2]; exact (up2_fldN (by omega)).trans ((hE1 0 12 (by unfold FrD FrQ; omega)).trans hR.cellars))
        refine E_load rfl rfl rfl ?_
        refine E_dup rfl rfl ?_
        refine E_getf (c := 11) (v := (0, s 30)) rfl (hL.lt 0 rfl) (hL.k 0 rfl) rfl (fv h30) ?_
        refine E_const rfl ?_
        refine E_add rfl ?_
        refine E_putg (cl := 11) rfl (hL.lt 0 rfl) (hL.k 0 rfl) rfl (fun c_4 hc_4 => ?_)
        have h12 : c_4 0 12 = s 30 + 1 := by rw [hc_4]; exact up2_same
        refine E_load rfl rfl rfl ?_
        refine E_getf (c := 11) (v := (0, s 30 + 1)) rfl (hL.lt 0 rfl) (hL.k 0 rfl) rfl (fv h12) ?_
        refine E_const rfl ?_
        refine E_sub rfl ?_
        refine E_iret rfl (fun h => absurd h (by decide)) ?_
        have hW4 : EqP clW c c_4 := by
          rw [hc_4]
          exact hW3.trans (EqP.up (by unfold clW; omega))
        have s2e : ∀ k, k ≠ 30 → k ≠ 35 → s2 k = s' k := fun k a b => by rw [hs2, upd1_ne b, upd1_ne a]
        refine ⟨by rw [hv, show s 30 + 1 - 1 = s 30 by omega], c_4, rfl, hR.mkC hAA hW4 (fun k a b c d => (s2e k a c).trans (hs' k b d)) ?_ ?_ ((s2e 34 (by omega) (by omega)).trans s34) ⟨TT.2.2, ⟨?_, ?_, ?_, ?_, ⟨o2, o3⟩, o1⟩, hCu.hold (by omega) (by have := stepsC_len TT.2.2; omega) ?_ (fun k hk => s2e k (by omega) (by omega))⟩, hW4.mono fun a k e => by unfold clW FrD FrQ at e; unfold FrC; omega⟩
        · rw [h12, hs2, upd1_ne (by omega), upd1_same]
        · rw [hc_4]; exact (up2_fldN (by omega)).trans ((hE3 1 3 (by omega)).trans h13)
        · rw [hc_4]; exact (up2_fldN (by omega)).trans (g1.trans (by rw [hc_2]; exact (up2_fldN (by omega)).trans hF1.1))
        · rw [hc_4]; exact (up2_fldN (by omega)).trans (g3.trans (by rw [hc_2]; exact (up2_fldN (by omega)).trans hF2.1))
        · exact SerC_of (f := c_1 37) _ 0 0 (fun k hk => by rw [hc_4]; exact (up2_fldN (by omega)).trans ((g2 k (by omega)).trans (by rw [hc_2]; exact up2_fldN (by omega)))) hF1.2
        · exact SerP_of (f := c_1 40) _ 0 (fun k hk => by rw [hc_4]; exact (up2_fldN (by omega)).trans ((g4 k (by omega)).trans (by rw [hc_2]; exact up2_fldN (by omega)))) hF2.2
        · rw [hs2, upd1_same, Int.toNat_of_nonneg n30.1]
      · exfalso; omega
  · rcases hV with ⟨z, hv, rfl⟩ | ⟨hs5, -⟩
    · refine E_const rfl ?_
      refine E_iret rfl (fun h => absurd h (by decide)) ?_
      exact ⟨by rw [hv], c, rfl, hR, EqP.nil⟩
    · exfalso; omega
