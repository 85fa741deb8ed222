theorem bc0 : ∀ x : Fin 64, (mBit 5 (((mBit 5 (((mBit 5 (((x.val : Nat) : Int) - (mBit 5 (mBit 10 ((x.val : Nat) : Int) 1) 1431655765)) 858993459) + (mBit 5 (mBit 10 (((x.val : Nat) : Int) - (mBit 5 (mBit 10 ((x.val : Nat) : Int) 1) 1431655765)) 2) 858993459)) + (mBit 10 ((mBit 5 (((x.val : Nat) : Int) - (mBit 5 (mBit 10 ((x.val : Nat) : Int) 1) 1431655765)) 858993459) + (mBit 5 (mBit 10 (((x.val : Nat) : Int) - (mBit 5 (mBit 10 ((x.val : Nat) : Int) 1) 1431655765)) 2) 858993459)) 4)) 252645135) + (mBit 10 (mBit 5 (((mBit 5 (((x.val : Nat) : Int) - (mBit 5 (mBit 10 ((x.val : Nat) : Int) 1) 1431655765)) 858993459) + (mBit 5 (mBit 10 (((x.val : Nat) : Int) - (mBit 5 (mBit 10 ((x.val : Nat) : Int) 1) 1431655765)) 2) 858993459)) + (mBit 10 ((mBit 5 (((x.val : Nat) : Int) - (mBit 5 (mBit 10 ((x.val : Nat) : Int) 1) 1431655765)) 858993459) + (mBit 5 (mBit 10 (((x.val : Nat) : Int) - (mBit 5 (mBit 10 ((x.val : Nat) : Int) 1) 1431655765)) 2) 858993459)) 4)) 252645135) 8)) + (mBit 10 ((mBit 5 (((mBit 5 (((x.val : Nat) : Int) - (mBit 5 (mBit 10 ((x.val : Nat) : Int) 1) 1431655765)) 858993459) + (mBit 5 (mBit 10 (((x.val : Nat) : Int) - (mBit 5 (mBit 10 ((x.val : Nat) : Int) 1) 1431655765)) 2) 858993459)) + (mBit 10 ((mBit 5 (((x.val : Nat) : Int) - (mBit 5 (mBit 10 ((x.val : Nat) : Int) 1) 1431655765)) 858993459) + (mBit 5 (mBit 10 (((x.val : Nat) : Int) - (mBit 5 (mBit 10 ((x.val : Nat) : Int) 1) 1431655765)) 2) 858993459)) 4)) 252645135) + (mBit 10 (mBit 5 (((mBit 5 (((x.val : Nat) : Int) - (mBit 5 (mBit 10 ((x.val : Nat) : Int) 1) 1431655765)) 858993459) + (mBit 5 (mBit 10 (((x.val : Nat) : Int) - (mBit 5 (mBit 10 ((x.val : Nat) : Int) 1) 1431655765)) 2) 858993459)) + (mBit 10 ((mBit 5 (((x.val : Nat) : Int) - (mBit 5 (mBit 10 ((x.val : Nat) : Int) 1) 1431655765)) 858993459) + (mBit 5 (mBit 10 (((x.val : Nat) : Int) - (mBit 5 (mBit 10 ((x.val : Nat) : Int) 1) 1431655765)) 2) 858993459)) 4)) 252645135) 8)) 16)) 63) = ((cnN x.val 6 : Nat) : Int) := by decide +kernel
theorem j_bitCount {d : Nat} {h : Hp} {c : Nat → Nat → Int} {x : Nat} (hx : x < 64) : Ok (d) 228 [(0, (x : Int))] (wC h c) (fun r h2 => r = some (0, ((cnN x 6 : Nat) : Int)) ∧ h2 = wC h c) := by
  show Ex _ none t_J6_bitCount_0f7a4 0 0 _ [] (wC h c) _
  refine E_load rfl rfl rfl ?_
  refine E_load rfl rfl rfl ?_
  refine E_const rfl ?_
  refine E_bit (z := (mBit 10 ((x : Nat) : Int) 1)) rfl rfl rfl ?_
  refine E_const rfl ?_
  refine E_bit (z := (mBit 5 (mBit 10 ((x : Nat) : Int) 1) 1431655765)) rfl rfl rfl ?_
  refine E_sub rfl ?_
  refine E_store rfl rfl rfl ?_
  refine E_load rfl rfl rfl ?_
  refine E_const rfl ?_
  refine E_bit (z := (mBit 5 (((x : Nat) : Int) - (mBit 5 (mBit 10 ((x : Nat) : Int) 1) 1431655765)) 858993459)) rfl rfl rfl ?_
  refine E_load rfl rfl rfl ?_
  refine E_const rfl ?_
  refine E_bit (z := (mBit 10 (((x : Nat) : Int) - (mBit 5 (mBit 10 ((x : Nat) : Int) 1) 1431655765)) 2)) rfl rfl rfl ?_
  refine E_const rfl ?_
  refine E_bit (z := (mBit 5 (mBit 10 (((x : Nat) : Int) - (mBit 5 (mBit 10 ((x : Nat) : Int) 1) 1431655765)) 2) 858993459)) rfl rfl rfl ?_
  refine E_add rfl ?_
  refine E_store rfl rfl rfl ?_
  refine E_load rfl rfl rfl ?_
  refine E_load rfl rfl rfl ?_
  refine E_const rfl ?_
  refine E_bit (z := (mBit 10 ((mBit 5 (((x : Nat) : Int) - (mBit 5 (mBit 10 ((x : Nat) : Int) 1) 1431655765)) 858993459) + (mBit 5 (mBit 10 (((x : Nat) : Int) - (mBit 5 (mBit 10 ((x : Nat) : Int) 1) 1431655765)) 2) 858993459)) 4)) rfl rfl rfl ?_
  refine E_add rfl ?_
  refine E_const rfl ?_
  refine E_bit (z := (mBit 5 (((mBit 5 (((x : Nat) : Int) - (mBit 5 (mBit 10 ((x : Nat) : Int) 1) 1431655765)) 858993459) + (mBit 5 (mBit 10 (((x : Nat) : Int) - (mBit 5 (mBit 10 ((x : Nat) : Int) 1) 1431655765)) 2) 858993459)) + (mBit 10 ((mBit 5 (((x : Nat) : Int) - (mBit 5 (mBit 10 ((x : Nat) : Int) 1) 1431655765)) 858993459) + (mBit 5 (mBit 10 (((x : Nat) : Int) - (mBit 5 (mBit 10 ((x : Nat) : Int) 1) 1431655765)) 2) 858993459)) 4)) 252645135)) rfl rfl rfl ?_
  refine E_store rfl rfl rfl ?_
  refine E_load rfl rfl rfl ?_
  refine E_load rfl rfl rfl ?_
  refine E_const rfl ?_
  refine E_bit (z := (mBit 10 (mBit 5 (((mBit 5 (((x : Nat) : Int) - (mBit 5 (mBit 10 ((x : Nat) : Int) 1) 1431655765)) 858993459) + (mBit 5 (mBit 10 (((x : Nat) : Int) - (mBit 5 (mBit 10 ((x : Nat) : Int) 1) 1431655765)) 2) 858993459)) + (mBit 10 ((mBit 5 (((x : Nat) : Int) - (mBit 5 (mBit 10 ((x : Nat) : Int) 1) 1431655765)) 858993459) + (mBit 5 (mBit 10 (((x : Nat) : Int) - (mBit 5 (mBit 10 ((x : Nat) : Int) 1) 1431655765)) 2) 858993459)) 4)) 252645135) 8)) rfl rfl rfl ?_
  refine E_add rfl ?_
  refine E_store rfl rfl rfl ?_
  refine E_load rfl rfl rfl ?_
  refine E_load rfl rfl rfl ?_
  refine E_const rfl ?_
  refine E_bit (z := (mBit 10 ((mBit 5 (((mBit 5 (((x : Nat) : Int) - (mBit 5 (mBit 10 ((x : Nat) : Int) 1) 1431655765)) 858993459) + (mBit 5 (mBit 10 (((x : Nat) : Int) - (mBit 5 (mBit 10 ((x : Nat) : Int) 1) 1431655765)) 2) 858993459)) + (mBit 10 ((mBit 5 (((x : Nat) : Int) - (mBit 5 (mBit 10 ((x : Nat) : Int) 1) 1431655765)) 858993459) + (mBit 5 (mBit 10 (((x : Nat) : Int) - (mBit 5 (mBit 10 ((x : Nat) : Int) 1) 1431655765)) 2) 858993459)) 4)) 252645135) + (mBit 10 (mBit 5 (((mBit 5 (((x : Nat) : Int) - (mBit 5 (mBit 10 ((x : Nat) : Int) 1) 1431655765)) 858993459) + (mBit 5 (mBit 10 (((x : Nat) : Int) - (mBit 5 (mBit 10 ((x : Nat) : Int) 1) 1431655765)) 2) 858993459)) + (mBit 10 ((mBit 5 (((x : Nat) : Int) - (mBit 5 (mBit 10 ((x : Nat) : Int) 1) 1431655765)) 858993459) + (mBit 5 (mBit 10 (((x : Nat) : Int) - (mBit 5 (mBit 10 ((x : Nat) : Int) 1) 1431655765)) 2) 858993459)) 4)) 252645135) 8)) 16)) rfl rfl rfl ?_
  refine E_add rfl ?_
  refine E_store rfl rfl rfl ?_
  refine E_load rfl rfl rfl ?_
  refine E_const rfl ?_
  refine E_bit (z := (mBit 5 (((mBit 5 (((mBit 5 (((x : Nat) : Int) - (mBit 5 (mBit 10 ((x : Nat) : Int) 1) 1431655765)) 858993459) + (mBit 5 (mBit 10 (((x : Nat) : Int) - (mBit 5 (mBit 10 ((x : Nat) : Int) 1) 1431655765)) 2) 858993459)) + (mBit 10 ((mBit 5 (((x : Nat) : Int) - (mBit 5 (mBit 10 ((x : Nat) : Int) 1) 1431655765)) 858993459) + (mBit 5 (mBit 10 (((x : Nat) : Int) - (mBit 5 (mBit 10 ((x : Nat) : Int) 1) 1431655765)) 2) 858993459)) 4)) 252645135) + (mBit 10 (mBit 5 (((mBit 5 (((x : Nat) : Int) - (mBit 5 (mBit 10 ((x : Nat) : Int) 1) 1431655765)) 858993459) + (mBit 5 (mBit 10 (((x : Nat) : Int) - (mBit 5 (mBit 10 ((x : Nat) : Int) 1) 1431655765)) 2) 858993459)) + (mBit 10 ((mBit 5 (((x : Nat) : Int) - (mBit 5 (mBit 10 ((x : Nat) : Int) 1) 1431655765)) 858993459) + (mBit 5 (mBit 10 (((x : Nat) : Int) - (mBit 5 (mBit 10 ((x : Nat) : Int) 1) 1431655765)) 2) 858993459)) 4)) 252645135) 8)) + (mBit 10 ((mBit 5 (((mBit 5 (((x : Nat) : Int) - (mBit 5 (mBit 10 ((x : Nat) : Int) 1) 1431655765)) 858993459) + (mBit 5 (mBit 10 (((x : Nat) : Int) - (mBit 5 (mBit 10 ((x : Nat) : Int) 1) 1431655765)) 2) 858993459)) + (mBit 10 ((mBit 5 (((x : Nat) : Int) - (mBit 5 (mBit 10 ((x : Nat) : Int) 1) 1431655765)) 858993459) + (mBit 5 (mBit 10 (((x : Nat) : Int) - (mBit 5 (mBit 10 ((x : Nat) : Int) 1) 1431655765)) 2) 858993459)) 4)) 252645135) + (mBit 10 (mBit 5 (((mBit 5 (((x : Nat) : Int) - (mBit 5 (mBit 10 ((x : Nat) : Int) 1) 1431655765)) 858993459) + (mBit 5 (mBit 10 (((x : Nat) : Int) - (mBit 5 (mBit 10 ((x : Nat) : Int) 1) 1431655765)) 2) 858993459)) + (mBit 10 ((mBit 5 (((x : Nat) : Int) - (mBit 5 (mBit 10 ((x : Nat) : Int) 1) 1431655765)) 858993459) + (mBit 5 (mBit 10 (((x : Nat) : Int) - (mBit 5 (mBit 10 ((x : Nat) : Int) 1) 1431655765)) 2) 858993459)) 4)) 252645135) 8)) 16)) 63)) rfl rfl rfl ?_
  refine E_iret rfl (fun h => absurd h (by decide)) ?_
  exact ⟨congrArg (fun z : Int => some (((0 : Nat), z) : AV)) (bc0 ⟨x, hx⟩), rfl⟩
set_option maxHeartbeats 4000000 in
set_option maxRecDepth 100000 in
theorem c_isIn {d : Nat} {h : Hp} {c : Nat → Nat → Int} {x b : Nat} (hx : x < 64) (hb : b < 6) : Ok (d) 112 [(0, (x : Int)), (0, (b : Int))] (wC h c) (fun r h2 => r = some (0, bI (bt x b = 1)) ∧ h2 = wC h c) := by
  show Ex _ none t_X10_isIn 3 0 _ [] (wC h c) _
  refine E_load rfl rfl rfl ?_
  refine E_load rfl rfl rfl ?_
  refine E_bit (z := (mBit 9 ((x : Nat) : Int) ((b : Nat) : Int))) rfl rfl rfl ?_
  refine E_const rfl ?_
  refine E_bit (z := ((bt x b : Nat) : Int)) rfl rfl (mBit_bt hx hb) ?_
  refine E_const rfl ?_
  refine E_cmp1 rfl (by have := bt_01 x b; omega) (fun q1 => ?_) (fun q1 => ?_)
  · refine E_const rfl ?_
    refine E_iret rfl (fun _ => by decide) ?_
    exact ⟨by first | (rw [bI_t (by omega)]) | (rw [bI_f (by omega)]), rfl⟩
  · refine E_const rfl ?_
    refine E_goto rfl ?_
    refine E_iret rfl (fun _ => by decide) ?_
    exact ⟨by first | (rw [bI_t (by omega)]) | (rw [bI_f (by omega)]), rfl⟩
/-- what was said stands on its shelf -/
def SaidR (c : Nat → Nat → Int) (s : Nat → Int) : Prop := c 22 3 = s 29 ∧ SAY s (c 23)
theorem SaidR.of {c c2 : Nat → Nat → Int} {s : Nat → Int} (h : SaidR c s) (e1 : c2 22 3 = c 22 3) (e2 : c2 23 = c 23) : SaidR c2 s := ⟨e1.trans h.1, by rw [e2]; exact h.2⟩
set_option maxHeartbeats 4000000 in
set_option maxRecDepth 100000 in
theorem Cl_hear {d : Nat} {h : Hp} {B : Nat → Nat} {s im : Nat → Int} {hi : Int} {L : List Int} (hL : Lay h) (hG : InvG s)  : ∀ (n i : Nat), i + n = (s 29).toNat → ∀ (v2 : AV), ∀ c, RepC h c B s im hi L → c 22 3 = (i : Int) → (∀ b : Nat, b < i → c 23 b = syS s b) → Ex (d + 12) none t_X10_hearAll 0 9 [(1, ((0 : Nat) : Int)), (0, (i : Int)), v2] [] (wC h c) (fun r h2 => r = none ∧ ∃ c2, h2 = wC h c2 ∧ SaidR c2 s ∧ EqP (fun a k => (a = 22 ∧ k = 3) ∨ a = 23) c c2) := by
  have hGG := hG
  obtain ⟨hI, hH, ⟨⟨n29, n30, n31, n32, n33, n34, n36⟩, nM⟩⟩ := hGG
  intro n
  induction n with
  | zero =>
    intro i hin v2  c hR hn hsay
    refine E_load rfl rfl rfl ?_
    refine E_load rfl rfl rfl ?_
    refine E_getr (c := 11) (r := 42) rfl (hL.lt 0 rfl) (hL.k 0 rfl) rfl (hR.C.g 0 11 42 (by decide)) ?_
    refine E_V0 (q := 42) (c := 0) (y := 3) rfl rfl (hL.lt 42 rfl) (hL.k 42 rfl) rfl rfl rfl rfl (j_size hL hR.list) (fun r h2 hq => ?_)
    obtain ⟨rfl, hh⟩ := hq
    subst hh
    refine E_cmp3 rfl (by omega) (fun q1 => ?_) (fun q1 => ?_)
    · refine E_vret rfl ?_
      exact ⟨rfl, c, rfl, ⟨by rw [hn]; omega, fun b hb2 => hsay b (by omega)⟩, EqP.nil⟩
    · exfalso; omega
  | succ n ih =>
    intro i hin v2  c hR hn hsay
    refine E_load rfl rfl rfl ?_
    refine E_load rfl rfl rfl ?_
    refine E_getr (c := 11) (r := 42) rfl (hL.lt 0 rfl) (hL.k 0 rfl) rfl (hR.C.g 0 11 42 (by decide)) ?_
    refine E_V0 (q := 42) (c := 0) (y := 3) rfl rfl (hL.lt 42 rfl) (hL.k 42 rfl) rfl rfl rfl rfl (j_size hL hR.list) (fun r h2 hq => ?_)
    obtain ⟨rfl, hh⟩ := hq
    subst hh
    refine E_cmp3 rfl (by omega) (fun q1 => ?_) (fun q1 => ?_)
    · exfalso; omega
    · refine E_load rfl rfl rfl ?_
      refine E_getr (c := 11) (r := 42) rfl (hL.lt 0 rfl) (hL.k 0 rfl) rfl (hR.C.g 0 11 42 (by decide)) ?_
      refine E_load rfl rfl rfl ?_
      refine E_V1 (q := 42) (c := 0) (y := 5) rfl rfl (hL.lt 42 rfl) (hL.k 42 rfl) rfl rfl rfl rfl (j_get hL hR.list (by omega)) (fun r h2 hq => ?_)
      obtain ⟨rfl, hh⟩ := hq
      subst hh
      refine E_castB rfl (show (B i) < mN h by have := (hR.bot i (by omega)).1.1.1; omega) (hR.bot i (by omega)).1.isB ?_
      refine E_store rfl rfl rfl ?_
      refine E_load rfl rfl rfl ?_
      refine E_getr (c := 11) (r := 22) rfl (hL.lt 0 rfl) (hL.k 0 rfl) rfl (hR.C.g 0 7 22 (by decide)) ?_
      refine E_load rfl rfl rfl ?_
      refine E_load rfl rfl rfl ?_
      refine E_load rfl rfl rfl ?_
      refine E_getrB (r := (B i + 1)) rfl (show (B i) < mN h by have := (hR.bot i (by omega)).1.1.1; omega) (hR.bot i (by omega)).1.isB rfl ((hR.bot i (by omega)).1.2.1.2.2.2.1) ?_
      refine E_V2 (q := 0) (c := 11) (y := 122) rfl rfl (hL.lt 0 rfl) (hL.k 0 rfl) rfl rfl rfl rfl (c_sayN hL hR hG (b := i) (by omega)) (fun r h2 hq => ?_)
      obtain ⟨rfl, hh⟩ := hq
      subst hh
      refine E_const rfl ?_
      refine E_const rfl ?_
      refine E_V3 (q := 22) (c := 8) (y := 59) rfl rfl (hL.lt 22 rfl) (hL.k 22 rfl) rfl rfl rfl rfl (s_add1 (sh22 hL hR.C) (by decide) (by omega) (by omega)) (fun r h2 hq => ?_)
      obtain ⟨rfl, c_1, hh, hc_1⟩ := hq
      subst hh
      rw [if_pos (by omega)] at hc_1
      simp only [adS, Nat.not_lt_zero, if_false, show ¬ (1 < 1) by decide, show ¬ (2 < 1) by decide] at hc_1
      rw [hn, show ((i : Int) * ((1 : Nat) : Int)).toNat + 0 = i by omega] at hc_1
      have hE_1 : EqP (fun a k => (a = 22 ∧ k = 3) ∨ a = 23) c c_1 := by rw [hc_1]; exact (EqP.up (by omega)).trans (EqP.up (by omega))
      have hR_1 := hR.scr (hE_1.mono (fun a k e => Or.inl (by unfold fixS; omega)))
      refine E_pop rfl rfl ?_
      refine E_iinc rfl rfl rfl ?_
      refine E_goto rfl ?_
      refine (ih (i + 1) (by omega) _ c_1 hR_1 ?_ (fun b hb2 => ?_)).mono ?_
      · rw [hc_1]; exact up2_same
      · rw [hc_1, up2_fldN (by omega)]
        by_cases e : b = i
        · rw [e]; exact up2_same
        · rw [up2_fldN (by omega)]; exact hsay b (by omega)
      rintro r hE ⟨e1, c9, e2, e4, e3⟩
      exact ⟨e1, c9, e2, e4, EqP.trans hE_1 e3⟩
set_option maxHeartbeats 4000000 in
set_option maxRecDepth 100000 in
theorem c_hear {d : Nat} {h : Hp} {c : Nat → Nat → Int} {B : Nat → Nat} {s im : Nat → Int} {hi : Int} {L : List Int} (hL : Lay h) (hR : RepC h c B s im hi L) (hG : InvG s) : Ok (d + 12) 125 [(1, ((0 : Nat) : Int))] (wC h c) (fun r h2 => r = none ∧ ∃ c2, h2 = wC h c2 ∧ SaidR c2 s ∧ EqP (fun a k => (a = 22 ∧ k = 3) ∨ a = 23) c c2) := by
  show Ex _ none t_X10_hearAll 0 0 _ [] (wC h c) _
  have hGG := hG
  obtain ⟨hI, hH, ⟨⟨n29, n30, n31, n32, n33, n34, n36⟩, nM⟩⟩ := hGG
  refine E_load rfl rfl rfl ?_
  refine E_getr (c := 11) (r := 22) rfl (hL.lt 0 rfl) (hL.k 0 rfl) rfl (hR.C.g 0 7 22 (by decide)) ?_
  refine E_V0 (q := 22) (c := 8) (y := 62) rfl rfl (hL.lt 22 rfl) (hL.k 22 rfl) rfl rfl rfl rfl (s_clear (sh22 hL hR.C) (by decide) (by decide)) (fun r h2 hq => ?_)
  obtain ⟨rfl, c_1, hh, hc_1⟩ := hq
  subst hh
  have hE_1 : EqP (fun a k => (a = 22 ∧ k = 3) ∨ a = 23) c c_1 := by rw [hc_1]; exact EqP.up (by omega)
  have hR_1 := hR.scr (hE_1.mono (fun a k e => Or.inl (by unfold fixS; omega)))
  refine E_const rfl ?_
  refine E_store rfl rfl rfl ?_
  refine (Cl_hear hL hG _ 0 (Nat.zero_add _) _ c_1 hR_1 (by rw [hc_1]; exact up2_same) (fun b hb => absurd hb (Nat.not_lt_zero b))).mono ?_
  rintro r hE ⟨e1, c9, e2, e4, e3⟩
  exact ⟨e1, c9, e2, e4, EqP.trans hE_1 e3⟩
set_option maxHeartbeats 4000000 in
set_option maxRecDepth 100000 in
theorem Cl_saidBy {d : Nat} {h : Hp} {B : Nat → Nat} {s im : Nat → Int} {hi : Int} {L : List Int} (hL : Lay h) (hG : InvG s) {x : Nat} (hx : x < 64) : ∀ (n i : Nat), i + n = (s 29).toNat → ∀ (a : Int), a = smN s x i → ∀ c, RepC h c B s im hi L → SaidR c s → Ex (d + 4) none t_X10_saidBy 0 4 [(1, ((0 : Nat) : Int)), (0, (x : Int)), (0, a), (0, (i : Int))] [] (wC h c) (fun r h2 => r = some (0, smN s x (s 29).toNat) ∧ h2 = wC h c) := by
  have hGG := hG
  obtain ⟨hI, hH, ⟨⟨n29, n30, n31, n32, n33, n34, n36⟩, nM⟩⟩ := hGG
  intro n
  induction n with
  | zero =>
    intro i hin a ha c hR hSd
    refine E_load rfl rfl rfl ?_
    refine E_load rfl rfl rfl ?_
    refine E_getr (c := 11) (r := 22) rfl (hL.lt 0 rfl) (hL.k 0 rfl) rfl (hR.C.g 0 7 22 (by decide)) ?_
    refine E_getf (c := 8) (v := (0, (s 29))) rfl (hL.lt 22 rfl) (hL.k 22 rfl) rfl (fv (hSd.1)) ?_
    refine E_cmp3 rfl (by omega) (fun q1 => ?_) (fun q1 => ?_)
    · refine E_load rfl rfl rfl ?_
      refine E_iret rfl (fun h => absurd h (by decide)) ?_
      exact ⟨by rw [ha, show i = (s 29).toNat by omega], rfl⟩
    · exfalso; omega
  | succ n ih =>
    intro i hin a ha c hR hSd
    refine E_load rfl rfl rfl ?_
    refine E_load rfl rfl rfl ?_
    refine E_getr (c := 11) (r := 22) rfl (hL.lt 0 rfl) (hL.k 0 rfl) rfl (hR.C.g 0 7 22 (by decide)) ?_
    refine E_getf (c := 8) (v := (0, (s 29))) rfl (hL.lt 22 rfl) (hL.k 22 rfl) rfl (fv (hSd.1)) ?_
    refine E_cmp3 rfl (by omega) (fun q1 => ?_) (fun q1 => ?_)
    · exfalso; omega
    · refine E_load rfl rfl rfl ?_
      refine E_load rfl rfl rfl ?_
      refine E_S2 (y := 112) rfl rfl rfl rfl rfl (c_isIn (by omega) (by omega)) (fun r h2 hq => ?_)
      obtain ⟨rfl, hh⟩ := hq
      subst hh
      refine E_if0 rfl (bI_R _) (fun q2 => ?_) (fun q2 => ?_)
      · replace q2 := bI_z q2
        refine E_iinc rfl rfl rfl ?_
        refine E_goto rfl ?_
        exact ih (i + 1) (by omega) _ (by rw [ha, smN, if_neg (by omega), Int.add_zero]) c hR hSd
      · replace q2 := bI_nz q2
        refine E_load rfl rfl rfl ?_
        refine E_load rfl rfl rfl ?_
        refine E_getr (c := 11) (r := 22) rfl (hL.lt 0 rfl) (hL.k 0 rfl) rfl (hR.C.g 0 7 22 (by decide)) ?_
        refine E_load rfl rfl rfl ?_
        refine E_const rfl ?_
        refine E_V2 (q := 22) (c := 8) (y := 60) rfl rfl (hL.lt 22 rfl) (hL.k 22 rfl) rfl rfl rfl rfl (s_atv (v := syS s i) (sh22 hL hR.C) (by decide) (by decide) (by omega) (by omega) (by rw [hSd.1]; omega) (by rw [hSd.1]; omega) (atM (by rw [hSd.1]; omega) (hSd.2 i (by omega)))) (fun r h2 hq => ?_)
        obtain ⟨rfl, hh⟩ := hq
        subst hh
        refine E_add rfl ?_
        refine E_store rfl rfl rfl ?_
        refine E_iinc rfl rfl rfl ?_
        refine E_goto rfl ?_
        exact ih (i + 1) (by omega) _ (by rw [ha, smN, if_pos (by omega)]) c hR hSd
set_option maxHeartbeats 4000000 in
set_option maxRecDepth 100000 in
theorem c_saidBy {d : Nat} {h : Hp} {c : Nat → Nat → Int} {B : Nat → Nat} {s im : Nat → Int} {hi : Int} {L : List Int} (hL : Lay h) (hR : RepC h c B s im hi L) (hG : InvG s) (hSd : SaidR c s) {x : Nat} (hx : x < 64) : Ok (d + 4) 126 [(1, ((0 : Nat) : Int)), (0, (x : Int))] (wC h c) (fun r h2 => r = some (0, smN s x (s 29).toNat) ∧ h2 = wC h c) := by
  show Ex _ none t_X10_saidBy 0 0 _ [] (wC h c) _
  refine E_const rfl ?_
  refine E_store rfl rfl rfl ?_
  refine E_const rfl ?_
  refine E_store rfl rfl rfl ?_
  exact Cl_saidBy hL hG hx _ 0 (Nat.zero_add _) 0 rfl c hR hSd
theorem mBit_and0 : ∀ x y : Fin 64, mBit 5 ((x.val : Nat) : Int) ((y.val : Nat) : Int) = ((x.val &&& y.val : Nat) : Int) := by decide +kernel
theorem chN_few {s : Nat → Int} {full : Nat} {m : Int} {k n : Nat} {f : Int} (hf : f = if chN s full m k n = -5 then 7 else ((cnN (chN s full m k n).toNat 6 : Nat) : Int)) : ((cnN n 6 : Nat) : Int) < f ↔ (chN s full m k n = -5 ∨ cnN n 6 < cnN (chN s full m k n).toNat 6) := by
  have := cnN_le n 6
  rw [hf]
  by_cases h : chN s full m k n = -5
  · rw [if_pos h]; omega
  · rw [if_neg h]; omega
set_option maxHeartbeats 4000000 in
set_option maxRecDepth 100000 in
theorem Cl_choose {d : Nat} {h : Hp} {B : Nat → Nat} {s im : Nat → Int} {hi : Int} {L : List Int} (hL : Lay h) (hG : InvG s) {k : Nat} (hk : (k : Int) < s 36) {m : Int} (hm : inR m) : ∀ (n i : Nat), i + n = fuN s + 1 → ∀ (a f : Int) (v7 : AV), (a = chN s (fuN s) m k i ∧ f = if chN s (fuN s) m k i = -5 then 7 else ((cnN (chN s (fuN s) m k i).toNat 6 : Nat) : Int)) → ∀ c, RepC h c B s im hi L → SaidR c s → Ex (d + 12) none t_X10_choose 0 44 [(1, ((0 : Nat) : Int)), (0, (k : Int)), (0, m), (0, (fuN s : Int)), (0, a), (0, f), (0, (i : Int)), v7] [] (wC h c) (fun r h2 => r = some (0, chN s (fuN s) m k (fuN s + 1)) ∧ h2 = wC h c) := by
  have hGG := hG
  obtain ⟨hI, hH, ⟨⟨n29, n30, n31, n32, n33, n34, n36⟩, nM⟩⟩ := hGG
  intro n
  induction n with
  | zero =>
    intro i hin a f v7 ha c hR hSd
    have hfl := fuN_lt n29.2
    have hff : f = 7 ∨ (0 ≤ f ∧ f ≤ 6) := by
      rw [ha.2]
      split
      · exact Or.inl rfl
      · have := cnN_le (chN s (fuN s) m k i).toNat 6
        exact Or.inr (by omega)
    refine E_load rfl rfl rfl ?_
    refine E_load rfl rfl rfl ?_
    refine E_cmp4 rfl (by omega) (fun q1 => ?_) (fun q1 => ?_)
    · refine E_load rfl rfl rfl ?_
      refine E_iret rfl (fun h => absurd h (by decide)) ?_
      exact ⟨by rw [ha.1, show i = fuN s + 1 by omega], rfl⟩
    · exfalso; omega
  | succ n ih =>
    intro i hin a f v7 ha c hR hSd
    have hfl := fuN_lt n29.2
    have hff : f = 7 ∨ (0 ≤ f ∧ f ≤ 6) := by
      rw [ha.2]
      split
      · exact Or.inl rfl
      · have := cnN_le (chN s (fuN s) m k i).toNat 6
        exact Or.inr (by omega)
    refine E_load rfl rfl rfl ?_
    refine E_load rfl rfl rfl ?_
    refine E_cmp4 rfl (by omega) (fun q1 => ?_) (fun q1 => ?_)
    · exfalso; omega
    · have hci := cnN_le i 6
      have hmk := nM k (by omega)
      have hsm := smN_in hG i (s 29).toNat (by omega)
      refine E_load rfl rfl rfl ?_
      refine E_S1 (y := 228) rfl rfl rfl rfl rfl (j_bitCount (by omega)) (fun r h2 hq => ?_)
      obtain ⟨rfl, hh⟩ := hq
      subst hh
      refine E_store rfl rfl rfl ?_
      refine E_load rfl rfl rfl ?_
      refine E_load rfl rfl rfl ?_
      refine E_bit (z := (((i &&& fuN s) : Nat) : Int)) rfl rfl (mBit_and0 ⟨i, by omega⟩ ⟨fuN s, hfl⟩) ?_
      refine E_load rfl rfl rfl ?_
      refine E_cmp1 rfl (by have : i &&& fuN s ≤ i := Nat.and_le_left; omega) (fun q2 => ?_) (fun q2 => ?_)
      · refine E_iinc rfl rfl rfl ?_
        refine E_goto rfl ?_
        have e : chN s (fuN s) m k (i + 1) = chN s (fuN s) m k i := by rw [chN, if_neg (fun z => by have z1 := z.1.1; have z2 := z.1.2; have z3 := (chN_few ha.2).mpr z.2; omega)]
        exact ih (i + 1) (by omega) _ _ _ ⟨by rw [e]; exact ha.1, by rw [e]; exact ha.2⟩ c hR hSd
      · refine E_load rfl rfl rfl ?_
        refine E_load rfl rfl rfl ?_
        refine E_cmp3 rfl (by omega) (fun q3 => ?_) (fun q3 => ?_)
        · refine E_iinc rfl rfl rfl ?_
          refine E_goto rfl ?_
          have e : chN s (fuN s) m k (i + 1) = chN s (fuN s) m k i := by rw [chN, if_neg (fun z => by have z1 := z.1.1; have z2 := z.1.2; have z3 := (chN_few ha.2).mpr z.2; omega)]
          exact ih (i + 1) (by omega) _ _ _ ⟨by rw [e]; exact ha.1, by rw [e]; exact ha.2⟩ c hR hSd
        · refine E_load rfl rfl rfl ?_
          refine E_getr (c := 11) (r := 4) rfl (hL.lt 0 rfl) (hL.k 0 rfl) rfl (hR.C.g 0 1 4 (by decide)) ?_
          refine E_load rfl rfl rfl ?_
          refine E_const rfl ?_
          refine E_V2 (q := 4) (c := 8) (y := 60) rfl rfl (hL.lt 4 rfl) (hL.k 4 rfl) rfl rfl rfl rfl (s_atv (sh4 hL hR.C) (by decide) (by decide) (by omega) (by omega) (by rw [hR.mood.1]; omega) (by rw [hR.mood.1]; omega) (atM (by rw [hR.mood.1]; omega) (hR.mood.2 k (by omega)))) (fun r h2 hq => ?_)
          obtain ⟨rfl, hh⟩ := hq
          subst hh
          refine E_load rfl rfl rfl ?_
          refine E_load rfl rfl rfl ?_
          refine E_V1 (q := 0) (c := 11) (y := 126) rfl rfl (hL.lt 0 rfl) (hL.k 0 rfl) rfl rfl rfl rfl (c_saidBy hL hR hG hSd (x := i) (by omega)) (fun r h2 hq => ?_)
          obtain ⟨rfl, hh⟩ := hq
          subst hh
          refine E_add rfl ?_
          refine E_load rfl rfl rfl ?_
          refine E_cmp1 rfl (by omega) (fun q4 => ?_) (fun q4 => ?_)
          · refine E_iinc rfl rfl rfl ?_
            refine E_goto rfl ?_
            have e : chN s (fuN s) m k (i + 1) = chN s (fuN s) m k i := by rw [chN, if_neg (fun z => by have z1 := z.1.1; have z2 := z.1.2; have z3 := (chN_few ha.2).mpr z.2; omega)]
            exact ih (i + 1) (by omega) _ _ _ ⟨by rw [e]; exact ha.1, by rw [e]; exact ha.2⟩ c hR hSd
          · refine E_load rfl rfl rfl ?_
            refine E_store rfl rfl rfl ?_
            refine E_load rfl rfl rfl ?_
            refine E_store rfl rfl rfl ?_
            refine E_iinc rfl rfl rfl ?_
            refine E_goto rfl ?_
            have e : chN s (fuN s) m k (i + 1) = (i : Int) := by rw [chN, if_pos ⟨⟨by omega, by omega⟩, (chN_few ha.2).mp (by omega)⟩]
            exact ih (i + 1) (by omega) _ _ _ ⟨by rw [e], by rw [e, if_neg (by omega), Int.toNat_natCast]⟩ c hR hSd
set_option maxHeartbeats 4000000 in
set_option maxRecDepth 100000 in
theorem C_choose {d : Nat} {h : Hp} {c : Nat → Nat → Int} {B : Nat → Nat} {s im : Nat → Int} {hi : Int} {L : List Int} (hL : Lay h) (hR : RepC h c B s im hi L) (hA : Inv s) {x : Int} (hx : inR x) {m : Int} (hm : inR m) : Ok (d + 14) 90 [(1, ((0 : Nat) : Int)), (0, x), (0, m)] (wC h c) (fun r h2 => r = some (0, a_choose s x m) ∧ ∃ c2, h2 = wC h c2 ∧ EqP (ScrP B (s 29)) c c2) := by
  show Ex _ none t_X10_choose 0 0 _ [] (wC h c) _
  have hAA := hA
  have hG := hA.G
  obtain ⟨hI, hH, ⟨⟨n29, n30, n31, n32, n33, n34, n36⟩, nM⟩, hX⟩ := hA
  refine E_load rfl rfl rfl ?_
  refine E_load rfl rfl rfl ?_
  refine E_V1 (q := 0) (c := 11) (y := 119) rfl rfl (hL.lt 0 rfl) (hL.k 0 rfl) rfl rfl rfl rfl (c_isG hL hR hG (by omega)) (fun r h2 hq => ?_)
  obtain ⟨rfl, hh⟩ := hq
  subst hh
  refine E_if1 rfl (bI_R _) (fun q1 => ?_) (fun q1 => ?_)
  · replace q1 := bI_nz q1
    obtain ⟨k, rfl⟩ := Int.eq_ofNat_of_zero_le q1.1
    refine E_load rfl rfl rfl ?_
    refine E_const rfl ?_
    refine E_const rfl ?_
    refine E_S3 (y := 111) rfl rfl rfl rfl rfl (c_within (by omega) (by omega) (by omega)) (fun r h2 hq => ?_)
    obtain ⟨rfl, hh⟩ := hq
    subst hh
    refine E_if1 rfl (bI_R _) (fun q2 => ?_) (fun q2 => ?_)
    · replace q2 := bI_nz q2
      refine E_load rfl rfl rfl ?_
      refine E_V0 (q := 0) (c := 11) (y := 125) rfl rfl (hL.lt 0 rfl) (hL.k 0 rfl) rfl rfl rfl rfl (c_hear hL hR hG) (fun r h2 hq => ?_)
      obtain ⟨rfl, c_1, hh, hS_1, hE0_1⟩ := hq
      subst hh
      have hE_1 : EqP (ScrP B (s 29)) c c_1 := hE0_1.mono (fun a k e => Or.inl (by unfold fixS; omega))
      have hR_1 := hR.scr hE_1
      refine E_load rfl rfl rfl ?_
      refine E_V0 (q := 0) (c := 11) (y := 124) rfl rfl (hL.lt 0 rfl) (hL.k 0 rfl) rfl rfl rfl rfl (c_full hL hR_1 hG) (fun r h2 hq => ?_)
      obtain ⟨rfl, hh⟩ := hq
      subst hh
      refine E_store rfl rfl rfl ?_
      refine E_const rfl ?_
      refine E_store rfl rfl rfl ?_
      refine E_const rfl ?_
      refine E_store rfl rfl rfl ?_
      refine E_const rfl ?_
      refine E_store rfl rfl rfl ?_
      refine (Cl_choose hL hG (by omega) hm _ 0 (Nat.zero_add _) (-5) 7 _ ⟨rfl, rfl⟩ c_1 hR_1 hS_1).mono ?_
      rintro r hE ⟨rfl, rfl⟩
      refine qryc ?_ hE_1
      unfold a_choose
      try simp only [Int.toNat_natCast]
      rw [if_neg (by omega), if_neg (by omega)]
    · replace q2 := bI_z q2
      refine E_const rfl ?_
      refine E_iret rfl (fun h => absurd h (by decide)) ?_
      refine qryc ?_ EqP.nil
      unfold a_choose
      try simp only [Int.toNat_natCast]
      first | (exfalso; omega) | (rw [if_pos (by omega)] <;> rfl) | (rw [if_neg (by omega), if_pos (by omega)] <;> rfl) | (rw [if_neg (by omega)] <;> rfl) | (rw [if_neg (by omega), if_neg (by omega), if_pos (by omega)] <;> rfl) | (rw [if_neg (by omega), if_neg (by omega)] <;> rfl) | (rw [if_neg (by omega), if_neg (by omega), if_neg (by omega), if_pos (by omega)] <;> rfl) | (rw [if_neg (by omega), if_neg (by omega), if_neg (by omega)] <;> rfl) | (rw [if_neg (by omega), if_neg (by omega), if_neg (by omega), if_neg (by omega), if_pos (by omega)] <;> rfl) | (rw [if_neg (by omega), if_neg (by omega), if_neg (by omega), if_neg (by omega)] <;> rfl) | (rw [if_neg (by omega), if_neg (by omega), if_neg (by omega), if_neg (by omega), if_neg (by omega), if_pos (by omega)] <;> rfl) | (rw [if_neg (by omega), if_neg (by omega), if_neg (by omega), if_neg (by omega), if_neg (by omega)] <;> rfl) | (rw [if_neg (by omega), if_neg (by omega), if_neg (by omega), if_neg (by omega), if_neg (by omega), if_neg (by omega), if_pos (by omega)] <;> rfl) | (rw [if_neg (by omega), if_neg (by omega), if_neg (by omega), if_neg (by omega), if_neg (by omega), if_neg (by omega)] <;> rfl)
  · replace q1 := bI_z q1
    refine E_const rfl ?_
    refine E_iret rfl (fun h => absurd h (by decide)) ?_
    refine qryc ?_ EqP.nil
    unfold a_choose
    try simp only [Int.toNat_natCast]
    first | (exfalso; omega) | (rw [if_pos (by omega)] <;> rfl) | (rw [if_neg (by omega), if_pos (by omega)] <;> rfl) | (rw [if_neg (by omega)] <;> rfl) | (rw [if_neg (by omega), if_neg (by omega), if_pos (by omega)] <;> rfl) | (rw [if_neg (by omega), if_neg (by omega)] <;> rfl) | (rw [if_neg (by omega), if_neg (by omega), if_neg (by omega), if_pos (by omega)] <;> rfl) | (rw [if_neg (by omega), if_neg (by omega), if_neg (by omega)] <;> rfl) | (rw [if_neg (by omega), if_neg (by omega), if_neg (by omega), if_neg (by omega), if_pos (by omega)] <;> rfl) | (rw [if_neg (by omega), if_neg (by omega), if_neg (by omega), if_neg (by omega)] <;> rfl) | (rw [if_neg (by omega), if_neg (by omega), if_neg (by omega), if_neg (by omega), if_neg (by omega), if_pos (by omega)] <;> rfl) | (rw [if_neg (by omega), if_neg (by omega), if_neg (by omega), if_neg (by omega), if_neg (by omega)] <;> rfl) | (rw [if_neg (by omega), if_neg (by omega), if_neg (by omega), if_neg (by omega), if_neg (by omega), if_neg (by omega), if_pos (by omega)] <;> rfl) | (rw [if_neg (by omega), if_neg (by omega), if_neg (by omega), if_neg (by omega), if_neg (by omega), if_neg (by omega)] <;> rfl)
