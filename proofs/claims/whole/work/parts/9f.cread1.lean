/-! THE CLASS' READER -/
def TapeS (c : Nat → Nat → Int) (g : Nat → Int) (n : Nat) : Prop := c 1 3 = (n : Int) ∧ ∀ j, j < n → c 2 j = g j
def KS (c : Nat → Nat → Int) (g : Nat → Int) (n k : Nat) : Prop := Cc c ∧ TapeS c g n ∧ c 35 3 = (k : Int)
def PaR (c : Nat → Nat → Int) (P : List PRT) : Prop := c 39 3 = (P.length : Int) ∧ SerP (c 40) 0 P
def FrQ (a k : Nat) : Prop := (a = 35 ∧ (k = 3 ∨ k = 4)) ∨ (a = 39 ∧ k = 3) ∨ a = 40
theorem PaR.of {c c2 : Nat → Nat → Int} {P : List PRT} (h : PaR c P) (e1 : c2 39 3 = c 39 3) (e2 : c2 40 = c 40) : PaR c2 P := ⟨e1.trans h.1, by rw [e2]; exact h.2⟩
theorem Cc.fq {c c2 : Nat → Nat → Int} (hC : Cc c) (hE : EqP FrQ c c2) : Cc c2 := hC.of fun e he => hE _ _ (by
  have : ∀ e ∈ CT, (e.1 ≠ 35 ∨ e.2.1 < 3) ∧ (e.1 ≠ 39 ∨ e.2.1 < 3) ∧ e.1 ≠ 40 := by decide
  have := this e he
  unfold FrQ
  omega)
theorem TapeS.fq {c c2 : Nat → Nat → Int} {g : Nat → Int} {n : Nat} (hT : TapeS c g n) (hE : EqP FrQ c c2) : TapeS c2 g n := ⟨(hE 1 3 (by unfold FrQ; omega)).trans hT.1, fun j hj => (hE 2 j (by unfold FrQ; omega)).trans (hT.2 j hj)⟩
theorem tp_at {c : Nat → Nat → Int} {g : Nat → Int} {n k : Nat} (hE : Ends g n) (hT : TapeS c g n) : atS c 1 1 (k : Int) 0 = g k := by
  have h1 := hT.1
  by_cases h : k < n
  · exact atM (by omega) (hT.2 k h)
  · unfold atS
    rw [if_neg (by omega), hE.2.1 k (by omega)]
set_option maxHeartbeats 4000000 in
set_option maxRecDepth 100000 in
theorem c_takes {d : Nat} {h : Hp} {c : Nat → Nat → Int} {g : Nat → Int} {n k : Nat} (hL : Lay h) (hE : Ends g n) (hK : KS c g n k) (hk0 : k ≤ n) {x : Int} (hx : inR x) : Ok (d + 1) 39 [(1, ((35 : Nat) : Int)), (0, x)] (wC h c) (fun r h2 => r = some (0, bI (g k = x)) ∧ ∃ c2, h2 = wC h c2 ∧ KS c2 g n (if g k = x then k + 1 else k) ∧ EqP (fun a k => a = 35 ∧ k = 3) c c2) := by
  show Ex _ none t_X1_takes 3 0 _ [] (wC h c) _
  obtain ⟨hC, hT, hk⟩ := hK
  have hn := hE.1
  have hg := hE.2.2 k
  refine E_load rfl rfl rfl ?_
  refine E_getr (c := 2) (r := 1) rfl (hL.lt 35 rfl) (hL.k 35 rfl) rfl (hC.g 35 0 1 (by decide)) ?_
  refine E_load rfl rfl rfl ?_
  refine E_getf (c := 2) (v := (0, ((k : Nat) : Int))) rfl (hL.lt 35 rfl) (hL.k 35 rfl) rfl (fv (hk)) ?_
  refine E_const rfl ?_
  refine E_V2 (q := 1) (c := 8) (y := 60) rfl rfl (hL.lt 1 rfl) (hL.k 1 rfl) rfl rfl rfl rfl (s_atv (sh1 hL hC) (by decide) (by decide) (by omega) (by omega) (by rw [hT.1]; omega) (by rw [hT.1]; omega) (tp_at (k := k) hE hT)) (fun r h2 hq => ?_)
  obtain ⟨rfl, hh⟩ := hq
  subst hh
  refine E_load rfl rfl rfl ?_
  refine E_cmp0 rfl (by omega) (fun q1 => ?_) (fun q1 => ?_)
  · refine E_load rfl rfl rfl ?_
    refine E_dup rfl rfl ?_
    refine E_getf (c := 2) (v := (0, ((k : Nat) : Int))) rfl (hL.lt 35 rfl) (hL.k 35 rfl) rfl (fv (hk)) ?_
    refine E_const rfl ?_
    refine E_add rfl ?_
    refine E_putg (cl := 2) rfl (hL.lt 35 rfl) (hL.k 35 rfl) rfl (fun c_1 hc_1 => ?_)
    have hE_1 : EqP FrQ c c_1 := by rw [hc_1]; exact EqP.up (by unfold FrQ; omega)
    have hC_1 : Cc c_1 := hC.fq hE_1
    have hT_1 : TapeS c_1 g n := hT.fq hE_1
    have hk_1 : c_1 35 3 = (((k : Nat) : Int) + 1) := by rw [hc_1]; exact up2_same
    refine E_const rfl ?_
    refine E_iret rfl (fun _ => by decide) ?_
    rw [bI_t (show g k = x by omega), if_pos (show g k = x by omega)]
    exact ⟨rfl, c_1, rfl, ⟨hC_1, hT_1, hk_1⟩, by rw [hc_1]; exact EqP.up (by omega)⟩
  · refine E_const rfl ?_
    refine E_iret rfl (fun _ => by decide) ?_
    rw [bI_f (show ¬ g k = x by omega), if_neg (show ¬ g k = x by omega)]
    exact ⟨rfl, c, rfl, ⟨hC, hT, hk⟩, EqP.nil⟩
set_option maxHeartbeats 4000000 in
set_option maxRecDepth 100000 in
theorem c_num {d : Nat} {h : Hp} {c : Nat → Nat → Int} {g : Nat → Int} {n k : Nat} (hL : Lay h) (hE : Ends g n) (hK : KS c g n k) (hk0 : k ≤ n)  : Ok (d + 1) 38 [(1, ((35 : Nat) : Int))] (wC h c) (fun r h2 => r = some (0, bI ((pNum g k).1 = true)) ∧ ∃ c2, h2 = wC h c2 ∧ KS c2 g n ((pNum g k).2.1) ∧ ((pNum g k).1 = true → c2 35 4 = (pNum g k).2.2) ∧ EqP (fun a k => a = 35 ∧ (k = 3 ∨ k = 4)) c c2) := by
  show Ex _ none t_X1_readNumber 3 0 _ [] (wC h c) _
  obtain ⟨hC, hT, hk⟩ := hK
  have hn := hE.1
  have hg := hE.2.2 k
  have hg1 := hE.2.2 (k + 1)
  have hlt := fun z => hE.lt (k := k) z
  have hlt1 := fun z => hE.lt (k := k + 1) z
  refine E_load rfl rfl rfl ?_
  refine E_getr (c := 2) (r := 1) rfl (hL.lt 35 rfl) (hL.k 35 rfl) rfl (hC.g 35 0 1 (by decide)) ?_
  refine E_load rfl rfl rfl ?_
  refine E_getf (c := 2) (v := (0, ((k : Nat) : Int))) rfl (hL.lt 35 rfl) (hL.k 35 rfl) rfl (fv (hk)) ?_
  refine E_const rfl ?_
  refine E_V2 (q := 1) (c := 8) (y := 60) rfl rfl (hL.lt 1 rfl) (hL.k 1 rfl) rfl rfl rfl rfl (s_atv (sh1 hL hC) (by decide) (by decide) (by omega) (by omega) (by rw [hT.1]; omega) (by rw [hT.1]; omega) (tp_at (k := k) hE hT)) (fun r h2 hq => ?_)
  obtain ⟨rfl, hh⟩ := hq
  subst hh
  refine E_store rfl rfl rfl ?_
  refine E_load rfl rfl rfl ?_
  refine E_const rfl ?_
  refine E_const rfl ?_
  refine E_S3 (y := 111) rfl rfl rfl rfl rfl (c_within (by omega) (by omega) (by omega)) (fun r h2 hq => ?_)
  obtain ⟨rfl, hh⟩ := hq
  subst hh
  refine E_if1 rfl (bI_R _) (fun q1 => ?_) (fun q1 => ?_)
  · replace q1 := bI_nz q1
    refine E_load rfl rfl rfl ?_
    refine E_dup rfl rfl ?_
    refine E_getf (c := 2) (v := (0, ((k : Nat) : Int))) rfl (hL.lt 35 rfl) (hL.k 35 rfl) rfl (fv (hk)) ?_
    refine E_const rfl ?_
    refine E_add rfl ?_
    have hk1 := hlt (by omega)
    refine E_putg (cl := 2) rfl (hL.lt 35 rfl) (hL.k 35 rfl) rfl (fun c_1 hc_1 => ?_)
    have hE_1 : EqP FrQ c c_1 := by rw [hc_1]; exact EqP.up (by unfold FrQ; omega)
    have hC_1 : Cc c_1 := hC.fq hE_1
    have hT_1 : TapeS c_1 g n := hT.fq hE_1
    have hk_1 : c_1 35 3 = (((k : Nat) : Int) + 1) := by rw [hc_1]; exact up2_same
    refine E_load rfl rfl rfl ?_
    refine E_load rfl rfl rfl ?_
    refine E_const rfl ?_
    refine E_sub rfl ?_
    refine E_putg (cl := 2) rfl (hL.lt 35 rfl) (hL.k 35 rfl) rfl (fun c_2 hc_2 => ?_)
    have hE_2 : EqP FrQ c_1 c_2 := by rw [hc_2]; exact EqP.up (by unfold FrQ; omega)
    have hC_2 : Cc c_2 := hC_1.fq hE_2
    have hT_2 : TapeS c_2 g n := hT_1.fq hE_2
    have hk_2 : c_2 35 3 = (((k : Nat) : Int) + 1) := by rw [hc_2]; exact (up2_fldN (by omega)).trans hk_1
    have hm_2 : c_2 35 4 = ((g k) - 48) := by rw [hc_2]; exact up2_same
    refine E_load rfl rfl rfl ?_
    refine E_getr (c := 2) (r := 1) rfl (hL.lt 35 rfl) (hL.k 35 rfl) rfl (hC_2.g 35 0 1 (by decide)) ?_
    refine E_load rfl rfl rfl ?_
    refine E_getf (c := 2) (v := (0, (((k : Nat) : Int) + 1))) rfl (hL.lt 35 rfl) (hL.k 35 rfl) rfl (fv (hk_2)) ?_
    refine E_const rfl ?_
    refine E_V2 (q := 1) (c := 8) (y := 60) rfl rfl (hL.lt 1 rfl) (hL.k 1 rfl) rfl rfl rfl rfl (s_atv (sh1 hL hC_2) (by decide) (by decide) (by omega) (by omega) (by rw [hT_2.1]; omega) (by rw [hT_2.1]; omega) (tp_at (k := (k + 1)) hE hT_2)) (fun r h2 hq => ?_)
    obtain ⟨rfl, hh⟩ := hq
    subst hh
    refine E_store rfl rfl rfl ?_
    refine E_load rfl rfl rfl ?_
    refine E_const rfl ?_
    refine E_cmp0 rfl (by omega) (fun q2 => ?_) (fun q2 => ?_)
    · refine E_const rfl ?_
      refine E_iret rfl (fun _ => by decide) ?_
      have e : pNum g k = (true, (k + 1), ((g k) - 48)) := by
        unfold pNum
        (repeat' split) <;> first | (exfalso; omega) | rfl | (refine Prod.ext rfl (Prod.ext rfl ?_); dsimp only; omega)
      rw [e]
      exact ⟨rfl, c_2, rfl, ⟨hC_2, hT_2, hk_2⟩, fun _ => hm_2, by rw [hc_2, hc_1]; exact (EqP.up (by omega)).trans ((EqP.up (by omega)))⟩
    · refine E_load rfl rfl rfl ?_
      refine E_const rfl ?_
      refine E_const rfl ?_
      refine E_S3 (y := 111) rfl rfl rfl rfl rfl (c_within (by omega) (by omega) (by omega)) (fun r h2 hq => ?_)
      obtain ⟨rfl, hh⟩ := hq
      subst hh
      refine E_if0 rfl (bI_R _) (fun q3 => ?_) (fun q3 => ?_)
      · replace q3 := bI_z q3
        refine E_const rfl ?_
        refine E_iret rfl (fun _ => by decide) ?_
        have e : pNum g k = (true, (k + 1), ((g k) - 48)) := by
          unfold pNum
          (repeat' split) <;> first | (exfalso; omega) | rfl | (refine Prod.ext rfl (Prod.ext rfl ?_); dsimp only; omega)
        rw [e]
        exact ⟨rfl, c_2, rfl, ⟨hC_2, hT_2, hk_2⟩, fun _ => hm_2, by rw [hc_2, hc_1]; exact (EqP.up (by omega)).trans ((EqP.up (by omega)))⟩
      · replace q3 := bI_nz q3
        refine E_load rfl rfl rfl ?_
        refine E_dup rfl rfl ?_
        refine E_getf (c := 2) (v := (0, (((k : Nat) : Int) + 1))) rfl (hL.lt 35 rfl) (hL.k 35 rfl) rfl (fv (hk_2)) ?_
        refine E_const rfl ?_
        refine E_add rfl ?_
        refine E_putg (cl := 2) rfl (hL.lt 35 rfl) (hL.k 35 rfl) rfl (fun c_3 hc_3 => ?_)
        have hE_3 : EqP FrQ c_2 c_3 := by rw [hc_3]; exact EqP.up (by unfold FrQ; omega)
        have hC_3 : Cc c_3 := hC_2.fq hE_3
        have hT_3 : TapeS c_3 g n := hT_2.fq hE_3
        have hk_3 : c_3 35 3 = ((((k : Nat) : Int) + 1) + 1) := by rw [hc_3]; exact up2_same
        have hm_3 : c_3 35 4 = ((g k) - 48) := by rw [hc_3]; exact (up2_fldN (by omega)).trans hm_2
        refine E_load rfl rfl rfl ?_
        refine E_const rfl ?_
        refine E_load rfl rfl rfl ?_
        refine E_getf (c := 2) (v := (0, ((g k) - 48))) rfl (hL.lt 35 rfl) (hL.k 35 rfl) rfl (fv (hm_3)) ?_
        refine E_mul rfl ?_
        refine E_load rfl rfl rfl ?_
        refine E_add rfl ?_
        refine E_const rfl ?_
        refine E_sub rfl ?_
        refine E_putg (cl := 2) rfl (hL.lt 35 rfl) (hL.k 35 rfl) rfl (fun c_4 hc_4 => ?_)
        have hE_4 : EqP FrQ c_3 c_4 := by rw [hc_4]; exact EqP.up (by unfold FrQ; omega)
        have hC_4 : Cc c_4 := hC_3.fq hE_4
        have hT_4 : TapeS c_4 g n := hT_3.fq hE_4
        have hk_4 : c_4 35 3 = ((((k : Nat) : Int) + 1) + 1) := by rw [hc_4]; exact (up2_fldN (by omega)).trans hk_3
        have hm_4 : c_4 35 4 = (((10 * ((g k) - 48)) + (g (k + 1))) - 48) := by rw [hc_4]; exact up2_same
        refine E_const rfl ?_
        refine E_iret rfl (fun _ => by decide) ?_
        have e : pNum g k = (true, ((k + 1) + 1), (((10 * ((g k) - 48)) + (g (k + 1))) - 48)) := by
          unfold pNum
          (repeat' split) <;> first | (exfalso; omega) | rfl | (refine Prod.ext rfl (Prod.ext rfl ?_); dsimp only; omega)
        rw [e]
        exact ⟨rfl, c_4, rfl, ⟨hC_4, hT_4, hk_4⟩, fun _ => hm_4, by rw [hc_4, hc_3, hc_2, hc_1]; exact (EqP.up (by omega)).trans ((EqP.up (by omega)).trans ((EqP.up (by omega)).trans ((EqP.up (by omega)))))⟩
  · replace q1 := bI_z q1
    refine E_const rfl ?_
    refine E_iret rfl (fun _ => by decide) ?_
    have e : pNum g k = (false, k, 0) := if_pos (fun z => by omega)
    rw [e]
    exact ⟨rfl, c, rfl, ⟨hC, hT, hk⟩, fun z => absurd (show false = true from z) (by decide), EqP.nil⟩
set_option maxHeartbeats 4000000 in
set_option maxRecDepth 100000 in
theorem c_isLt {d : Nat} {h : Hp} {c : Nat → Nat → Int} {x : Int} (hx : inR x) : Ok (d) 37 [(0, x)] (wC h c) (fun r h2 => r = some (0, bI (isLt x)) ∧ h2 = wC h c) := by
  show Ex _ none t_X1_isLetter 3 0 _ [] (wC h c) _
  refine E_load rfl rfl rfl ?_
  refine E_const rfl ?_
  refine E_cmp0 rfl (by omega) (fun q1 => ?_) (fun q1 => ?_)
  · refine E_const rfl ?_
    refine E_goto rfl ?_
    refine E_iret rfl (fun _ => by decide) ?_
    exact ⟨by rw [bI_t (show x = 98 ∨ x = 107 ∨ x = 118 ∨ x = 121 ∨ x = 113 ∨ x = 119 by omega)], rfl⟩
  · refine E_load rfl rfl rfl ?_
    refine E_const rfl ?_
    refine E_cmp0 rfl (by omega) (fun q2 => ?_) (fun q2 => ?_)
    · refine E_const rfl ?_
      refine E_goto rfl ?_
      refine E_iret rfl (fun _ => by decide) ?_
      exact ⟨by rw [bI_t (show x = 98 ∨ x = 107 ∨ x = 118 ∨ x = 121 ∨ x = 113 ∨ x = 119 by omega)], rfl⟩
    · refine E_load rfl rfl rfl ?_
      refine E_const rfl ?_
      refine E_cmp0 rfl (by omega) (fun q3 => ?_) (fun q3 => ?_)
      · refine E_const rfl ?_
        refine E_goto rfl ?_
        refine E_iret rfl (fun _ => by decide) ?_
        exact ⟨by rw [bI_t (show x = 98 ∨ x = 107 ∨ x = 118 ∨ x = 121 ∨ x = 113 ∨ x = 119 by omega)], rfl⟩
      · refine E_load rfl rfl rfl ?_
        refine E_const rfl ?_
        refine E_cmp0 rfl (by omega) (fun q4 => ?_) (fun q4 => ?_)
        · refine E_const rfl ?_
          refine E_goto rfl ?_
          refine E_iret rfl (fun _ => by decide) ?_
          exact ⟨by rw [bI_t (show x = 98 ∨ x = 107 ∨ x = 118 ∨ x = 121 ∨ x = 113 ∨ x = 119 by omega)], rfl⟩
        · refine E_load rfl rfl rfl ?_
          refine E_const rfl ?_
          refine E_cmp0 rfl (by omega) (fun q5 => ?_) (fun q5 => ?_)
          · refine E_const rfl ?_
            refine E_goto rfl ?_
            refine E_iret rfl (fun _ => by decide) ?_
            exact ⟨by rw [bI_t (show x = 98 ∨ x = 107 ∨ x = 118 ∨ x = 121 ∨ x = 113 ∨ x = 119 by omega)], rfl⟩
          · refine E_load rfl rfl rfl ?_
            refine E_const rfl ?_
            refine E_cmp1 rfl (by omega) (fun q6 => ?_) (fun q6 => ?_)
            · refine E_const rfl ?_
              refine E_iret rfl (fun _ => by decide) ?_
              exact ⟨by rw [bI_f (fun z => by rcases z with z | z | z | z | z | z <;> omega)], rfl⟩
            · refine E_const rfl ?_
              refine E_goto rfl ?_
              refine E_iret rfl (fun _ => by decide) ?_
              exact ⟨by rw [bI_t (show x = 98 ∨ x = 107 ∨ x = 118 ∨ x = 121 ∨ x = 113 ∨ x = 119 by omega)], rfl⟩
