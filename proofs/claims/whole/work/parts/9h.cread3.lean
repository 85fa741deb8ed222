def inn (g : Nat → Int) (it : Nat → PR) (cc : Int) (op : PRT) (f fuel k : Nat) (l : List PRT) : PR := if (it k).1 then pMore g it cc op fuel (it k).2.1 (if f = 0 then l ++ (it k).2.2 else l ++ (it k).2.2 ++ [op]) else (false, (it k).2.1, [])
theorem inn0 {g : Nat → Int} {it : Nat → PR} {cc : Int} {op : PRT} {k : Nat} : inn g it cc op 0 101 k [] = pSep g it cc op k := by
  unfold inn pSep
  rw [if_pos rfl, List.nil_append]
theorem inn_next {g : Nat → Int} {it : Nat → PR} {cc : Int} {op : PRT} {f fuel k : Nat} {l L : List PRT} (hb : (it k).1 = true) (hL : (if f = 0 then l ++ (it k).2.2 else l ++ (it k).2.2 ++ [op]) = L) (hg : g (it k).2.1 = cc) : inn g it cc op f (fuel + 1) k l = inn g it cc op (f + 1) fuel ((it k).2.1 + 1) L := by
  rw [inn, if_pos hb, hL, pMore, if_pos hg, inn, if_neg (Nat.succ_ne_zero f)]
theorem inn_end {g : Nat → Int} {it : Nat → PR} {cc : Int} {op : PRT} {f fuel k : Nat} {l L : List PRT} (hb : (it k).1 = true) (hL : (if f = 0 then l ++ (it k).2.2 else l ++ (it k).2.2 ++ [op]) = L) (hg : ¬ g (it k).2.1 = cc) : inn g it cc op f (fuel + 1) k l = (true, (it k).2.1, L) := by
  rw [inn, if_pos hb, hL, pMore, if_neg hg]
theorem inn_no {g : Nat → Int} {it : Nat → PR} {cc : Int} {op : PRT} {f fuel k : Nat} {l : List PRT} (hb : ¬ (it k).1 = true) : inn g it cc op f fuel k l = (false, (it k).2.1, []) := if_neg hb
set_option maxHeartbeats 4000000 in
set_option maxRecDepth 100000 in
theorem l_ein {h : Hp} {g : Nat → Int} {n D D2 : Nat} {o : Int} {it : Nat → PR} (hL : Lay h) (hE : Ends g n) (hW : ∀ k, k ≤ n → Wf n D2 k (it k)) (hI : CtOK h g n (D + 1) 34 o it) {t : Nat} {P : List PRT} {c0 : Nat → Nat → Int} {R : PR} {Q : Option AV → Hp → Prop}
    (K : ∀ (c2 : Nat → Nat → Int) (fv : Int) (p : Nat) (L : List PRT), R = (true, p, L) → KS c2 g n p → PaR c2 (P ++ L) → EqP FrQ c0 c2 → Ex (D + 2) none t_X1_readEither 3 60 [(1, ((35 : Nat) : Int)), (0, o), (0, (t : Int)), (0, fv)] [] (wC h c2) Q)
    (KN : ∀ (c2 : Nat → Nat → Int) (p : Nat), R = (false, p, []) → KS c2 g n p → EqP FrQ c0 c2 → Q (some (0, 0)) (wC h c2)) :
    ∀ (fuel f k : Nat) (l : List PRT) (c : Nat → Nat → Int), 2 * f ≤ k → k ≤ n → n + 1 ≤ k + fuel → (P ++ l).length ≤ k → inn g it 38 ANDp f fuel k l = R → KS c g n k → PaR c (P ++ l) → EqP FrQ c0 c → Ex (D + 2) none t_X1_readEither 3 10 [(1, ((35 : Nat) : Int)), (0, o), (0, (t : Int)), (0, (f : Int))] [] (wC h c) Q := by
  have hn := hE.1
  intro fuel
  induction fuel with
  | zero =>
    intro f k l c hf hk0 hfu hl hR hK hP hEE
    exfalso; omega
  | succ fuel ih =>
    intro f k l c hf hk0 hfu hl hR hK hP hEE
    obtain ⟨hC, hT, hk⟩ := hK
    have hw := hW k hk0
    have hp1 := hw.1.2
    have hgp := hE.2.2 (it k).2.1
    have hlt := fun z => hE.lt (k := (it k).2.1) z
    refine E_load rfl rfl rfl ?_
    refine E_const rfl ?_
    refine E_cmp3 rfl (by omega) (fun q1 => ?_) (fun q1 => ?_)
    · exfalso; omega
    · refine E_load rfl rfl rfl ?_
      refine E_load rfl rfl rfl ?_
      refine E_V1 (q := 35) (c := 2) (y := 34) rfl rfl (hL.lt 35 rfl) (hL.k 35 rfl) rfl rfl rfl rfl (hI k (P ++ l) c hk0 hl ⟨hC, hT, hk⟩ hP) (fun r h2 hq => ?_)
      obtain ⟨rfl, c_1, hh, hQ_1, hP0_1, hE_1⟩ := hq
      subst hh
      obtain ⟨hC_1, hT_1, hk_1⟩ := hQ_1
      refine E_if1 rfl (bI_R _) (fun q2 => ?_) (fun q2 => ?_)
      · replace q2 := bI_nz q2
        have hb : (it k).1 = true := by assumption
        have hP_1 := hP0_1 hb
        have hw2 := (hw.2 hb).1
        refine E_load rfl rfl rfl ?_
        refine E_if5 rfl (by omega) (fun q3 => ?_) (fun q3 => ?_)
        · have hf0 : f = 0 := by omega
          refine E_load rfl rfl rfl ?_
          refine E_const rfl ?_
          refine E_V1 (q := 35) (c := 2) (y := 39) rfl rfl (hL.lt 35 rfl) (hL.k 35 rfl) rfl rfl rfl rfl (c_takes (k := (it k).2.1) hL hE ⟨hC_1, hT_1, hk_1⟩ (by omega) (by omega)) (fun r h2 hq => ?_)
          obtain ⟨rfl, c_2, hh, hQ_2, hE_2⟩ := hq
          subst hh
          obtain ⟨hC_2, hT_2, hk_2⟩ := hQ_2
          have hP_2 : PaR c_2 (P ++ l ++ (it k).2.2) := hP_1.of (hE_2 39 3 (by omega)) (funext fun j => hE_2 40 j (by omega))
          replace hE_2 : EqP FrQ c_1 c_2 := hE_2.mono (fun a k e => by unfold FrQ; omega)
          refine E_if1 rfl (bI_R _) (fun q4 => ?_) (fun q4 => ?_)
          · replace q4 := bI_nz q4
            refine E_iinc rfl rfl rfl ?_
            refine E_goto rfl ?_
            have hg2 : g (it k).2.1 = 38 := by assumption
            rw [if_pos hg2] at hk_2
            have hp2 := hlt (by omega)
            exact ih (f + 1) ((it k).2.1 + 1) (l ++ (it k).2.2) c_2 (by omega) hp2 (by omega) (by rw [List.length_append, List.length_append]; rw [List.length_append] at hl; omega) (by rw [← hR]; exact (inn_next hb (if_pos hf0) hg2).symm) ⟨hC_2, hT_2, hk_2⟩ (by rw [← List.append_assoc]; exact hP_2) (hEE.trans (hE_1.trans hE_2))
          · replace q4 := bI_z q4
            refine E_goto rfl ?_
            have hg2 : ¬ g (it k).2.1 = 38 := by assumption
            rw [if_neg hg2] at hk_2
            exact K c_2 _ (it k).2.1 (l ++ (it k).2.2) (by rw [← hR]; exact inn_end hb (if_pos hf0) hg2) ⟨hC_2, hT_2, hk_2⟩ (by rw [← List.append_assoc]; exact hP_2) (hEE.trans (hE_1.trans hE_2))
        · have hf0 : ¬ f = 0 := by omega
          refine E_load rfl rfl rfl ?_
          refine E_getr (c := 2) (r := 39) rfl (hL.lt 35 rfl) (hL.k 35 rfl) rfl (hC_1.g 35 2 39 (by decide)) ?_
          refine E_const rfl ?_
          refine E_const rfl ?_
          refine E_const rfl ?_
          refine E_V3 (q := 39) (c := 8) (y := 59) rfl rfl (hL.lt 39 rfl) (hL.k 39 rfl) rfl rfl rfl rfl (c_padd hL hC_1 hP_1 (by rw [List.length_append]; omega)) (fun r h2 hq => ?_)
          obtain ⟨rfl, c_3, hh, hP_3, hE0_3⟩ := hq
          subst hh
          have hE_3 : EqP FrQ c_1 c_3 := hE0_3.mono (fun a k e => by unfold FrQ; omega)
          have hC_3 : Cc c_3 := hC_1.fq hE_3
          have hT_3 : TapeS c_3 g n := hT_1.fq hE_3
          have hk_3 : c_3 35 3 = (((it k).2.1 : Nat) : Int) := (hE0_3 35 3 (by omega)).trans hk_1
          refine E_pop rfl rfl ?_
          refine E_load rfl rfl rfl ?_
          refine E_const rfl ?_
          refine E_V1 (q := 35) (c := 2) (y := 39) rfl rfl (hL.lt 35 rfl) (hL.k 35 rfl) rfl rfl rfl rfl (c_takes (k := (it k).2.1) hL hE ⟨hC_3, hT_3, hk_3⟩ (by omega) (by omega)) (fun r h2 hq => ?_)
          obtain ⟨rfl, c_4, hh, hQ_4, hE_4⟩ := hq
          subst hh
          obtain ⟨hC_4, hT_4, hk_4⟩ := hQ_4
          have hP_4 : PaR c_4 (P ++ l ++ (it k).2.2 ++ [(38, 0, 0)]) := hP_3.of (hE_4 39 3 (by omega)) (funext fun j => hE_4 40 j (by omega))
          replace hE_4 : EqP FrQ c_3 c_4 := hE_4.mono (fun a k e => by unfold FrQ; omega)
          refine E_if1 rfl (bI_R _) (fun q5 => ?_) (fun q5 => ?_)
          · replace q5 := bI_nz q5
            refine E_iinc rfl rfl rfl ?_
            refine E_goto rfl ?_
            have hg2 : g (it k).2.1 = 38 := by assumption
            rw [if_pos hg2] at hk_4
            have hp2 := hlt (by omega)
            exact ih (f + 1) ((it k).2.1 + 1) (l ++ (it k).2.2 ++ [ANDp]) c_4 (by omega) hp2 (by omega) (by rw [List.length_append, List.length_append, List.length_append]; rw [List.length_append] at hl; show _ + (_ + _ + 1) ≤ _; omega) (by rw [← hR]; exact (inn_next hb (if_neg hf0) hg2).symm) ⟨hC_4, hT_4, hk_4⟩ (by rw [← List.append_assoc, ← List.append_assoc]; exact hP_4) (hEE.trans (hE_1.trans (hE_3.trans hE_4)))
          · replace q5 := bI_z q5
            refine E_goto rfl ?_
            have hg2 : ¬ g (it k).2.1 = 38 := by assumption
            rw [if_neg hg2] at hk_4
            exact K c_4 _ (it k).2.1 (l ++ (it k).2.2 ++ [ANDp]) (by rw [← hR]; exact inn_end hb (if_neg hf0) hg2) ⟨hC_4, hT_4, hk_4⟩ (by rw [← List.append_assoc, ← List.append_assoc]; exact hP_4) (hEE.trans (hE_1.trans (hE_3.trans hE_4)))
      · replace q2 := bI_z q2
        refine E_const rfl ?_
        refine E_iret rfl (fun _ => by decide) ?_
        exact KN c_1 (it k).2.1 (by rw [← hR]; exact inn_no (by assumption)) ⟨hC_1, hT_1, hk_1⟩ (hEE.trans hE_1)
set_option maxHeartbeats 4000000 in
set_option maxRecDepth 100000 in
theorem l_eot {h : Hp} {g : Nat → Int} {n D D2 : Nat} {o : Int} {it : Nat → PR} (hL : Lay h) (hE : Ends g n) (hW : ∀ k, k ≤ n → Wf n D2 k (it k)) (hI : CtOK h g n (D + 1) 34 o it) {P : List PRT} {c0 : Nat → Nat → Int} {R : PR} : ∀ (fuel t k : Nat) (l : List PRT) (c : Nat → Nat → Int) (v3 : AV), 2 * t ≤ k → k ≤ n → n + 1 ≤ k + fuel → (P ++ l).length ≤ k → inn g (pSep g it 38 ANDp) 124 ORp t fuel k l = R → KS c g n k → PaR c (P ++ l) → EqP FrQ c0 c → Ex (D + 2) none t_X1_readEither 3 2 [(1, ((35 : Nat) : Int)), (0, o), (0, (t : Int)), v3] [] (wC h c) (KdQ h c0 g n P R) := by
  have hn := hE.1
  intro fuel
  induction fuel with
  | zero =>
    intro t k l c v3 hf hk0 hfu hl hR hK hP hEE
    exfalso; omega
  | succ fuel ih =>
    intro t k l c v3 hf hk0 hfu hl hR hK hP hEE
    have hKK := hK
    obtain ⟨hC, hT, hk⟩ := hK
    have hw := pSep_wf (op := ANDp) hE (Or.inl rfl) rfl hW hk0
    refine E_load rfl rfl rfl ?_
    refine E_const rfl ?_
    refine E_cmp3 rfl (by omega) (fun q1 => ?_) (fun q1 => ?_)
    · exfalso; omega
    · refine E_const rfl ?_
      refine E_store rfl rfl rfl ?_
      refine l_ein hL hE hW hI (c0 := c) (t := t) (P := P ++ l) (R := (pSep g it 38 ANDp) k) (fun c2 fv p L hR2 hK2 hP2 hE2 => ?_) (fun c2 p hR2 hK2 hE2 => ?_) 101 0 k [] c (by omega) hk0 (by omega) (by rw [List.append_nil]; exact hl) inn0 hKK (by rw [List.append_nil]; exact hP) EqP.nil
      · have hb2 : ((pSep g it 38 ANDp) k).1 = true := by rw [hR2]
        have hw2 := (hw.2 hb2).1
        have hp1 := hw.1.2
        rw [hR2] at hw2 hp1
        dsimp only at hw2 hp1
        have hl2 : (P ++ l ++ L).length ≤ 98 := by rw [List.length_append]; omega
        have hP := hP2
        obtain ⟨hC, hT, hk⟩ := hK2
        have hgp := hE.2.2 p
        have hlt := fun z => hE.lt (k := p) z
        refine E_load rfl rfl rfl ?_
        refine E_if5 rfl (by omega) (fun q1 => ?_) (fun q1 => ?_)
        · have hf0 : t = 0 := by omega
          refine E_load rfl rfl rfl ?_
          refine E_const rfl ?_
          refine E_V1 (q := 35) (c := 2) (y := 39) rfl rfl (hL.lt 35 rfl) (hL.k 35 rfl) rfl rfl rfl rfl (c_takes (k := p) hL hE ⟨hC, hT, hk⟩ (by omega) (by omega)) (fun r h2 hq => ?_)
          obtain ⟨rfl, c_1, hh, hQ_1, hE_1⟩ := hq
          subst hh
          obtain ⟨hC_1, hT_1, hk_1⟩ := hQ_1
          have hP_1 : PaR c_1 ((P ++ l) ++ L) := hP.of (hE_1 39 3 (by omega)) (funext fun j => hE_1 40 j (by omega))
          replace hE_1 : EqP FrQ c2 c_1 := hE_1.mono (fun a k e => by unfold FrQ; omega)
          refine E_if1 rfl (bI_R _) (fun q2 => ?_) (fun q2 => ?_)
          · replace q2 := bI_nz q2
            refine E_iinc rfl rfl rfl ?_
            refine E_goto rfl ?_
            have hg2 : g p = 124 := by assumption
            rw [if_pos hg2] at hk_1
            have hp2 := hlt (by omega)
            exact ih (t + 1) (p + 1) (l ++ L) c_1 _ (by omega) hp2 (by omega) (by rw [List.length_append, List.length_append]; rw [List.length_append] at hl; omega) (by rw [← hR, inn_next (L := (l ++ L)) hb2 (by rw [hR2]; exact (if_pos hf0)) (by rw [hR2]; exact hg2), hR2]) ⟨hC_1, hT_1, hk_1⟩ (by rw [← List.append_assoc]; exact hP_1) (hEE.trans (hE2.trans hE_1))
          · replace q2 := bI_z q2
            refine E_const rfl ?_
            refine E_iret rfl (fun _ => by decide) ?_
            have hg2 : ¬ g p = 124 := by assumption
            rw [if_neg hg2] at hk_1
            rw [← hR, inn_end (L := (l ++ L)) hb2 (by rw [hR2]; exact (if_pos hf0)) (by rw [hR2]; exact hg2), hR2]
            exact KdQ.yes ⟨hC_1, hT_1, hk_1⟩ (by rw [← List.append_assoc]; exact hP_1) (hEE.trans (hE2.trans hE_1))
        · have hf0 : ¬ t = 0 := by omega
          refine E_load rfl rfl rfl ?_
          refine E_getr (c := 2) (r := 39) rfl (hL.lt 35 rfl) (hL.k 35 rfl) rfl (hC.g 35 2 39 (by decide)) ?_
          refine E_const rfl ?_
          refine E_const rfl ?_
          refine E_const rfl ?_
          refine E_V3 (q := 39) (c := 8) (y := 59) rfl rfl (hL.lt 39 rfl) (hL.k 39 rfl) rfl rfl rfl rfl (c_padd hL hC hP (by rw [List.length_append]; omega)) (fun r h2 hq => ?_)
          obtain ⟨rfl, c_2, hh, hP_2, hE0_2⟩ := hq
          subst hh
          have hE_2 : EqP FrQ c2 c_2 := hE0_2.mono (fun a k e => by unfold FrQ; omega)
          have hC_2 : Cc c_2 := hC.fq hE_2
          have hT_2 : TapeS c_2 g n := hT.fq hE_2
          have hk_2 : c_2 35 3 = ((p : Nat) : Int) := (hE0_2 35 3 (by omega)).trans hk
          refine E_pop rfl rfl ?_
          refine E_load rfl rfl rfl ?_
          refine E_const rfl ?_
          refine E_V1 (q := 35) (c := 2) (y := 39) rfl rfl (hL.lt 35 rfl) (hL.k 35 rfl) rfl rfl rfl rfl (c_takes (k := p) hL hE ⟨hC_2, hT_2, hk_2⟩ (by omega) (by omega)) (fun r h2 hq => ?_)
          obtain ⟨rfl, c_3, hh, hQ_3, hE_3⟩ := hq
          subst hh
          obtain ⟨hC_3, hT_3, hk_3⟩ := hQ_3
          have hP_3 : PaR c_3 ((P ++ l) ++ L ++ [(124, 0, 0)]) := hP_2.of (hE_3 39 3 (by omega)) (funext fun j => hE_3 40 j (by omega))
          replace hE_3 : EqP FrQ c_2 c_3 := hE_3.mono (fun a k e => by unfold FrQ; omega)
          refine E_if1 rfl (bI_R _) (fun q3 => ?_) (fun q3 => ?_)
          · replace q3 := bI_nz q3
            refine E_iinc rfl rfl rfl ?_
            refine E_goto rfl ?_
            have hg2 : g p = 124 := by assumption
            rw [if_pos hg2] at hk_3
            have hp2 := hlt (by omega)
            exact ih (t + 1) (p + 1) (l ++ L ++ [ORp]) c_3 _ (by omega) hp2 (by omega) (by rw [List.length_append, List.length_append, List.length_append]; rw [List.length_append] at hl; show _ + (_ + _ + 1) ≤ _; omega) (by rw [← hR, inn_next (L := (l ++ L ++ [ORp])) hb2 (by rw [hR2]; exact (if_neg hf0)) (by rw [hR2]; exact hg2), hR2]) ⟨hC_3, hT_3, hk_3⟩ (by rw [← List.append_assoc, ← List.append_assoc]; exact hP_3) (hEE.trans (hE2.trans (hE_2.trans hE_3)))
          · replace q3 := bI_z q3
            refine E_const rfl ?_
            refine E_iret rfl (fun _ => by decide) ?_
            have hg2 : ¬ g p = 124 := by assumption
            rw [if_neg hg2] at hk_3
            rw [← hR, inn_end (L := (l ++ L ++ [ORp])) hb2 (by rw [hR2]; exact (if_neg hf0)) (by rw [hR2]; exact hg2), hR2]
            exact KdQ.yes ⟨hC_3, hT_3, hk_3⟩ (by rw [← List.append_assoc, ← List.append_assoc]; exact hP_3) (hEE.trans (hE2.trans (hE_2.trans hE_3)))
      · have hb2 : ¬ ((pSep g it 38 ANDp) k).1 = true := by rw [hR2]; exact fun z => absurd (show false = true from z) (by decide)
        rw [← hR, inn_no hb2, hR2]
        exact KdQ.no hK2 (hEE.trans hE2)
set_option maxHeartbeats 4000000 in
set_option maxRecDepth 100000 in
theorem c_either {h : Hp} {g : Nat → Int} {n D D2 : Nat} {o : Int} {it : Nat → PR} (hL : Lay h) (hE : Ends g n) (hW : ∀ k, k ≤ n → Wf n D2 k (it k)) (hI : CtOK h g n (D + 1) 34 o it) : CtOK h g n (D + 2) 33 o (pSep g (pSep g it 38 ANDp) 124 ORp) := by
  intro k P c hk0 hl hK hP
  have hn := hE.1
  show Ex _ none t_X1_readEither 3 0 _ [] (wC h c) _
  refine E_const rfl ?_
  refine E_store rfl rfl rfl ?_
  exact l_eot hL hE hW hI 101 0 k [] c _ (by omega) hk0 (by omega) (by rw [List.append_nil]; exact hl) inn0 hK (by rw [List.append_nil]; exact hP) EqP.nil
