set_option maxHeartbeats 4000000 in
set_option maxRecDepth 100000 in
theorem l_fb {h : Hp} {g : Nat → Int} {n M : Nat} (hL : Lay h) {c0 : Nat → Nat → Int} {o a : Int} {P l : List PRT} {p : Nat} (ha : -100 ≤ a ∧ a ≤ 100) : ∀ (m : Nat) (b : Int) (P2 : List PRT) (c : Nat → Nat → Int), b + (m : Int) = a → P2.length + m ≤ 99 → P2 ++ List.replicate m NOTp = P ++ l → KS c g n p → PaR c P2 → EqP FrQ c0 c → Ex (M + 1) none t_X1_readFactor 3 66 [(1, ((35 : Nat) : Int)), (0, o), (0, a), (0, b)] [] (wC h c) (KdQ h c0 g n P (true, p, l)) := by
  intro m
  induction m with
  | zero =>
    intro b P2 c hb hl hPL hK hP hEE
    obtain ⟨hC, hT, hk⟩ := hK
    refine E_load rfl rfl rfl ?_
    refine E_load rfl rfl rfl ?_
    refine E_cmp3 rfl (by omega) (fun q1 => ?_) (fun q1 => ?_)
    · refine E_const rfl ?_
      refine E_iret rfl (fun _ => by decide) ?_
      rw [List.replicate_zero, List.append_nil] at hPL
      exact KdQ.yes ⟨hC, hT, hk⟩ (hPL ▸ hP) hEE
    · exfalso; omega
  | succ m ih =>
    intro b P2 c hb hl hPL hK hP hEE
    obtain ⟨hC, hT, hk⟩ := hK
    refine E_load rfl rfl rfl ?_
    refine E_load rfl rfl rfl ?_
    refine E_cmp3 rfl (by omega) (fun q1 => ?_) (fun q1 => ?_)
    · exfalso; omega
    · refine E_load rfl rfl rfl ?_
      refine E_getr (c := 2) (r := 39) rfl (hL.lt 35 rfl) (hL.k 35 rfl) rfl (hC.g 35 2 39 (by decide)) ?_
      refine E_const rfl ?_
      refine E_const rfl ?_
      refine E_const rfl ?_
      refine E_V3 (q := 39) (c := 8) (y := 59) rfl rfl (hL.lt 39 rfl) (hL.k 39 rfl) rfl rfl rfl rfl (c_padd hL hC hP (by omega)) (fun r h2 hq => ?_)
      obtain ⟨rfl, c_1, hh, hP_1, hE0_1⟩ := hq
      subst hh
      have hE_1 : EqP FrQ c c_1 := hE0_1.mono (fun a k e => by unfold FrQ; omega)
      have hC_1 : Cc c_1 := hC.fq hE_1
      have hT_1 : TapeS c_1 g n := hT.fq hE_1
      have hk_1 : c_1 35 3 = ((p : Nat) : Int) := (hE0_1 35 3 (by omega)).trans hk
      refine E_pop rfl rfl ?_
      refine E_iinc rfl rfl rfl ?_
      refine E_goto rfl ?_
      exact ih _ (P2 ++ [NOTp]) c_1 (by omega) (by rw [List.length_append]; show P2.length + 1 + m ≤ 99; omega) (by rw [← hPL, List.replicate_succ, List.append_assoc]; rfl) ⟨hC_1, hT_1, hk_1⟩ hP_1 (hEE.trans hE_1)
set_option maxHeartbeats 4000000 in
set_option maxRecDepth 100000 in
theorem l_fa {h : Hp} {g : Nat → Int} {n M r : Nat} (hL : Lay h) (hE : Ends g n) (hr : r ≤ 100) (hB : ∀ r2, r2 ≤ r → CtB h g n (M + 2) r2) {c0 : Nat → Nat → Int} {P : List PRT} {R : PR} : ∀ (r2 k : Nat) (c : Nat → Nat → Int) (a b : Int), a = 5 - (r2 : Int) → b = 5 - (r2 : Int) → r2 ≤ r → k ≤ n → P.length + (r - r2) ≤ k → NotN (r - r2) (pFac g r2 k) = R → KS c g n k → PaR c P → EqP FrQ c0 c → Ex (M + 3) none t_X1_readFactor 3 4 [(1, ((35 : Nat) : Int)), (0, 5 - (r : Int)), (0, a), (0, b)] [] (wC h c) (KdQ h c0 g n P R) := by
  have hn := hE.1
  intro r2
  induction r2 with
  | zero =>
    intro k c a b ha hb0 hr2 hk0 hl hR hK hP hEE
    subst ha hb0
    have hlt := fun z => hE.lt (k := k) z
    have hg := hE.2.2 k
    have hw := pFac_wf hE 0 k hk0
    obtain ⟨hC, hT, hk⟩ := hK
    refine E_load rfl rfl rfl ?_
    refine E_const rfl ?_
    refine E_cmp3 rfl (by omega) (fun q1 => ?_) (fun q1 => ?_)
    · refine E_load rfl rfl rfl ?_
      refine E_getr (c := 2) (r := 1) rfl (hL.lt 35 rfl) (hL.k 35 rfl) rfl (hC.g 35 0 1 (by decide)) ?_
      refine E_load rfl rfl rfl ?_
      refine E_getf (c := 2) (v := (0, ((k : Nat) : Int))) rfl (hL.lt 35 rfl) (hL.k 35 rfl) rfl (fv (hk)) ?_
      refine E_const rfl ?_
      refine E_V2 (q := 1) (c := 8) (y := 60) rfl rfl (hL.lt 1 rfl) (hL.k 1 rfl) rfl rfl rfl rfl (s_atv (sh1 hL hC) (by decide) (by decide) (by omega) (by omega) (by rw [hT.1]; omega) (by rw [hT.1]; omega) (tp_at (k := k) hE hT)) (fun r h2 hq => ?_)
      obtain ⟨rfl, hh⟩ := hq
      subst hh
      refine E_const rfl ?_
      refine E_cmp1 rfl (by omega) (fun q2 => ?_) (fun q2 => ?_)
      · refine E_load rfl rfl rfl ?_
        refine E_V0 (q := 35) (c := 2) (y := 36) rfl rfl (hL.lt 35 rfl) (hL.k 35 rfl) rfl rfl rfl rfl (c_test2 (k := k) hL hE ⟨hC, hT, hk⟩ hk0 (by omega) hP) (fun r h2 hq => ?_)
        obtain ⟨rfl, c_1, hh, hQ_1, hP0_1, hE_1⟩ := hq
        subst hh
        obtain ⟨hC_1, hT_1, hk_1⟩ := hQ_1
        refine E_if1 rfl (bI_R _) (fun q3 => ?_) (fun q3 => ?_)
        · replace q3 := bI_nz q3
          have hb : (pTest g k).1 = true := by assumption
          have hP_1 := hP0_1 hb
          refine E_load rfl rfl rfl ?_
          refine E_store rfl rfl rfl ?_
          have hpt : (pFac g 0 k) = pTest g k := pFac_t2 (by omega) (by omega)
          rw [hpt] at hR hw
          have hw2 := (hw.2 hb).1
          have hw4 := hw.1.2
          have hl9 : P.length + ((pTest g k).2.2.length + (r - 0)) ≤ 98 := by omega
          rw [← hR, NotN_y hb]
          exact l_fb hL (by omega) (r - 0) _ (P ++ (pTest g k).2.2) c_1 (by omega) (by rw [List.length_append]; omega) (List.append_assoc _ _ _) ⟨hC_1, hT_1, hk_1⟩ hP_1 (hEE.trans hE_1)
        · replace q3 := bI_z q3
          refine E_const rfl ?_
          refine E_iret rfl (fun _ => by decide) ?_
          have hpt : (pFac g 0 k) = pTest g k := pFac_t2 (by omega) (by omega)
          rw [hpt] at hR
          rw [← hR, NotN_n (by assumption)]
          exact KdQ.no ⟨hC_1, hT_1, hk_1⟩ (hEE.trans hE_1)
      · refine E_load rfl rfl rfl ?_
        refine E_load rfl rfl rfl ?_
        refine E_V1 (q := 35) (c := 2) (y := 35) rfl rfl (hL.lt 35 rfl) (hL.k 35 rfl) rfl rfl rfl rfl (hB 0 (by omega) k P c hk0 (by omega) (by omega) ⟨hC, hT, hk⟩ hP) (fun r h2 hq => ?_)
        obtain ⟨rfl, c_2, hh, hQ_2, hP0_2, hE_2⟩ := hq
        subst hh
        obtain ⟨hC_2, hT_2, hk_2⟩ := hQ_2
        refine E_if0 rfl (bI_R _) (fun q4 => ?_) (fun q4 => ?_)
        · replace q4 := bI_z q4
          refine E_const rfl ?_
          refine E_iret rfl (fun _ => by decide) ?_
          rw [← hR, NotN_n (by assumption)]
          exact KdQ.no ⟨hC_2, hT_2, hk_2⟩ (hEE.trans hE_2)
        · replace q4 := bI_nz q4
          have hb : (pFac g 0 k).1 = true := by assumption
          have hP_2 := hP0_2 hb
          refine E_goto rfl ?_
          refine E_load rfl rfl rfl ?_
          refine E_store rfl rfl rfl ?_
          have hw2 := (hw.2 hb).1
          have hw4 := hw.1.2
          have hl9 : P.length + ((pFac g 0 k).2.2.length + (r - 0)) ≤ 98 := by omega
          rw [← hR, NotN_y hb]
          exact l_fb hL (by omega) (r - 0) _ (P ++ (pFac g 0 k).2.2) c_2 (by omega) (by rw [List.length_append]; omega) (List.append_assoc _ _ _) ⟨hC_2, hT_2, hk_2⟩ hP_2 (hEE.trans hE_2)
    · exfalso; omega
  | succ r3 ih =>
    intro k c a b ha hb0 hr2 hk0 hl hR hK hP hEE
    subst ha hb0
    have hlt := fun z => hE.lt (k := k) z
    have hg := hE.2.2 k
    have hw := pFac_wf hE (r3 + 1) k hk0
    obtain ⟨hC, hT, hk⟩ := hK
    refine E_load rfl rfl rfl ?_
    refine E_const rfl ?_
    refine E_cmp3 rfl (by omega) (fun q1 => ?_) (fun q1 => ?_)
    · exfalso; omega
    · refine E_load rfl rfl rfl ?_
      refine E_const rfl ?_
      refine E_V1 (q := 35) (c := 2) (y := 39) rfl rfl (hL.lt 35 rfl) (hL.k 35 rfl) rfl rfl rfl rfl (c_takes (k := k) hL hE ⟨hC, hT, hk⟩ (by omega) (by omega)) (fun r h2 hq => ?_)
      obtain ⟨rfl, c_1, hh, hQ_1, hE_1⟩ := hq
      subst hh
      obtain ⟨hC_1, hT_1, hk_1⟩ := hQ_1
      have hP_1 : PaR c_1 P := hP.of (hE_1 39 3 (by omega)) (funext fun j => hE_1 40 j (by omega))
      replace hE_1 : EqP FrQ c c_1 := hE_1.mono (fun a k e => by unfold FrQ; omega)
      refine E_if0 rfl (bI_R _) (fun q2 => ?_) (fun q2 => ?_)
      · replace q2 := bI_z q2
        have hne33 : ¬ g k = 33 := by assumption
        rw [if_neg hne33] at hk_1
        refine E_load rfl rfl rfl ?_
        refine E_getr (c := 2) (r := 1) rfl (hL.lt 35 rfl) (hL.k 35 rfl) rfl (hC_1.g 35 0 1 (by decide)) ?_
        refine E_load rfl rfl rfl ?_
        refine E_getf (c := 2) (v := (0, ((k : Nat) : Int))) rfl (hL.lt 35 rfl) (hL.k 35 rfl) rfl (fv (hk_1)) ?_
        refine E_const rfl ?_
        refine E_V2 (q := 1) (c := 8) (y := 60) rfl rfl (hL.lt 1 rfl) (hL.k 1 rfl) rfl rfl rfl rfl (s_atv (sh1 hL hC_1) (by decide) (by decide) (by omega) (by omega) (by rw [hT_1.1]; omega) (by rw [hT_1.1]; omega) (tp_at (k := k) hE hT_1)) (fun r h2 hq => ?_)
        obtain ⟨rfl, hh⟩ := hq
        subst hh
        refine E_const rfl ?_
        refine E_cmp1 rfl (by omega) (fun q3 => ?_) (fun q3 => ?_)
        · refine E_load rfl rfl rfl ?_
          refine E_V0 (q := 35) (c := 2) (y := 36) rfl rfl (hL.lt 35 rfl) (hL.k 35 rfl) rfl rfl rfl rfl (c_test2 (k := k) hL hE ⟨hC_1, hT_1, hk_1⟩ hk0 (by omega) hP_1) (fun r h2 hq => ?_)
          obtain ⟨rfl, c_2, hh, hQ_2, hP0_2, hE_2⟩ := hq
          subst hh
          obtain ⟨hC_2, hT_2, hk_2⟩ := hQ_2
          refine E_if1 rfl (bI_R _) (fun q4 => ?_) (fun q4 => ?_)
          · replace q4 := bI_nz q4
            have hb : (pTest g k).1 = true := by assumption
            have hP_2 := hP0_2 hb
            refine E_load rfl rfl rfl ?_
            refine E_store rfl rfl rfl ?_
            have hpt : (pFac g (r3 + 1) k) = pTest g k := pFac_t2 (by omega) (by omega)
            rw [hpt] at hR hw
            have hw2 := (hw.2 hb).1
            have hw4 := hw.1.2
            have hl9 : P.length + ((pTest g k).2.2.length + (r - (r3 + 1))) ≤ 98 := by omega
            rw [← hR, NotN_y hb]
            exact l_fb hL (by omega) (r - (r3 + 1)) _ (P ++ (pTest g k).2.2) c_2 (by omega) (by rw [List.length_append]; omega) (List.append_assoc _ _ _) ⟨hC_2, hT_2, hk_2⟩ hP_2 (hEE.trans (hE_1.trans hE_2))
          · replace q4 := bI_z q4
            refine E_const rfl ?_
            refine E_iret rfl (fun _ => by decide) ?_
            have hpt : (pFac g (r3 + 1) k) = pTest g k := pFac_t2 (by omega) (by omega)
            rw [hpt] at hR
            rw [← hR, NotN_n (by assumption)]
            exact KdQ.no ⟨hC_2, hT_2, hk_2⟩ (hEE.trans (hE_1.trans hE_2))
        · refine E_load rfl rfl rfl ?_
          refine E_load rfl rfl rfl ?_
          refine E_V1 (q := 35) (c := 2) (y := 35) rfl rfl (hL.lt 35 rfl) (hL.k 35 rfl) rfl rfl rfl rfl (hB (r3 + 1) (by omega) k P c_1 hk0 (by omega) (by omega) ⟨hC_1, hT_1, hk_1⟩ hP_1) (fun r h2 hq => ?_)
          obtain ⟨rfl, c_3, hh, hQ_3, hP0_3, hE_3⟩ := hq
          subst hh
          obtain ⟨hC_3, hT_3, hk_3⟩ := hQ_3
          refine E_if0 rfl (bI_R _) (fun q5 => ?_) (fun q5 => ?_)
          · replace q5 := bI_z q5
            refine E_const rfl ?_
            refine E_iret rfl (fun _ => by decide) ?_
            rw [← hR, NotN_n (by assumption)]
            exact KdQ.no ⟨hC_3, hT_3, hk_3⟩ (hEE.trans (hE_1.trans hE_3))
          · replace q5 := bI_nz q5
            have hb : (pFac g (r3 + 1) k).1 = true := by assumption
            have hP_3 := hP0_3 hb
            refine E_goto rfl ?_
            refine E_load rfl rfl rfl ?_
            refine E_store rfl rfl rfl ?_
            have hw2 := (hw.2 hb).1
            have hw4 := hw.1.2
            have hl9 : P.length + ((pFac g (r3 + 1) k).2.2.length + (r - (r3 + 1))) ≤ 98 := by omega
            rw [← hR, NotN_y hb]
            exact l_fb hL (by omega) (r - (r3 + 1)) _ (P ++ (pFac g (r3 + 1) k).2.2) c_3 (by omega) (by rw [List.length_append]; omega) (List.append_assoc _ _ _) ⟨hC_3, hT_3, hk_3⟩ hP_3 (hEE.trans (hE_1.trans hE_3))
      · replace q2 := bI_nz q2
        have he33 : g k = 33 := by assumption
        rw [if_pos he33] at hk_1
        refine E_iinc rfl rfl rfl ?_
        refine E_iinc rfl rfl rfl ?_
        refine E_goto rfl ?_
        have hk1 := hlt (by omega)
        exact ih (k + 1) c_1 _ _ (by omega) (by omega) (by omega) hk1 (by omega) (by rw [← hR, pFac_not he33, NotN_not, show r - (r3 + 1) + 1 = r - r3 by omega]) ⟨hC_1, hT_1, hk_1⟩ hP_1 (hEE.trans hE_1)
set_option maxHeartbeats 4000000 in
set_option maxRecDepth 100000 in
theorem c_factor {h : Hp} {g : Nat → Int} {n M r : Nat} (hL : Lay h) (hE : Ends g n) (hr : r ≤ 100) (hB : ∀ r2, r2 ≤ r → CtB h g n (M + 2) r2) : CtOK h g n (M + 3) 34 (5 - (r : Int)) (pFac g r) := by
  intro k P c hk0 hl hK hP
  show Ex _ none t_X1_readFactor 3 0 _ [] (wC h c) _
  refine E_load rfl rfl rfl ?_
  refine E_store rfl rfl rfl ?_
  refine E_load rfl rfl rfl ?_
  refine E_store rfl rfl rfl ?_
  exact (l_fa hL hE hr hB r k c _ _ rfl rfl (Nat.le_refl r) hk0 (by omega) (by rw [Nat.sub_self]) hK hP EqP.nil).mono fun r h2 z => KdQ.n0 z
theorem c_all {h : Hp} {g : Nat → Int} {n : Nat} (hL : Lay h) (hE : Ends g n) : ∀ (r : Nat), r ≤ 100 → ∀ r2, r2 ≤ r → ∀ (D M : Nat), M = D + 3 * r2 + 3 → CtOK h g n M 34 (5 - (r2 : Int)) (pFac g r2)
  | 0, hr, r2, h2, D, M, hM => by
    obtain rfl : r2 = 0 := by omega
    subst hM
    exact c_factor hL hE (by omega) fun r3 h3 => by
      obtain rfl : r3 = 0 := by omega
      exact c_bra0 hL hE
  | r + 1, hr, r2, h2, D, M, hM => by
    have ih := c_all hL hE r (by omega)
    by_cases e : r2 ≤ r
    · exact ih r2 e D M hM
    obtain rfl : r2 = r + 1 := by omega
    obtain rfl : M = (D + 3 * r + 3) + 3 := by omega
    refine c_factor hL hE hr fun r3 h3 => ?_
    cases r3 with
    | zero => exact c_bra0 hL hE
    | succ q =>
      refine c_braS (D := D + 3 * r + 3) hL hE (by omega) ?_
      exact c_either (D := D + 3 * r + 2) hL hE (fun k hk => pFac_wf hE q k hk) (ih q (by omega) (D + 3 * (r - q)) _ (by omega))
theorem c_someR {h : Hp} {g : Nat → Int} {n : Nat} (hL : Lay h) (hE : Ends g n) (r D M : Nat) (hr : r ≤ 100) (hM : M = D + 3 * r + 4) : CtOK h g n M 33 (5 - (r : Int)) (pSome g r) := by
  subst hM
  exact c_either (D := D + 3 * r + 2) hL hE (fun k hk => pFac_wf hE r k hk) (c_all hL hE r hr r (Nat.le_refl r) D _ rfl)
