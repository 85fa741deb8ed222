def NotN (m : Nat) (q : PR) : PR := if q.1 then (true, q.2.1, q.2.2 ++ List.replicate m NOTp) else (false, q.2.1, [])
theorem NotN_not {m : Nat} {q : PR} : NotN m (pNot q) = NotN (m + 1) q := by
  unfold NotN pNot
  by_cases h : q.1 = true
  · rw [if_pos h, if_pos h, if_pos rfl, List.append_assoc, List.replicate_succ]
    rfl
  · rw [if_neg h, if_neg h, if_neg (fun z => absurd (show false = true from z) (by decide))]
theorem NotN_y {m : Nat} {q : PR} (h : q.1 = true) : NotN m q = (true, q.2.1, q.2.2 ++ List.replicate m NOTp) := if_pos h
theorem NotN_n {m : Nat} {q : PR} (h : ¬ q.1 = true) : NotN m q = (false, q.2.1, []) := if_neg h
theorem pFac_t2 {g : Nat → Int} {r k : Nat} (h1 : g k ≠ 33 ∨ r = 0) (h2 : g k ≠ 40) : pFac g r k = pTest g k := by
  by_cases h : g k = 33
  · obtain rfl : r = 0 := by omega
    rw [show pFac g 0 k = (false, k, []) from if_pos (Or.inl h), show pTest g k = (false, k, []) from if_pos (fun z => by rcases z with z | z | z | z | z | z <;> omega)]
  · exact pFac_tst h h2
theorem KdQ.n0 {h : Hp} {c : Nat → Nat → Int} {g : Nat → Int} {n : Nat} {P : List PRT} {q : PR} {r : Option AV} {h2 : Hp} (k : KdQ h c g n P (NotN 0 q) r h2) : KdQ h c g n P q r h2 := by
  obtain ⟨e1, c9, e2, e3, e4, e5⟩ := k
  by_cases hb : q.1 = true
  · rw [NotN_y hb] at e1 e3 e4
    refine ⟨by rw [bI_t hb]; exact e1, c9, e2, e3, fun _ => ?_, e5⟩
    have := e4 rfl
    simpa using this
  · rw [NotN_n hb] at e1 e3 e4
    exact ⟨by rw [bI_f hb]; exact e1, c9, e2, e3, fun z => absurd z hb, e5⟩
def CtB (h : Hp) (g : Nat → Int) (n M r : Nat) : Prop := ∀ (k : Nat) (P : List PRT) (c : Nat → Nat → Int), k ≤ n → P.length ≤ k → g k = 40 → KS c g n k → PaR c P → Ok M 35 [(1, ((35 : Nat) : Int)), (0, 5 - (r : Int))] (wC h c) (KdQ h c g n P (pFac g r k))
set_option maxHeartbeats 4000000 in
set_option maxRecDepth 100000 in
theorem c_bra0 {h : Hp} {g : Nat → Int} {n : Nat} (hL : Lay h) (hE : Ends g n) {M : Nat} : CtB h g n M 0 := by
  intro k P c hk0 hl hg hK hP
  have hn := hE.1
  have hlt := fun z => hE.lt (k := k) z
  obtain ⟨hC, hT, hk⟩ := hK
  show Ex _ none t_X1_readBracket 3 0 _ [] (wC h c) _
  refine E_load rfl rfl rfl ?_
  refine E_const rfl ?_
  refine E_cmp3 rfl (by omega) (fun q1 => ?_) (fun q1 => ?_)
  · refine E_const rfl ?_
    refine E_iret rfl (fun _ => by decide) ?_
    rw [show pFac g 0 k = (false, k, []) from if_pos (Or.inr hg)]
    exact KdQ.no ⟨hC, hT, hk⟩ EqP.nil
  · exfalso; omega
set_option maxHeartbeats 4000000 in
set_option maxRecDepth 100000 in
theorem c_braS {h : Hp} {g : Nat → Int} {n : Nat} (hL : Lay h) (hE : Ends g n) {D r : Nat} (hr : r ≤ 100) (hS : CtOK h g n (D + 1) 33 (5 - (r : Int)) (pSome g r)) : CtB h g n (D + 2) (r + 1) := by
  intro k P c hk0 hl hg hK hP
  have hn := hE.1
  have hlt := fun z => hE.lt (k := k) z
  obtain ⟨hC, hT, hk⟩ := hK
  show Ex _ none t_X1_readBracket 3 0 _ [] (wC h c) _
  refine E_load rfl rfl rfl ?_
  refine E_const rfl ?_
  refine E_cmp3 rfl (by omega) (fun q1 => ?_) (fun q1 => ?_)
  · exfalso; omega
  · refine E_load rfl rfl rfl ?_
    refine E_const rfl ?_
    refine E_V1 (q := 35) (c := 2) (y := 39) rfl rfl (hL.lt 35 rfl) (hL.k 35 rfl) rfl rfl rfl rfl (c_takes (k := k) hL hE ⟨hC, hT, hk⟩ (by omega) (by omega)) (fun r h2 hq => ?_)
    obtain ⟨rfl, c_1, hh, hQ_1, hE_1⟩ := hq
    subst hh
    obtain ⟨hC_1, hT_1, hk_1⟩ := hQ_1
    have hP_1 : PaR c_1 P := hP.of (hE_1 39 3 (by omega)) (funext fun j => hE_1 40 j (by omega))
    replace hE_1 : EqP FrQ c c_1 := hE_1.mono (fun a k e => by unfold FrQ; omega)
    refine E_if0 rfl (bI_R _) (fun q2 => ?_) (fun q2 => ?_)
    · replace q2 := bI_z q2
      refine E_const rfl ?_
      refine E_iret rfl (fun _ => by decide) ?_
      exact absurd hg (by assumption)
    · replace q2 := bI_nz q2
      rw [if_pos hg] at hk_1
      have hk1 := hlt (by omega)
      have hw := pSome_wf hE r (k + 1) hk1
      refine E_load rfl rfl rfl ?_
      refine E_load rfl rfl rfl ?_
      refine E_const rfl ?_
      refine E_add rfl ?_
      rw [show (5 - ((r + 1 : Nat) : Int) + 1) = 5 - (r : Int) by omega]
      refine E_V1 (q := 35) (c := 2) (y := 33) rfl rfl (hL.lt 35 rfl) (hL.k 35 rfl) rfl rfl rfl rfl (hS (k + 1) P c_1 hk1 (by omega) ⟨hC_1, hT_1, hk_1⟩ hP_1) (fun r h2 hq => ?_)
      obtain ⟨rfl, c_2, hh, hQ_2, hP0_2, hE_2⟩ := hq
      subst hh
      obtain ⟨hC_2, hT_2, hk_2⟩ := hQ_2
      refine E_if0 rfl (bI_R _) (fun q3 => ?_) (fun q3 => ?_)
      · replace q3 := bI_z q3
        refine E_const rfl ?_
        refine E_iret rfl (fun _ => by decide) ?_
        rw [pFac_bra hg, show pBra g (pSome g r (k + 1)) = (false, (pSome g r (k + 1)).2.1, []) from if_neg (by assumption)]
        exact KdQ.no ⟨hC_2, hT_2, hk_2⟩ (hE_1.trans hE_2)
      · replace q3 := bI_nz q3
        have hb : (pSome g r (k + 1)).1 = true := by assumption
        have hP_2 := hP0_2 hb
        have hw2 := hw.1.2
        have hgp := hE.2.2 (pSome g r (k + 1)).2.1
        refine E_load rfl rfl rfl ?_
        refine E_const rfl ?_
        refine E_V1 (q := 35) (c := 2) (y := 39) rfl rfl (hL.lt 35 rfl) (hL.k 35 rfl) rfl rfl rfl rfl (c_takes (k := (pSome g r (k + 1)).2.1) hL hE ⟨hC_2, hT_2, hk_2⟩ (by omega) (by omega)) (fun r h2 hq => ?_)
        obtain ⟨rfl, c_3, hh, hQ_3, hE_3⟩ := hq
        subst hh
        obtain ⟨hC_3, hT_3, hk_3⟩ := hQ_3
        have hP_3 : PaR c_3 (P ++ (pSome g r (k + 1)).2.2) := hP_2.of (hE_3 39 3 (by omega)) (funext fun j => hE_3 40 j (by omega))
        replace hE_3 : EqP FrQ c_2 c_3 := hE_3.mono (fun a k e => by unfold FrQ; omega)
        refine E_if0 rfl (bI_R _) (fun q4 => ?_) (fun q4 => ?_)
        · replace q4 := bI_z q4
          refine E_const rfl ?_
          refine E_iret rfl (fun _ => by decide) ?_
          have h41 : ¬ g (pSome g r (k + 1)).2.1 = 41 := by assumption
          rw [if_neg h41] at hk_3
          rw [pFac_bra hg, show pBra g (pSome g r (k + 1)) = (false, (pSome g r (k + 1)).2.1, []) from (if_pos hb).trans (if_neg h41)]
          exact KdQ.no ⟨hC_3, hT_3, hk_3⟩ (hE_1.trans (hE_2.trans hE_3))
        · replace q4 := bI_nz q4
          refine E_const rfl ?_
          refine E_goto rfl ?_
          refine E_iret rfl (fun _ => by decide) ?_
          have h41 : g (pSome g r (k + 1)).2.1 = 41 := by assumption
          rw [if_pos h41] at hk_3
          rw [pFac_bra hg, show pBra g (pSome g r (k + 1)) = (true, (pSome g r (k + 1)).2.1 + 1, (pSome g r (k + 1)).2.2) from (if_pos hb).trans (if_pos h41)]
          exact KdQ.yes ⟨hC_3, hT_3, hk_3⟩ hP_3 (hE_1.trans (hE_2.trans hE_3))
