def TxQ (h : Hp) (c : Nat → Nat → Int) (g : Nat → Int) (n : Nat) (T : TX) : Option AV → Hp → Prop := fun r h2 => r = some (0, if T.1 = true then -1 else (T.2.1 : Int)) ∧ ∃ c2, h2 = wC h c2 ∧ (T.1 = true → ClF c2 T.2.2 ∧ PaR c2 (partsC T.2.2)) ∧ EqP FrD c c2
theorem TxQ.no {h : Hp} {c c2 : Nat → Nat → Int} {g : Nat → Int} {n p : Nat} (hE : EqP FrD c c2) : TxQ h c g n (false, p, []) (some (0, (p : Int))) (wC h c2) := ⟨rfl, c2, rfl, fun z => absurd (show false = true from z) (by decide), hE⟩
theorem TxQ.yes {h : Hp} {c c2 : Nat → Nat → Int} {g : Nat → Int} {n p : Nat} {l : List CLA} (hF : ClF c2 l) (hP : PaR c2 (partsC l)) (hE : EqP FrD c c2) : TxQ h c g n (true, p, l) (some (0, -1)) (wC h c2) := ⟨rfl, c2, rfl, fun _ => ⟨hF, hP⟩, hE⟩
theorem pTxt_ok {g : Nat → Int} {n : Nat} (hE : Ends g n) : ∀ (f k : Nat) (l : List CLA), k ≤ n → (∀ x ∈ l, okC x) → l.length + f ≤ 10 → (partsC l).length ≤ k → (pTxt g n f k l).2.1 ≤ n ∧ ((pTxt g n f k l).1 = true → (∀ x ∈ (pTxt g n f k l).2.2, okC x) ∧ (pTxt g n f k l).2.2.length ≤ 10 ∧ (partsC (pTxt g n f k l).2.2).length ≤ 100)
  | 0, k, l, hk, _, _, _ => ⟨hk, fun z => absurd (show false = true from z) (by decide)⟩
  | f + 1, k, l, hk, ho, hl, hp => by
    have hw := pCla_wc hE hk
    have hn := hE.1
    rw [pTxt_s, pEnd]
    by_cases hb : (pCla g k).1 = true
    · rw [if_pos hb]
      obtain ⟨w1, w2⟩ := hw.2 hb
      have hw1 := hw.1
      have ho2 : ∀ x ∈ l ++ [(pCla g k).2.2], okC x := fun x hx => by
        rcases List.mem_append.mp hx with hx | hx
        · exact ho x hx
        · rw [List.mem_singleton.mp hx]; exact w2
      have hl2 : (l ++ [(pCla g k).2.2]).length = l.length + 1 := by rw [List.length_append]; rfl
      have hp2 : (partsC (l ++ [(pCla g k).2.2])).length = (partsC l).length + (pCla g k).2.2.2.2.length := by rw [partsC_app, List.length_append]
      by_cases h1 : n ≤ (pCla g k).2.1
      · rw [if_pos h1]
        exact ⟨hw1.2, fun _ => ⟨ho2, by show (l ++ [(pCla g k).2.2]).length ≤ 10; omega, by show (partsC (l ++ [(pCla g k).2.2])).length ≤ 100; omega⟩⟩
      · rw [if_neg h1]
        by_cases h2 : f ≠ 0 ∧ g (pCla g k).2.1 = 59
        · rw [if_pos h2]
          exact pTxt_ok hE f _ _ (by omega) ho2 (by omega) (by omega)
        · rw [if_neg h2]
          exact ⟨hw1.2, fun z => absurd (show false = true from z) (by decide)⟩
    · rw [if_neg hb]
      exact ⟨hw.1.2, fun z => absurd (show false = true from z) (by decide)⟩
set_option maxHeartbeats 4000000 in
set_option maxRecDepth 100000 in
theorem l_text {h : Hp} {g : Nat → Int} {n D : Nat} (hL : Lay h) (hE : Ends g n) {c0 : Nat → Nat → Int} : ∀ (f i k : Nat) (l : List CLA) (c : Nat → Nat → Int), i + f = 10 → l.length = i → k ≤ n → (partsC l).length ≤ k → KS c g n k → ClF c l → PaR c (partsC l) → EqP FrD c0 c → Ex (D + 21) none t_X1_readText 0 21 [(1, ((35 : Nat) : Int)), (0, (i : Int))] [] (wC h c) (TxQ h c0 g n (pTxt g n f k l)) := by
  have hn := hE.1
  intro f
  induction f with
  | zero =>
    intro i k l c hi hli hk0 hpl hK hCl hP hEE
    obtain ⟨hC, hT, hk⟩ := hK
    refine E_load rfl rfl rfl ?_
    refine E_const rfl ?_
    refine E_cmp3 rfl (by omega) (fun q1 => ?_) (fun q1 => ?_)
    · refine E_load rfl rfl rfl ?_
      refine E_getf (c := 2) (v := (0, ((k : Nat) : Int))) rfl (hL.lt 35 rfl) (hL.k 35 rfl) rfl (fv (hk)) ?_
      refine E_iret rfl (fun h => absurd h (by decide)) ?_
      exact TxQ.no hEE
    · exfalso; omega
  | succ f ih =>
    intro i k l c hi hli hk0 hpl hK hCl hP hEE
    obtain ⟨hC, hT, hk⟩ := hK
    have hw := pCla_wc hE hk0
    have hp1 := hw.1.2
    have hgp := hE.2.2 (pCla g k).2.1
    have hlt := fun z => hE.lt (k := (pCla g k).2.1) z
    have hend := hE.2.1 (pCla g k).2.1
    refine E_load rfl rfl rfl ?_
    refine E_const rfl ?_
    refine E_cmp3 rfl (by omega) (fun q1 => ?_) (fun q1 => ?_)
    · exfalso; omega
    · refine E_load rfl rfl rfl ?_
      refine E_V0 (q := 35) (c := 2) (y := 31) rfl rfl (hL.lt 35 rfl) (hL.k 35 rfl) rfl rfl rfl rfl (c_clause (k := k) hL hE ⟨hC, hT, hk⟩ hk0 hCl hP hpl (by omega)) (fun r h2 hq => ?_)
      obtain ⟨rfl, c_1, hh, hQ_1, hF0_1, hE_1⟩ := hq
      subst hh
      obtain ⟨hC_1, hT_1, hk_1⟩ := hQ_1
      refine E_if1 rfl (bI_R _) (fun q2 => ?_) (fun q2 => ?_)
      · replace q2 := bI_nz q2
        have hb : (pCla g k).1 = true := by assumption
        have hw2 := (hw.2 hb).1
        refine E_load rfl rfl rfl ?_
        refine E_getf (c := 2) (v := (0, (((pCla g k).2.1 : Nat) : Int))) rfl (hL.lt 35 rfl) (hL.k 35 rfl) rfl (fv (hk_1)) ?_
        refine E_load rfl rfl rfl ?_
        refine E_getr (c := 2) (r := 1) rfl (hL.lt 35 rfl) (hL.k 35 rfl) rfl (hC_1.g 35 0 1 (by decide)) ?_
        refine E_getf (c := 8) (v := (0, ((n : Nat) : Int))) rfl (hL.lt 1 rfl) (hL.k 1 rfl) rfl (fv (hT_1.1)) ?_
        refine E_cmp2 rfl (by omega) (fun q3 => ?_) (fun q3 => ?_)
        · refine E_load rfl rfl rfl ?_
          refine E_const rfl ?_
          refine E_cmp0 rfl (by omega) (fun q4 => ?_) (fun q4 => ?_)
          · refine E_load rfl rfl rfl ?_
            refine E_getf (c := 2) (v := (0, (((pCla g k).2.1 : Nat) : Int))) rfl (hL.lt 35 rfl) (hL.k 35 rfl) rfl (fv (hk_1)) ?_
            refine E_iret rfl (fun h => absurd h (by decide)) ?_
            first
              | (have hb9 : ¬ (pCla g k).1 = true := by assumption
                 rw [pTxt_s, show pEnd g n f (pCla g k) l = (false, (pCla g k).2.1, []) from if_neg hb9]
                 exact TxQ.no (hEE.trans hE_1))
              | (rw [pTxt_s, show pEnd g n f (pCla g k) l = (false, (pCla g k).2.1, []) from (if_pos hb).trans ((if_neg (by omega)).trans (if_neg (fun z => by omega)))]
                 exact TxQ.no (hEE.trans hE_1))
          · refine E_load rfl rfl rfl ?_
            refine E_const rfl ?_
            refine E_V1 (q := 35) (c := 2) (y := 39) rfl rfl (hL.lt 35 rfl) (hL.k 35 rfl) rfl rfl rfl rfl (c_takes (k := (pCla g k).2.1) hL hE ⟨hC_1, hT_1, hk_1⟩ (by omega) (by omega)) (fun r h2 hq => ?_)
            obtain ⟨rfl, c_2, hh, hQ_2, hE0_2⟩ := hq
            subst hh
            obtain ⟨hC_2, hT_2, hk_2⟩ := hQ_2
            have hEq_2 : EqP FrQ c_1 c_2 := hE0_2.mono (fun a k e => by unfold FrQ; omega)
            have hE_2 : EqP FrD c_1 c_2 := hEq_2.mono (fun a k e => Or.inl e)
            refine E_if1 rfl (bI_R _) (fun q5 => ?_) (fun q5 => ?_)
            · replace q5 := bI_nz q5
              have hg5 : g (pCla g k).2.1 = 59 := by assumption
              rw [if_pos hg5] at hk_2
              refine E_iinc rfl rfl rfl ?_
              refine E_goto rfl ?_
              rw [pTxt_s, show pEnd g n f (pCla g k) l = pTxt g n f ((pCla g k).2.1 + 1) (l ++ [(pCla g k).2.2]) from (if_pos hb).trans ((if_neg (by omega)).trans (if_pos ⟨by omega, hg5⟩))]
              have hp2 := hlt (by omega)
              exact ih (i + 1) ((pCla g k).2.1 + 1) (l ++ [(pCla g k).2.2]) c_2 (by omega) (by rw [List.length_append, hli]; rfl) hp2 (by rw [partsC_app, List.length_append]; omega) ⟨hC_2, hT_2, hk_2⟩ ((hF0_1 hb).1.fq hEq_2) ((hF0_1 hb).2.of (hE0_2 39 3 (by omega)) (funext fun j => hE0_2 40 j (by omega))) (hEE.trans (hE_1.trans hE_2))
            · replace q5 := bI_z q5
              have hh5 : ¬ g (pCla g k).2.1 = 59 := by assumption
              rw [if_neg hh5] at hk_2
              refine E_load rfl rfl rfl ?_
              refine E_getf (c := 2) (v := (0, (((pCla g k).2.1 : Nat) : Int))) rfl (hL.lt 35 rfl) (hL.k 35 rfl) rfl (fv (hk_2)) ?_
              refine E_iret rfl (fun h => absurd h (by decide)) ?_
              have hh5 : ¬ g (pCla g k).2.1 = 59 := by assumption
              rw [pTxt_s, show pEnd g n f (pCla g k) l = (false, (pCla g k).2.1, []) from (if_pos hb).trans ((if_neg (by omega)).trans (if_neg (fun z => hh5 z.2)))]
              exact TxQ.no (hEE.trans (hE_1.trans hE_2))
        · refine E_const rfl ?_
          refine E_iret rfl (fun h => absurd h (by decide)) ?_
          have hh2 : n ≤ (pCla g k).2.1 := by omega
          rw [pTxt_s, show pEnd g n f (pCla g k) l = (true, (pCla g k).2.1, l ++ [(pCla g k).2.2]) from (if_pos hb).trans (if_pos hh2)]
          exact TxQ.yes (hF0_1 hb).1 (hF0_1 hb).2 (hEE.trans hE_1)
      · replace q2 := bI_z q2
        refine E_load rfl rfl rfl ?_
        refine E_getf (c := 2) (v := (0, (((pCla g k).2.1 : Nat) : Int))) rfl (hL.lt 35 rfl) (hL.k 35 rfl) rfl (fv (hk_1)) ?_
        refine E_iret rfl (fun h => absurd h (by decide)) ?_
        first
          | (have hb9 : ¬ (pCla g k).1 = true := by assumption
             rw [pTxt_s, show pEnd g n f (pCla g k) l = (false, (pCla g k).2.1, []) from if_neg hb9]
             exact TxQ.no (hEE.trans hE_1))
          | (rw [pTxt_s, show pEnd g n f (pCla g k) l = (false, (pCla g k).2.1, []) from (if_pos hb).trans ((if_neg (by omega)).trans (if_neg (fun z => by omega)))]
             exact TxQ.no (hEE.trans hE_1))
