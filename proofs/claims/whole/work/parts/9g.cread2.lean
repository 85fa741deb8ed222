theorem SerP_fr {f g : Nat → Int} : ∀ (l : List PRT) (j : Nat), (∀ k, 3 * j ≤ k → k < 3 * (j + l.length) → g k = f k) → SerP f j l → SerP g j l
  | [], _, _, _ => True.intro
  | p :: r, j, e, hs => by
    have e2 : ∀ k, 3 * j ≤ k → k < 3 * (j + (r.length + 1)) → g k = f k := e
    exact ⟨⟨(e2 _ (by omega) (by omega)).trans hs.1.1, (e2 _ (by omega) (by omega)).trans hs.1.2.1, (e2 _ (by omega) (by omega)).trans hs.1.2.2⟩, SerP_fr r (j + 1) (fun k hk hk2 => e2 k (by omega) (by omega)) hs.2⟩
theorem c_padd {d : Nat} {h : Hp} {c : Nat → Nat → Int} (hL : Lay h) (hC : Cc c) {P : List PRT} (hP : PaR c P) (hl : P.length ≤ 99) {x y z : Int} : Ok (d) 59 [(1, ((39 : Nat) : Int)), (0, x), (0, y), (0, z)] (wC h c) (fun r h2 => r = some (0, 1) ∧ ∃ c2, h2 = wC h c2 ∧ PaR c2 (P ++ [(x, y, z)]) ∧ EqP (fun a k => (a = 39 ∧ k = 3) ∨ a = 40) c c2) := by
  have h3 := hP.1
  refine (s_add3 (sh39 hL hC) (by decide) (by omega) (by omega)).mono ?_
  rintro r hE ⟨rfl, c2, rfl, e⟩
  rw [if_pos (by omega)] at e
  have hc : c2 = up2 (up2 (up2 (up2 c 40 (3 * P.length) x) 40 (3 * P.length + 1) y) 40 (3 * P.length + 2) z) 39 3 ((P.length : Int) + 1) := by
    rw [e]
    unfold adS
    rw [h3, show ((P.length : Int) * ((3 : Nat) : Int)).toNat = 3 * P.length by omega]
    rfl
  have hEq : EqP (fun a k => (a = 39 ∧ k = 3) ∨ a = 40) c c2 := by
    rw [hc]
    exact (EqP.up (by omega)).trans ((EqP.up (by omega)).trans ((EqP.up (by omega)).trans (EqP.up (by omega))))
  refine ⟨by rw [bI_t (by omega)], c2, rfl, ⟨?_, ?_⟩, hEq⟩
  · rw [hc, up2_same, List.length_append]; rfl
  · rw [SerP_app]
    refine ⟨SerP_fr P 0 (fun k _ hk => ?_) hP.2, ⟨?_, ?_, ?_⟩, True.intro⟩
    · rw [hc, up2_othN (by decide)]
      exact (up2_fldN (by omega)).trans ((up2_fldN (by omega)).trans (up2_fldN (by omega)))
    · rw [hc, up2_othN (by decide), Nat.zero_add]
      exact (up2_fldN (by omega)).trans ((up2_fldN (by omega)).trans up2_same)
    · rw [hc, up2_othN (by decide), Nat.zero_add]
      exact (up2_fldN (by omega)).trans up2_same
    · rw [hc, up2_othN (by decide), Nat.zero_add]
      exact up2_same
theorem dropC2 {l : List Nat} {i : Nat} (h : i < l.length) : l.drop i = l.getD i 0 :: l.drop (i + 1) := dropC h
set_option maxHeartbeats 4000000 in
set_option maxRecDepth 100000 in
theorem l_takesAll {d : Nat} {h : Hp} {g : Nat → Int} {n : Nat} (hL : Lay h) (hE : Ends g n) {kt : Nat} (hkt : kt < 10) : ∀ (m i : Nat), i + m = (txt kt).length → ∀ (k : Nat), k ≤ n → ∀ c, KS c g n k → Ex (d + 2) none t_X1_takesAll 3 2 [(1, ((35 : Nat) : Int)), (1, -10 - (kt : Int)), (0, (i : Int))] [] (wC h c) (fun r h2 => r = some (0, bI ((pSpell g ((txt kt).drop i) k).1 = true)) ∧ ∃ c2, h2 = wC h c2 ∧ KS c2 g n (pSpell g ((txt kt).drop i) k).2 ∧ EqP (fun a k => a = 35 ∧ k = 3) c c2) := by
  have hn := hE.1
  have hl10 : (txt kt).length ≤ 10 := (by decide : ∀ kt, kt < 10 → (txt kt).length ≤ 10) kt hkt
  intro m
  induction m with
  | zero =>
    intro i hi k hk0 c hK
    obtain ⟨hC, hT, hk⟩ := hK
    refine E_load rfl rfl rfl ?_
    refine E_load rfl rfl rfl ?_
    refine E_pri (as := [(1, -10 - (kt : Int))]) (rest := _) rfl rfl rfl rfl (prLen hkt) ?_
    refine E_cmp3 rfl (by omega) (fun q1 => ?_) (fun q1 => ?_)
    · refine E_const rfl ?_
      refine E_iret rfl (fun _ => by decide) ?_
      rw [show (txt kt).drop i = [] from List.drop_eq_nil_of_le (by omega)]
      exact ⟨rfl, c, rfl, ⟨hC, hT, hk⟩, EqP.nil⟩
    · exfalso; omega
  | succ m ih =>
    intro i hi k hk0 c hK
    obtain ⟨hC, hT, hk⟩ := hK
    have hi2 : i < (txt kt).length := by omega
    have hch := txtC kt hkt ((txt kt).getD i 0) (by rw [List.getD_eq_getElem?_getD, List.getElem?_eq_getElem hi2]; exact List.getElem_mem hi2)
    refine E_load rfl rfl rfl ?_
    refine E_load rfl rfl rfl ?_
    refine E_pri (as := [(1, -10 - (kt : Int))]) (rest := _) rfl rfl rfl rfl (prLen hkt) ?_
    refine E_cmp3 rfl (by omega) (fun q1 => ?_) (fun q1 => ?_)
    · exfalso; omega
    · refine E_load rfl rfl rfl ?_
      refine E_load rfl rfl rfl ?_
      refine E_load rfl rfl rfl ?_
      refine E_pri (as := [(1, -10 - (kt : Int)), (0, ((i : Nat) : Int))]) (rest := _) rfl rfl rfl rfl (prAt hkt hi2) ?_
      refine E_V1 (q := 35) (c := 2) (y := 39) rfl rfl (hL.lt 35 rfl) (hL.k 35 rfl) rfl rfl rfl rfl (c_takes (k := k) hL hE ⟨hC, hT, hk⟩ (by omega) (by omega)) (fun r h2 hq => ?_)
      obtain ⟨rfl, c_1, hh, hQ_1, hE_1⟩ := hq
      subst hh
      obtain ⟨hC_1, hT_1, hk_1⟩ := hQ_1
      refine E_if1 rfl (bI_R _) (fun q2 => ?_) (fun q2 => ?_)
      · replace q2 := bI_nz q2
        refine E_iinc rfl rfl rfl ?_
        refine E_goto rfl ?_
        have hyes : g k = (((txt kt).getD i 0 : Nat) : Int) := by assumption
        rw [if_pos hyes] at hk_1
        rw [dropC hi2, pSpell, if_pos hyes]
        have hk1 := hE.lt (k := k) (by omega)
        refine (ih (i + 1) (by omega) (k + 1) hk1 c_1 ⟨hC_1, hT_1, hk_1⟩).mono ?_
        rintro r hE2 ⟨e1, c9, e2, e4, e3⟩
        exact ⟨e1, c9, e2, e4, EqP.trans hE_1 e3⟩
      · replace q2 := bI_z q2
        refine E_const rfl ?_
        refine E_iret rfl (fun _ => by decide) ?_
        rw [dropC hi2, pSpell]
        have hne : ¬ g k = (((txt kt).getD i 0 : Nat) : Int) := by assumption
        rw [if_neg hne]
        rw [if_neg hne] at hk_1
        exact ⟨rfl, c_1, rfl, ⟨hC_1, hT_1, hk_1⟩, hE_1⟩
theorem c_takesAll {d : Nat} {h : Hp} {c : Nat → Nat → Int} {g : Nat → Int} {n k : Nat} (hL : Lay h) (hE : Ends g n) (hK : KS c g n k) (hk0 : k ≤ n) {kt : Nat} (hkt : kt < 10) {x : Int} (hx : x = -10 - (kt : Int)) {W : List Nat} (hW : txt kt = W) : Ok (d + 2) 40 [(1, ((35 : Nat) : Int)), (1, x)] (wC h c) (fun r h2 => r = some (0, bI ((pSpell g W k).1 = true)) ∧ ∃ c2, h2 = wC h c2 ∧ KS c2 g n ((pSpell g W k).2) ∧ EqP (fun a k => a = 35 ∧ k = 3) c c2) := by
  subst hx hW
  show Ex _ none t_X1_takesAll 3 0 _ [] (wC h c) _
  refine E_const rfl ?_
  refine E_store rfl rfl rfl ?_
  exact l_takesAll hL hE hkt _ 0 (Nat.zero_add _) k hk0 c hK
def KdQ (h : Hp) (c : Nat → Nat → Int) (g : Nat → Int) (n : Nat) (P : List PRT) (q : PR) : Option AV → Hp → Prop := fun r h2 => r = some (0, bI (q.1 = true)) ∧ ∃ c2, h2 = wC h c2 ∧ KS c2 g n q.2.1 ∧ (q.1 = true → PaR c2 (P ++ q.2.2)) ∧ EqP FrQ c c2
def CtOK (h : Hp) (g : Nat → Int) (n D y : Nat) (o : Int) (it : Nat → PR) : Prop := ∀ (k : Nat) (P : List PRT) (c : Nat → Nat → Int), k ≤ n → P.length ≤ k → KS c g n k → PaR c P → Ok D y [(1, ((35 : Nat) : Int)), (0, o)] (wC h c) (KdQ h c g n P (it k))
theorem KdQ.no {h : Hp} {c c2 : Nat → Nat → Int} {g : Nat → Int} {n p : Nat} {P : List PRT} (hK : KS c2 g n p) (hE : EqP FrQ c c2) : KdQ h c g n P (false, p, []) (some (0, 0)) (wC h c2) := ⟨rfl, c2, rfl, hK, fun z => absurd (show false = true from z) (by decide), hE⟩
theorem KdQ.yes {h : Hp} {c c2 : Nat → Nat → Int} {g : Nat → Int} {n p : Nat} {P l : List PRT} (hK : KS c2 g n p) (hP : PaR c2 (P ++ l)) (hE : EqP FrQ c c2) : KdQ h c g n P (true, p, l) (some (0, 1)) (wC h c2) := ⟨rfl, c2, rfl, hK, fun _ => hP, hE⟩
theorem KdQ.of {h : Hp} {c c1 : Nat → Nat → Int} {g : Nat → Int} {n : Nat} {P : List PRT} {q : PR} {r : Option AV} {h2 : Hp} (hE : EqP FrQ c c1) (k : KdQ h c1 g n P q r h2) : KdQ h c g n P q r h2 := by
  obtain ⟨e1, c9, e2, e3, e4, e5⟩ := k
  exact ⟨e1, c9, e2, e3, e4, hE.trans e5⟩
set_option maxHeartbeats 4000000 in
set_option maxRecDepth 100000 in
theorem c_test2 {d : Nat} {h : Hp} {c : Nat → Nat → Int} {g : Nat → Int} {n k : Nat} (hL : Lay h) (hE : Ends g n) (hK : KS c g n k) (hk0 : k ≤ n) {P : List PRT} (hl : P.length ≤ k) (hP : PaR c P) : Ok (d + 2) 36 [(1, ((35 : Nat) : Int))] (wC h c) (KdQ h c g n P (pTest g k)) := by
  show Ex _ none t_X1_readTest 3 0 _ [] (wC h c) _
  obtain ⟨hC, hT, hk⟩ := hK
  have hn := hE.1
  have hg := hE.2.2 k
  have hg1 := hE.2.2 (k + 1)
  have hlt := fun z => hE.lt (k := k) z
  have hlt1 := fun z => hE.lt (k := k + 1) z
  refine E_load rfl rfl rfl ?_
  refine E_getr (c := 2) (r := 1) rfl (hL.lt 35 rfl) (hL.k 35 rfl) rfl (hC.g 35 0 1 (by decide)) ?_
  refine E_load rfl rfl rfl ?_
  refine E_getf (c := 2) (v := (0, ((k : Nat) : Int))) rfl (hL.lt 35 rfl) (hL.k 35 rfl) rfl (fv (hk)) ?_
  refine E_const rfl ?_
  refine E_V2 (q := 1) (c := 8) (y := 60) rfl rfl (hL.lt 1 rfl) (hL.k 1 rfl) rfl rfl rfl rfl (s_atv (sh1 hL hC) (by decide) (by decide) (by omega) (by omega) (by rw [hT.1]; omega) (by rw [hT.1]; omega) (tp_at (k := k) hE hT)) (fun r h2 hq => ?_)
  obtain ⟨rfl, hh⟩ := hq
  subst hh
  refine E_store rfl rfl rfl ?_
  refine E_load rfl rfl rfl ?_
  refine E_S1 (y := 37) rfl rfl rfl rfl rfl (c_isLt (by omega)) (fun r h2 hq => ?_)
  obtain ⟨rfl, hh⟩ := hq
  subst hh
  refine E_if1 rfl (bI_R _) (fun q1 => ?_) (fun q1 => ?_)
  · replace q1 := bI_nz q1
    have h1 : isLt (g k) := by assumption
    have hk1 := hlt (by omega)
    refine E_load rfl rfl rfl ?_
    refine E_dup rfl rfl ?_
    refine E_getf (c := 2) (v := (0, ((k : Nat) : Int))) rfl (hL.lt 35 rfl) (hL.k 35 rfl) rfl (fv (hk)) ?_
    refine E_const rfl ?_
    refine E_add rfl ?_
    refine E_putg (cl := 2) rfl (hL.lt 35 rfl) (hL.k 35 rfl) rfl (fun c_1 hc_1 => ?_)
    have hE_1 : EqP FrQ c c_1 := by rw [hc_1]; exact EqP.up (by unfold FrQ; omega)
    have hC_1 : Cc c_1 := hC.fq hE_1
    have hT_1 : TapeS c_1 g n := hT.fq hE_1
    have hk_1 : c_1 35 3 = (((k : Nat) : Int) + 1) := by rw [hc_1]; exact up2_same
    have hP_1 : PaR c_1 P := hP.of (by rw [hc_1]; exact up2_fldN (by omega)) (by rw [hc_1]; exact up2_othN (by omega))
    refine E_load rfl rfl rfl ?_
    refine E_getr (c := 2) (r := 1) rfl (hL.lt 35 rfl) (hL.k 35 rfl) rfl (hC_1.g 35 0 1 (by decide)) ?_
    refine E_load rfl rfl rfl ?_
    refine E_getf (c := 2) (v := (0, (((k : Nat) : Int) + 1))) rfl (hL.lt 35 rfl) (hL.k 35 rfl) rfl (fv (hk_1)) ?_
    refine E_const rfl ?_
    refine E_V2 (q := 1) (c := 8) (y := 60) rfl rfl (hL.lt 1 rfl) (hL.k 1 rfl) rfl rfl rfl rfl (s_atv (sh1 hL hC_1) (by decide) (by decide) (by omega) (by omega) (by rw [hT_1.1]; omega) (by rw [hT_1.1]; omega) (tp_at (k := (k + 1)) hE hT_1)) (fun r h2 hq => ?_)
    obtain ⟨rfl, hh⟩ := hq
    subst hh
    refine E_store rfl rfl rfl ?_
    refine E_load rfl rfl rfl ?_
    refine E_const rfl ?_
    refine E_cmp0 rfl (by omega) (fun q2 => ?_) (fun q2 => ?_)
    · have h2 : isHw (g (k + 1)) := by first | exact Or.inl (by omega) | exact Or.inr (Or.inl (by omega)) | exact Or.inr (Or.inr (by omega))
      have hk2 := hlt1 (by omega)
      have hnu := pNum_in hE (k := k + 1 + 1) (by omega)
      refine E_load rfl rfl rfl ?_
      refine E_dup rfl rfl ?_
      refine E_getf (c := 2) (v := (0, (((k : Nat) : Int) + 1))) rfl (hL.lt 35 rfl) (hL.k 35 rfl) rfl (fv (hk_1)) ?_
      refine E_const rfl ?_
      refine E_add rfl ?_
      refine E_putg (cl := 2) rfl (hL.lt 35 rfl) (hL.k 35 rfl) rfl (fun c_2 hc_2 => ?_)
      have hE_2 : EqP FrQ c_1 c_2 := by rw [hc_2]; exact EqP.up (by unfold FrQ; omega)
      have hC_2 : Cc c_2 := hC_1.fq hE_2
      have hT_2 : TapeS c_2 g n := hT_1.fq hE_2
      have hk_2 : c_2 35 3 = ((((k : Nat) : Int) + 1) + 1) := by rw [hc_2]; exact up2_same
      have hP_2 : PaR c_2 P := hP_1.of (by rw [hc_2]; exact up2_fldN (by omega)) (by rw [hc_2]; exact up2_othN (by omega))
      refine E_load rfl rfl rfl ?_
      refine E_V0 (q := 35) (c := 2) (y := 38) rfl rfl (hL.lt 35 rfl) (hL.k 35 rfl) rfl rfl rfl rfl (c_num (k := ((k + 1) + 1)) hL hE ⟨hC_2, hT_2, hk_2⟩ (by omega)) (fun r h2 hq => ?_)
      obtain ⟨rfl, c_3, hh, hQ_3, hm0_3, hE_3⟩ := hq
      subst hh
      obtain ⟨hC_3, hT_3, hk_3⟩ := hQ_3
      have hP_3 : PaR c_3 P := hP_2.of (hE_3 39 3 (by omega)) (funext fun j => hE_3 40 j (by omega))
      replace hE_3 : EqP FrQ c_2 c_3 := hE_3.mono (fun a k e => by unfold FrQ; omega)
      refine E_if0 rfl (bI_R _) (fun q3 => ?_) (fun q3 => ?_)
      · replace q3 := bI_z q3
        refine E_const rfl ?_
        refine E_iret rfl (fun _ => by decide) ?_
        have hpt : pTest g k = (false, (pNum g (k + 1 + 1)).2.1, []) := (if_neg (fun z => z h1)).trans ((if_neg (fun z => z h2)).trans (if_neg (by assumption)))
        rw [hpt]
        exact KdQ.no ⟨hC_3, hT_3, hk_3⟩ (hE_1.trans (hE_2.trans hE_3))
      · replace q3 := bI_nz q3
        have hb : (pNum g (k + 1 + 1)).1 = true := by assumption
        have hnb := hnu.2.2 hb
        refine E_load rfl rfl rfl ?_
        refine E_getr (c := 2) (r := 39) rfl (hL.lt 35 rfl) (hL.k 35 rfl) rfl (hC_3.g 35 2 39 (by decide)) ?_
        refine E_load rfl rfl rfl ?_
        refine E_load rfl rfl rfl ?_
        refine E_load rfl rfl rfl ?_
        refine E_getf (c := 2) (v := (0, (pNum g ((k + 1) + 1)).2.2)) rfl (hL.lt 35 rfl) (hL.k 35 rfl) rfl (fv (hm0_3 hb)) ?_
        refine E_V3 (q := 39) (c := 8) (y := 59) rfl rfl (hL.lt 39 rfl) (hL.k 39 rfl) rfl rfl rfl rfl (c_padd hL hC_3 hP_3 (by omega)) (fun r h2 hq => ?_)
        obtain ⟨rfl, c_4, hh, hP_4, hE0_4⟩ := hq
        subst hh
        have hE_4 : EqP FrQ c_3 c_4 := hE0_4.mono (fun a k e => by unfold FrQ; omega)
        have hC_4 : Cc c_4 := hC_3.fq hE_4
        have hT_4 : TapeS c_4 g n := hT_3.fq hE_4
        have hk_4 : c_4 35 3 = (((pNum g ((k + 1) + 1)).2.1 : Nat) : Int) := (hE0_4 35 3 (by omega)).trans hk_3
        refine E_if0 rfl (by omega) (fun q4 => ?_) (fun q4 => ?_)
        · exfalso; omega
        · refine E_const rfl ?_
          refine E_goto rfl ?_
          refine E_iret rfl (fun _ => by decide) ?_
          have hpt : pTest g k = (true, (pNum g (k + 1 + 1)).2.1, [(g k, g (k + 1), (pNum g (k + 1 + 1)).2.2)]) := (if_neg (fun z => z h1)).trans ((if_neg (fun z => z h2)).trans (if_pos hb))
          rw [hpt]
          exact KdQ.yes ⟨hC_4, hT_4, hk_4⟩ hP_4 (hE_1.trans (hE_2.trans (hE_3.trans hE_4)))
    · refine E_load rfl rfl rfl ?_
      refine E_const rfl ?_
      refine E_cmp0 rfl (by omega) (fun q5 => ?_) (fun q5 => ?_)
      · have h2 : isHw (g (k + 1)) := by first | exact Or.inl (by omega) | exact Or.inr (Or.inl (by omega)) | exact Or.inr (Or.inr (by omega))
        have hk2 := hlt1 (by omega)
        have hnu := pNum_in hE (k := k + 1 + 1) (by omega)
        refine E_load rfl rfl rfl ?_
        refine E_dup rfl rfl ?_
        refine E_getf (c := 2) (v := (0, (((k : Nat) : Int) + 1))) rfl (hL.lt 35 rfl) (hL.k 35 rfl) rfl (fv (hk_1)) ?_
        refine E_const rfl ?_
        refine E_add rfl ?_
        refine E_putg (cl := 2) rfl (hL.lt 35 rfl) (hL.k 35 rfl) rfl (fun c_5 hc_5 => ?_)
        have hE_5 : EqP FrQ c_1 c_5 := by rw [hc_5]; exact EqP.up (by unfold FrQ; omega)
        have hC_5 : Cc c_5 := hC_1.fq hE_5
        have hT_5 : TapeS c_5 g n := hT_1.fq hE_5
        have hk_5 : c_5 35 3 = ((((k : Nat) : Int) + 1) + 1) := by rw [hc_5]; exact up2_same
        have hP_5 : PaR c_5 P := hP_1.of (by rw [hc_5]; exact up2_fldN (by omega)) (by rw [hc_5]; exact up2_othN (by omega))
        refine E_load rfl rfl rfl ?_
        refine E_V0 (q := 35) (c := 2) (y := 38) rfl rfl (hL.lt 35 rfl) (hL.k 35 rfl) rfl rfl rfl rfl (c_num (k := ((k + 1) + 1)) hL hE ⟨hC_5, hT_5, hk_5⟩ (by omega)) (fun r h2 hq => ?_)
        obtain ⟨rfl, c_6, hh, hQ_6, hm0_6, hE_6⟩ := hq
        subst hh
        obtain ⟨hC_6, hT_6, hk_6⟩ := hQ_6
        have hP_6 : PaR c_6 P := hP_5.of (hE_6 39 3 (by omega)) (funext fun j => hE_6 40 j (by omega))
        replace hE_6 : EqP FrQ c_5 c_6 := hE_6.mono (fun a k e => by unfold FrQ; omega)
        refine E_if0 rfl (bI_R _) (fun q6 => ?_) (fun q6 => ?_)
        · replace q6 := bI_z q6
          refine E_const rfl ?_
          refine E_iret rfl (fun _ => by decide) ?_
          have hpt : pTest g k = (false, (pNum g (k + 1 + 1)).2.1, []) := (if_neg (fun z => z h1)).trans ((if_neg (fun z => z h2)).trans (if_neg (by assumption)))
          rw [hpt]
          exact KdQ.no ⟨hC_6, hT_6, hk_6⟩ (hE_1.trans (hE_5.trans hE_6))
        · replace q6 := bI_nz q6
          have hb : (pNum g (k + 1 + 1)).1 = true := by assumption
          have hnb := hnu.2.2 hb
          refine E_load rfl rfl rfl ?_
          refine E_getr (c := 2) (r := 39) rfl (hL.lt 35 rfl) (hL.k 35 rfl) rfl (hC_6.g 35 2 39 (by decide)) ?_
          refine E_load rfl rfl rfl ?_
          refine E_load rfl rfl rfl ?_
          refine E_load rfl rfl rfl ?_
          refine E_getf (c := 2) (v := (0, (pNum g ((k + 1) + 1)).2.2)) rfl (hL.lt 35 rfl) (hL.k 35 rfl) rfl (fv (hm0_6 hb)) ?_
          refine E_V3 (q := 39) (c := 8) (y := 59) rfl rfl (hL.lt 39 rfl) (hL.k 39 rfl) rfl rfl rfl rfl (c_padd hL hC_6 hP_6 (by omega)) (fun r h2 hq => ?_)
          obtain ⟨rfl, c_7, hh, hP_7, hE0_7⟩ := hq
          subst hh
          have hE_7 : EqP FrQ c_6 c_7 := hE0_7.mono (fun a k e => by unfold FrQ; omega)
          have hC_7 : Cc c_7 := hC_6.fq hE_7
          have hT_7 : TapeS c_7 g n := hT_6.fq hE_7
          have hk_7 : c_7 35 3 = (((pNum g ((k + 1) + 1)).2.1 : Nat) : Int) := (hE0_7 35 3 (by omega)).trans hk_6
          refine E_if0 rfl (by omega) (fun q7 => ?_) (fun q7 => ?_)
          · exfalso; omega
          · refine E_const rfl ?_
            refine E_goto rfl ?_
            refine E_iret rfl (fun _ => by decide) ?_
            have hpt : pTest g k = (true, (pNum g (k + 1 + 1)).2.1, [(g k, g (k + 1), (pNum g (k + 1 + 1)).2.2)]) := (if_neg (fun z => z h1)).trans ((if_neg (fun z => z h2)).trans (if_pos hb))
            rw [hpt]
            exact KdQ.yes ⟨hC_7, hT_7, hk_7⟩ hP_7 (hE_1.trans (hE_5.trans (hE_6.trans hE_7)))
      · refine E_load rfl rfl rfl ?_
        refine E_const rfl ?_
        refine E_cmp0 rfl (by omega) (fun q8 => ?_) (fun q8 => ?_)
        · have h2 : isHw (g (k + 1)) := by first | exact Or.inl (by omega) | exact Or.inr (Or.inl (by omega)) | exact Or.inr (Or.inr (by omega))
          have hk2 := hlt1 (by omega)
          have hnu := pNum_in hE (k := k + 1 + 1) (by omega)
          refine E_load rfl rfl rfl ?_
          refine E_dup rfl rfl ?_
          refine E_getf (c := 2) (v := (0, (((k : Nat) : Int) + 1))) rfl (hL.lt 35 rfl) (hL.k 35 rfl) rfl (fv (hk_1)) ?_
          refine E_const rfl ?_
          refine E_add rfl ?_
          refine E_putg (cl := 2) rfl (hL.lt 35 rfl) (hL.k 35 rfl) rfl (fun c_8 hc_8 => ?_)
          have hE_8 : EqP FrQ c_1 c_8 := by rw [hc_8]; exact EqP.up (by unfold FrQ; omega)
          have hC_8 : Cc c_8 := hC_1.fq hE_8
          have hT_8 : TapeS c_8 g n := hT_1.fq hE_8
          have hk_8 : c_8 35 3 = ((((k : Nat) : Int) + 1) + 1) := by rw [hc_8]; exact up2_same
          have hP_8 : PaR c_8 P := hP_1.of (by rw [hc_8]; exact up2_fldN (by omega)) (by rw [hc_8]; exact up2_othN (by omega))
          refine E_load rfl rfl rfl ?_
          refine E_V0 (q := 35) (c := 2) (y := 38) rfl rfl (hL.lt 35 rfl) (hL.k 35 rfl) rfl rfl rfl rfl (c_num (k := ((k + 1) + 1)) hL hE ⟨hC_8, hT_8, hk_8⟩ (by omega)) (fun r h2 hq => ?_)
          obtain ⟨rfl, c_9, hh, hQ_9, hm0_9, hE_9⟩ := hq
          subst hh
          obtain ⟨hC_9, hT_9, hk_9⟩ := hQ_9
          have hP_9 : PaR c_9 P := hP_8.of (hE_9 39 3 (by omega)) (funext fun j => hE_9 40 j (by omega))
          replace hE_9 : EqP FrQ c_8 c_9 := hE_9.mono (fun a k e => by unfold FrQ; omega)
          refine E_if0 rfl (bI_R _) (fun q9 => ?_) (fun q9 => ?_)
          · replace q9 := bI_z q9
            refine E_const rfl ?_
            refine E_iret rfl (fun _ => by decide) ?_
            have hpt : pTest g k = (false, (pNum g (k + 1 + 1)).2.1, []) := (if_neg (fun z => z h1)).trans ((if_neg (fun z => z h2)).trans (if_neg (by assumption)))
            rw [hpt]
            exact KdQ.no ⟨hC_9, hT_9, hk_9⟩ (hE_1.trans (hE_8.trans hE_9))
          · replace q9 := bI_nz q9
            have hb : (pNum g (k + 1 + 1)).1 = true := by assumption
            have hnb := hnu.2.2 hb
            refine E_load rfl rfl rfl ?_
            refine E_getr (c := 2) (r := 39) rfl (hL.lt 35 rfl) (hL.k 35 rfl) rfl (hC_9.g 35 2 39 (by decide)) ?_
            refine E_load rfl rfl rfl ?_
            refine E_load rfl rfl rfl ?_
            refine E_load rfl rfl rfl ?_
            refine E_getf (c := 2) (v := (0, (pNum g ((k + 1) + 1)).2.2)) rfl (hL.lt 35 rfl) (hL.k 35 rfl) rfl (fv (hm0_9 hb)) ?_
            refine E_V3 (q := 39) (c := 8) (y := 59) rfl rfl (hL.lt 39 rfl) (hL.k 39 rfl) rfl rfl rfl rfl (c_padd hL hC_9 hP_9 (by omega)) (fun r h2 hq => ?_)
            obtain ⟨rfl, c_10, hh, hP_10, hE0_10⟩ := hq
            subst hh
            have hE_10 : EqP FrQ c_9 c_10 := hE0_10.mono (fun a k e => by unfold FrQ; omega)
            have hC_10 : Cc c_10 := hC_9.fq hE_10
            have hT_10 : TapeS c_10 g n := hT_9.fq hE_10
            have hk_10 : c_10 35 3 = (((pNum g ((k + 1) + 1)).2.1 : Nat) : Int) := (hE0_10 35 3 (by omega)).trans hk_9
            refine E_if0 rfl (by omega) (fun q10 => ?_) (fun q10 => ?_)
            · exfalso; omega
            · refine E_const rfl ?_
              refine E_goto rfl ?_
              refine E_iret rfl (fun _ => by decide) ?_
              have hpt : pTest g k = (true, (pNum g (k + 1 + 1)).2.1, [(g k, g (k + 1), (pNum g (k + 1 + 1)).2.2)]) := (if_neg (fun z => z h1)).trans ((if_neg (fun z => z h2)).trans (if_pos hb))
              rw [hpt]
              exact KdQ.yes ⟨hC_10, hT_10, hk_10⟩ hP_10 (hE_1.trans (hE_8.trans (hE_9.trans hE_10)))
        · refine E_const rfl ?_
          refine E_iret rfl (fun _ => by decide) ?_
          have hpt : pTest g k = (false, k + 1, []) := (if_neg (fun z => z h1)).trans (if_pos (fun z => by rcases z with z | z | z <;> omega))
          rw [hpt]
          exact KdQ.no ⟨hC_1, hT_1, hk_1⟩ hE_1
  · replace q1 := bI_z q1
    refine E_const rfl ?_
    refine E_iret rfl (fun _ => by decide) ?_
    have hpt : pTest g k = (false, k, []) := if_pos (by assumption)
    rw [hpt]
    exact KdQ.no ⟨hC, hT, hk⟩ EqP.nil
