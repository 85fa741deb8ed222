theorem l_pairB {d : Nat} {h : Hp} {c : Nat → Nat → Int} {s : Nat → Int} (hL : Lay h) (hM : Mc c) (hs : c 44 = s) (hG : InvG s) {f49 : Nat → Int} (h49c : c 49 = f49) (hsay : SAY s f49) {a : Nat} (ha6 : (a : Int) < s 29) {st : Int × Int} {Q : Option AV → Hp → Prop}
    (K : ∀ (a1 a2 : Int) (v4 v5 v6 : AV), (a1, a2) = prB s a st ((s 29).toNat - (a + 1)) → Ex (d + 2) none t_X11_pair 0 11 [(1, ((43 : Nat) : Int)), (0, a1), (0, a2), (0, ((a + 1 : Nat) : Int)), v4, v5, v6] [] (wC h c) Q) :
    ∀ (n i : Nat), i + n = (s 29).toNat - (a + 1) → ∀ (a1 a2 : Int) (v5 v6 : AV), (a1, a2) = prB s a st i ∧ (inR a1 ∧ inR a2) → Ex (d + 2) none t_X11_pair 0 27 [(1, ((43 : Nat) : Int)), (0, a1), (0, a2), (0, (a : Int)), (0, ((a + 1 + i : Nat) : Int)), v5, v6] [] (wC h c) Q := by
  have hGG := hG
  obtain ⟨hI, hH, ⟨n29, n30, n31, n32, n33, n34, n36⟩, nM⟩ := hG
  intro n
  induction n with
  | zero =>
    intro i hi a1 a2 v5 v6 hp
    refine E_load rfl rfl rfl ?_
    refine E_load rfl rfl rfl ?_
    refine E_getr (c := 12) (r := 44) rfl (hL.lt 43 rfl) (hL.k 43 rfl) rfl hM.c1 ?_
    refine E_const rfl ?_
    refine E_ialn (n := 943) (v := (s 29)) rfl (hL.lt 44 rfl) (hL.k 44 rfl) (hL.l 44 rfl) (by omega) (rdS hs (by omega)) ?_
    refine E_cmp3 rfl (by omega) (fun q1 => ?_) (fun q1 => ?_)
    · refine E_iinc rfl rfl rfl ?_
      refine E_goto rfl ?_
      exact K _ _ _ _ _ (by rw [← show i = (s 29).toNat - (a + 1) by omega]; exact hp.1)
    · exfalso; omega
  | succ n ih =>
    intro i hi a1 a2 v5 v6 hp
    have y1 := hGG.bs (b := a) (by omega)
    have y2 := hGG.bs (b := a + 1 + i) (by omega)
    have z1 := (hI a (by omega)).2.2.2.1
    have z2 := (hI (a + 1 + i) (by omega)).2.2.2.1
    have hsz : -1000 ≤ szI (syS s a + syS s (a + 1 + i)) ∧ szI (syS s a + syS s (a + 1 + i)) ≤ 1000 := by unfold szI; split <;> omega
    have hst : prB s a st i = (a1, a2) := hp.1.symm
    refine E_load rfl rfl rfl ?_
    refine E_load rfl rfl rfl ?_
    refine E_getr (c := 12) (r := 44) rfl (hL.lt 43 rfl) (hL.k 43 rfl) rfl hM.c1 ?_
    refine E_const rfl ?_
    refine E_ialn (n := 943) (v := (s 29)) rfl (hL.lt 44 rfl) (hL.k 44 rfl) (hL.l 44 rfl) (by omega) (rdS hs (by omega)) ?_
    refine E_cmp3 rfl (by omega) (fun q1 => ?_) (fun q1 => ?_)
    · exfalso; omega
    · refine E_load rfl rfl rfl ?_
      refine E_getr (c := 12) (r := 49) rfl (hL.lt 43 rfl) (hL.k 43 rfl) rfl hM.c12 ?_
      refine E_load rfl rfl rfl ?_
      refine E_ialn (n := 6) (v := (syS s a)) rfl (hL.lt 49 rfl) (hL.k 49 rfl) (hL.l 49 rfl) (by omega) ((rdS h49c (by omega)).trans (hsay a (by omega))) ?_
      refine E_load rfl rfl rfl ?_
      refine E_getr (c := 12) (r := 49) rfl (hL.lt 43 rfl) (hL.k 43 rfl) rfl hM.c12 ?_
      refine E_load rfl rfl rfl ?_
      refine E_ialn (n := 6) (v := (syS s (a + 1 + i))) rfl (hL.lt 49 rfl) (hL.k 49 rfl) (hL.l 49 rfl) (by omega) ((rdS h49c (by omega)).trans (hsay (a + 1 + i) (by omega))) ?_
      refine E_add rfl ?_
      refine E_S1 (y := 141) rfl rfl rfl rfl rfl (m_size (by omega)) (fun r h2 hq => ?_)
      obtain ⟨rfl, hh⟩ := hq
      subst hh
      refine E_store rfl rfl rfl ?_
      refine E_load rfl rfl rfl ?_
      refine E_getr (c := 12) (r := 44) rfl (hL.lt 43 rfl) (hL.k 43 rfl) rfl hM.c1 ?_
      refine E_const rfl ?_
      refine E_load rfl rfl rfl ?_
      refine E_add rfl ?_
      refine E_ialn (n := 943) (v := (s ((19 + a)))) rfl (hL.lt 44 rfl) (hL.k 44 rfl) (hL.l 44 rfl) (by omega) (rdS hs (by omega)) ?_
      refine E_load rfl rfl rfl ?_
      refine E_getr (c := 12) (r := 44) rfl (hL.lt 43 rfl) (hL.k 43 rfl) rfl hM.c1 ?_
      refine E_const rfl ?_
      refine E_load rfl rfl rfl ?_
      refine E_add rfl ?_
      refine E_ialn (n := 943) (v := (s ((19 + (a + 1 + i))))) rfl (hL.lt 44 rfl) (hL.k 44 rfl) (hL.l 44 rfl) (by omega) (rdS hs (by omega)) ?_
      refine E_add rfl ?_
      refine E_if1 rfl (by omega) (fun q2 => ?_) (fun q2 => ?_)
      · refine E_const rfl ?_
        refine E_store rfl rfl rfl ?_
        refine E_load rfl rfl rfl ?_
        refine E_if0 rfl (by omega) (fun q3 => ?_) (fun q3 => ?_)
        · refine E_load rfl rfl rfl ?_
          refine E_store rfl rfl rfl ?_
          refine E_load rfl rfl rfl ?_
          refine E_if0 rfl (by omega) (fun q4 => ?_) (fun q4 => ?_)
          · refine E_load rfl rfl rfl ?_
            refine E_store rfl rfl rfl ?_
            refine E_iinc rfl rfl rfl ?_
            refine E_goto rfl ?_
            exact ih (i + 1) (by omega) _ _ _ _ ⟨by rw [prB, hst, prC, if_neg (fun w1 => by omega)], hp.2⟩
          · exfalso; omega
        · exfalso; omega
      · refine E_load rfl rfl rfl ?_
        refine E_const rfl ?_
        refine E_cmp0 rfl (by omega) (fun q5 => ?_) (fun q5 => ?_)
        · refine E_const rfl ?_
          refine E_goto rfl ?_
          refine E_store rfl rfl rfl ?_
          refine E_load rfl rfl rfl ?_
          refine E_if0 rfl (by omega) (fun q6 => ?_) (fun q6 => ?_)
          · exfalso; omega
          · refine E_const rfl ?_
            refine E_load rfl rfl rfl ?_
            refine E_mul rfl ?_
            refine E_load rfl rfl rfl ?_
            refine E_add rfl ?_
            refine E_goto rfl ?_
            refine E_store rfl rfl rfl ?_
            refine E_load rfl rfl rfl ?_
            refine E_if0 rfl (by omega) (fun q7 => ?_) (fun q7 => ?_)
            · exfalso; omega
            · refine E_load rfl rfl rfl ?_
              refine E_goto rfl ?_
              refine E_store rfl rfl rfl ?_
              refine E_iinc rfl rfl rfl ?_
              refine E_goto rfl ?_
              exact ih (i + 1) (by omega) _ _ _ _ ⟨by rw [prB, hst, prC, if_pos ⟨by omega, Or.inl (by assumption)⟩], by omega, by omega⟩
        · refine E_load rfl rfl rfl ?_
          refine E_load rfl rfl rfl ?_
          refine E_cmp3 rfl (by omega) (fun q8 => ?_) (fun q8 => ?_)
          · refine E_const rfl ?_
            refine E_store rfl rfl rfl ?_
            refine E_load rfl rfl rfl ?_
            refine E_if0 rfl (by omega) (fun q9 => ?_) (fun q9 => ?_)
            · refine E_load rfl rfl rfl ?_
              refine E_store rfl rfl rfl ?_
              refine E_load rfl rfl rfl ?_
              refine E_if0 rfl (by omega) (fun q10 => ?_) (fun q10 => ?_)
              · refine E_load rfl rfl rfl ?_
                refine E_store rfl rfl rfl ?_
                refine E_iinc rfl rfl rfl ?_
                refine E_goto rfl ?_
                exact ih (i + 1) (by omega) _ _ _ _ ⟨by rw [prB, hst, prC, if_neg (fun w1 => by have w2 : a1 = -5 ∨ szI (syS s a + syS s (a + 1 + i)) < a2 := w1.2; omega)], hp.2⟩
              · exfalso; omega
            · exfalso; omega
          · refine E_const rfl ?_
            refine E_goto rfl ?_
            refine E_store rfl rfl rfl ?_
            refine E_load rfl rfl rfl ?_
            refine E_if0 rfl (by omega) (fun q11 => ?_) (fun q11 => ?_)
            · exfalso; omega
            · refine E_const rfl ?_
              refine E_load rfl rfl rfl ?_
              refine E_mul rfl ?_
              refine E_load rfl rfl rfl ?_
              refine E_add rfl ?_
              refine E_goto rfl ?_
              refine E_store rfl rfl rfl ?_
              refine E_load rfl rfl rfl ?_
              refine E_if0 rfl (by omega) (fun q12 => ?_) (fun q12 => ?_)
              · exfalso; omega
              · refine E_load rfl rfl rfl ?_
                refine E_goto rfl ?_
                refine E_store rfl rfl rfl ?_
                refine E_iinc rfl rfl rfl ?_
                refine E_goto rfl ?_
                exact ih (i + 1) (by omega) _ _ _ _ ⟨by rw [prB, hst, prC, if_pos ⟨by omega, Or.inr (by assumption)⟩], by omega, by omega⟩
theorem prA_in {s : Nat → Int} (hG : InvG s) : ∀ n : Nat, n ≤ (s 29).toNat → -1000 ≤ (prA s n).1 ∧ (prA s n).1 ≤ 1000 ∧ -1000 ≤ (prA s n).2 ∧ (prA s n).2 ≤ 1000 := by
  have n29 := hG.2.2.1.1
  intro n
  induction n with
  | zero => intro _; show -1000 ≤ (-5 : Int) ∧ (-5 : Int) ≤ 1000 ∧ -1000 ≤ (0 : Int) ∧ (0 : Int) ≤ 1000; decide
  | succ n ih =>
    intro hn
    have h0 := ih (by omega)
    have hB : ∀ m : Nat, m ≤ (s 29).toNat - (n + 1) → -1000 ≤ (prB s n (prA s n) m).1 ∧ (prB s n (prA s n) m).1 ≤ 1000 ∧ -1000 ≤ (prB s n (prA s n) m).2 ∧ (prB s n (prA s n) m).2 ≤ 1000 := by
      intro m
      induction m with
      | zero => intro _; exact h0
      | succ m ihm =>
        intro hm
        have h1 := ihm (by omega)
        rw [prB]
        unfold prC
        have y1 := hG.bs (b := n) (by omega)
        have y2 := hG.bs (b := n + 1 + m) (by omega)
        have hsz : -1000 ≤ szI (syS s n + syS s (n + 1 + m)) ∧ szI (syS s n + syS s (n + 1 + m)) ≤ 1000 := by unfold szI; split <;> omega
        split
        · refine ⟨?_, ?_, hsz.1, hsz.2⟩ <;> simp only <;> omega
        · exact h1
    exact hB _ (Nat.le_refl _)
set_option maxHeartbeats 4000000 in
set_option maxRecDepth 100000 in
theorem l_pairA {d : Nat} {h : Hp} {s : Nat → Int} (hL : Lay h) (hGG : InvG s) {f49 : Nat → Int} (hsay : SAY s f49) : ∀ (n i : Nat), i + n = (s 29).toNat → ∀ (a1 a2 : Int) (v4 v5 v6 : AV), (a1, a2) = prA s i → ∀ c, Mc c → c 44 = s → c 49 = f49 → Ex (d + 2) none t_X11_pair 0 11 [(1, ((43 : Nat) : Int)), (0, a1), (0, a2), (0, (i : Int)), v4, v5, v6] [] (wC h c) (fun r h2 => r = some (0, (prA s (s 29).toNat).1) ∧ h2 = wC h c) := by
  intro n
  induction n with
  | zero =>
    intro i hi a1 a2 v4 v5 v6 ha c hM hs h49c
    have n29 := hGG.2.2.1.1
    refine E_load rfl rfl rfl ?_
    refine E_load rfl rfl rfl ?_
    refine E_getr (c := 12) (r := 44) rfl (hL.lt 43 rfl) (hL.k 43 rfl) rfl hM.c1 ?_
    refine E_const rfl ?_
    refine E_ialn (n := 943) (v := (s 29)) rfl (hL.lt 44 rfl) (hL.k 44 rfl) (hL.l 44 rfl) (by omega) (rdS hs (by omega)) ?_
    refine E_cmp3 rfl (by omega) (fun q1 => ?_) (fun q1 => ?_)
    · refine E_load rfl rfl rfl ?_
      refine E_iret rfl (fun h => absurd h (by decide)) ?_
      exact ⟨by rw [show (s 29).toNat = i by omega, ← ha], rfl⟩
    · exfalso; omega
  | succ n ih =>
    intro i hi a1 a2 v4 v5 v6 ha c hM hs h49c
    have n29 := hGG.2.2.1.1
    refine E_load rfl rfl rfl ?_
    refine E_load rfl rfl rfl ?_
    refine E_getr (c := 12) (r := 44) rfl (hL.lt 43 rfl) (hL.k 43 rfl) rfl hM.c1 ?_
    refine E_const rfl ?_
    refine E_ialn (n := 943) (v := (s 29)) rfl (hL.lt 44 rfl) (hL.k 44 rfl) (hL.l 44 rfl) (by omega) (rdS hs (by omega)) ?_
    refine E_cmp3 rfl (by omega) (fun q1 => ?_) (fun q1 => ?_)
    · exfalso; omega
    · refine E_load rfl rfl rfl ?_
      refine E_const rfl ?_
      refine E_add rfl ?_
      refine E_store rfl rfl rfl ?_
      exact l_pairB hL hM hs hGG h49c hsay (a := i) (by omega) (st := prA s i) (fun a1 a2 v4 v5 v6 e => ih (i + 1) (by omega) a1 a2 v4 v5 v6 e c hM hs h49c) _ 0 (Nat.zero_add _) a1 a2 v5 v6 ⟨ha, by have := prA_in hGG i (by omega); rw [← ha] at this; simp only at this; exact ⟨by omega, by omega⟩⟩
set_option maxHeartbeats 4000000 in
set_option maxRecDepth 100000 in
theorem n_pair {d : Nat} {h : Hp} {c : Nat → Nat → Int} {s : Nat → Int} (hL : Lay h) (hM : Mc c) (hs : c 44 = s) (hA : Inv s) : Ok (d + 6) 195 [(1, ((43 : Nat) : Int))] (wC h c) (fun r h2 => r = some (0, a_pair s) ∧ ∃ c2, h2 = wC h c2 ∧ Eqk PQ c c2) := by
  show Ex _ none t_X11_pair 0 0 _ [] (wC h c) _
  have hAA := hA
  have hG := hA.G
  obtain ⟨hI, hH, ⟨⟨n29, n30, n31, n32, n33, n34, n36⟩, nM⟩, hX⟩ := hA
  refine E_load rfl rfl rfl ?_
  refine E_V0 (q := 43) (c := 12) (y := 189) rfl rfl (hL.lt 43 rfl) (hL.k 43 rfl) rfl rfl rfl rfl (n_lookS hL hM hs hG) (fun r h2 hq => ?_)
  obtain ⟨rfl, c_1, hh, h49_1, hE0_1⟩ := hq
  subst hh
  have hE_1 : Eqk PQ c c_1 := hE0_1.mono P49_PQ
  have hM_1 : Mc c_1 := hM.of (hE0_1.row 43 (fun _ => rfl))
  have hs_1 : c_1 44 = s := (hE0_1.row 44 (fun _ => rfl)).trans hs
  obtain ⟨f49, hr49_1⟩ : ∃ f, c_1 49 = f := ⟨_, rfl⟩
  have hsay : SAY s f49 := by rw [← hr49_1]; exact h49_1
  refine E_const rfl ?_
  refine E_store rfl rfl rfl ?_
  refine E_const rfl ?_
  refine E_store rfl rfl rfl ?_
  refine E_const rfl ?_
  refine E_store rfl rfl rfl ?_
  refine (l_pairA hL hG hsay _ 0 (Nat.zero_add _) (-5) 0 _ _ _ rfl c_1 hM_1 hs_1 hr49_1).mono ?_
  rintro r hE ⟨rfl, rfl⟩
  exact qryl rfl hE_1
