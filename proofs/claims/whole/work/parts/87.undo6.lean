def rsP (a k : Nat) : Prop := (a = 2 ∨ a = 5 ∨ a = 11 ∨ a = 14 ∨ a = 17 ∨ a = 30 ∨ a = 33) ∨ (k = 3 ∧ (a = 1 ∨ a = 4 ∨ a = 10 ∨ a = 13 ∨ a = 16 ∨ a = 29 ∨ a = 32))
theorem Cc.rs {c c2 : Nat → Nat → Int} (hC : Cc c) (hE : EqP rsP c c2) : Cc c2 := hC.of fun e he => hE _ _ (by
  have : ∀ e ∈ CT, (e.1 ≠ 2 ∧ e.1 ≠ 5 ∧ e.1 ≠ 11 ∧ e.1 ≠ 14 ∧ e.1 ≠ 17 ∧ e.1 ≠ 30 ∧ e.1 ≠ 33) ∧ (e.1 = 0 ∨ e.2.1 ≠ 3) := by decide
  have := this e he
  unfold rsP
  omega)
theorem TapeR.cp {n n2 : Int} {f f2 s : Nat → Int} (h : TapeR n f s) (e : n2 = n) (e2 : ∀ j, j < 100 → f2 j = f j) (hl : s 34 ≤ 100) : TapeR n2 f2 s := ⟨e.trans h.1, fun k hk => (e2 _ (by omega)).trans (h.2 k hk)⟩
theorem MoodR.cp {n n2 : Int} {f f2 s : Nat → Int} (h : MoodR n f s) (e : n2 = n) (e2 : ∀ j, j < 4 → f2 j = f j) (hl : s 36 ≤ 4) : MoodR n2 f2 s := ⟨e.trans h.1, fun k hk => (e2 _ (by omega)).trans (h.2 k hk)⟩
theorem SeenR.cp {n n2 : Int} {f f2 s : Nat → Int} (h : SeenR n f s) (e : n2 = n) (e2 : ∀ j, j < 15 → f2 j = f j) (hl : s 31 ≤ 5) : SeenR n2 f2 s := ⟨e.trans h.1, fun k hk => ⟨(e2 _ (by omega)).trans (h.2 k hk).1, (e2 _ (by omega)).trans (h.2 k hk).2.1, (e2 _ (by omega)).trans (h.2 k hk).2.2⟩⟩
theorem EveR.cp {n n2 : Int} {f f2 s : Nat → Int} (h : EveR n f s) (e : n2 = n) (e2 : ∀ j, j < 24 → f2 j = f j) (hl : s 32 ≤ 8) : EveR n2 f2 s := ⟨e.trans h.1, fun k hk => ⟨(e2 _ (by omega)).trans (h.2 k hk).1, (e2 _ (by omega)).trans (h.2 k hk).2.1, (e2 _ (by omega)).trans (h.2 k hk).2.2⟩⟩
theorem BookR.cp {n n2 : Int} {f f2 s : Nat → Int} (h : BookR n f s) (e : n2 = n) (e2 : ∀ j, j < 16 → f2 j = f j) (hl : s 33 ≤ 8) : BookR n2 f2 s := ⟨e.trans h.1, fun k hk => ⟨(e2 _ (by omega)).trans (h.2 k hk).1, (e2 _ (by omega)).trans (h.2 k hk).2⟩⟩
set_option maxHeartbeats 4000000 in
set_option maxRecDepth 100000 in
theorem C_undo {d : Nat} {h : Hp} {c : Nat → Nat → Int} {B : Nat → Nat} {s im : Nat → Int} {hi : Int} {L : List Int} (hL : Lay h) (hR : RepC h c B s im hi L) (hS : Inv s) (h01 : hi = 0 ∨ hi = 1) (hA : hi = 1 → Inv im) : Ok (d + 5) 109 [(1, ((0 : Nat) : Int))] (wC h c) (fun r h2 => r = some (0, if hi = 0 then -3 else im 29) ∧ ∃ c2, h2 = wC h c2 ∧ RepC h c2 B (if hi = 0 then s else unS s im) im hi L ∧ EqP FrC c c2) := by
  show Ex _ none t_X10_undo 0 0 _ [] (wC h c) _
  refine E_load rfl rfl rfl ?_
  rcases h01 with rfl | rfl
  · refine E_getf (c := 11) (v := (0, -1)) rfl (hL.lt 0 rfl) (hL.k 0 rfl) rfl (fv (hR.none rfl)) ?_
    refine E_if3 rfl (by omega) (fun q1 => ?_) (fun q1 => ?_)
    · exfalso; omega
    · refine E_const rfl ?_
      refine E_iret rfl (fun h => absurd h (by decide)) ?_
      exact ⟨rfl, c, rfl, hR, EqP.nil⟩
  have hA := hA rfl
  have n29 := hS.2.2.1.1.1
  have hAA := hA
  obtain ⟨hI, hH, ⟨⟨m29, m30, m31, m32, m33, m34, m36⟩, nM⟩, hX⟩ := hAA
  have hK := hR.kept rfl
  have k8 := hK.2.2.2.2.2.2.2.1
  refine E_getf (c := 11) (v := (0, im 29)) rfl (hL.lt 0 rfl) (hL.k 0 rfl) rfl (fv hK.1.1) ?_
  refine E_if3 rfl (by omega) (fun q1 => ?_) (fun q1 => ?_)
  · skip
    refine E_load rfl rfl rfl ?_
    refine E_getr (c := 11) (r := 1) rfl (hL.lt 0 rfl) (hL.k 0 rfl) rfl (hR.C.g 0 0 1 (by decide)) ?_
    refine E_V0 (q := 1) (c := 8) (y := 65) rfl rfl (hL.lt 1 rfl) (hL.k 1 rfl) rfl rfl rfl rfl (s_restore (sh1 hL hR.C) (by decide) (by decide)) (fun r h2 hq => ?_)
    obtain ⟨rfl, c_1, hh, k_1, j_1, e_1⟩ := hq
    subst hh
    have hC_1 : Cc c_1 := hR.C.rs (e_1.mono fun a k e => by unfold rsP; omega)
    refine E_load rfl rfl rfl ?_
    refine E_getr (c := 11) (r := 4) rfl (hL.lt 0 rfl) (hL.k 0 rfl) rfl (hC_1.g 0 1 4 (by decide)) ?_
    refine E_V0 (q := 4) (c := 8) (y := 65) rfl rfl (hL.lt 4 rfl) (hL.k 4 rfl) rfl rfl rfl rfl (s_restore (sh4 hL hC_1) (by decide) (by decide)) (fun r h2 hq => ?_)
    obtain ⟨rfl, c_2, hh, k_2, j_2, e_2⟩ := hq
    subst hh
    have hC_2 : Cc c_2 := hC_1.rs (e_2.mono fun a k e => by unfold rsP; omega)
    refine E_load rfl rfl rfl ?_
    refine E_getr (c := 11) (r := 10) rfl (hL.lt 0 rfl) (hL.k 0 rfl) rfl (hC_2.g 0 3 10 (by decide)) ?_
    refine E_V0 (q := 10) (c := 8) (y := 65) rfl rfl (hL.lt 10 rfl) (hL.k 10 rfl) rfl rfl rfl rfl (s_restore (sh10 hL hC_2) (by decide) (by decide)) (fun r h2 hq => ?_)
    obtain ⟨rfl, c_3, hh, k_3, j_3, e_3⟩ := hq
    subst hh
    have hC_3 : Cc c_3 := hC_2.rs (e_3.mono fun a k e => by unfold rsP; omega)
    refine E_load rfl rfl rfl ?_
    refine E_getr (c := 11) (r := 13) rfl (hL.lt 0 rfl) (hL.k 0 rfl) rfl (hC_3.g 0 4 13 (by decide)) ?_
    refine E_V0 (q := 13) (c := 8) (y := 65) rfl rfl (hL.lt 13 rfl) (hL.k 13 rfl) rfl rfl rfl rfl (s_restore (sh13 hL hC_3) (by decide) (by decide)) (fun r h2 hq => ?_)
    obtain ⟨rfl, c_4, hh, k_4, j_4, e_4⟩ := hq
    subst hh
    have hC_4 : Cc c_4 := hC_3.rs (e_4.mono fun a k e => by unfold rsP; omega)
    refine E_load rfl rfl rfl ?_
    refine E_getr (c := 11) (r := 16) rfl (hL.lt 0 rfl) (hL.k 0 rfl) rfl (hC_4.g 0 5 16 (by decide)) ?_
    refine E_V0 (q := 16) (c := 8) (y := 65) rfl rfl (hL.lt 16 rfl) (hL.k 16 rfl) rfl rfl rfl rfl (s_restore (sh16 hL hC_4) (by decide) (by decide)) (fun r h2 hq => ?_)
    obtain ⟨rfl, c_5, hh, k_5, j_5, e_5⟩ := hq
    subst hh
    have hC_5 : Cc c_5 := hC_4.rs (e_5.mono fun a k e => by unfold rsP; omega)
    refine E_load rfl rfl rfl ?_
    refine E_getr (c := 11) (r := 28) rfl (hL.lt 0 rfl) (hL.k 0 rfl) rfl (hC_5.g 0 9 28 (by decide)) ?_
    have row5 : ∀ a, (a = 29 ∨ a = 31 ∨ a = 32 ∨ a = 34) → ∀ k, c_5 a k = c a k := fun a ha k => (e_5 a k (by omega)).trans ((e_4 a k (by omega)).trans ((e_3 a k (by omega)).trans ((e_2 a k (by omega)).trans (e_1 a k (by omega)))))
    have hH5 : HeldR (c_5 29 4) (c_5 31) (c_5 32 4) (c_5 34) im := by
      obtain ⟨l, l1, l2⟩ := hK.2.2.2.2.2.2.1
      exact ⟨l, l1.of (row5 29 (by omega) 4) (row5 32 (by omega) 4) (fun j _ => row5 31 (by omega) j) (fun j _ => row5 34 (by omega) j), l2⟩
    refine E_V0 (q := 28) (c := 2) (y := 22) rfl rfl (hL.lt 28 rfl) (hL.k 28 rfl) rfl rfl rfl rfl (c_hrest hL hC_5 hH5) (fun r h2 hq => ?_)
    obtain ⟨rfl, c_6, hh, k_6, e_6⟩ := hq
    subst hh
    have hC_6 : Cc c_6 := hC_5.rs (e_6.mono fun a k e => by unfold rsP; omega)
    have fe : EqP rsP c c_6 := (e_1.mono fun a k e => by unfold rsP; omega).trans ((e_2.mono fun a k e => by unfold rsP; omega).trans ((e_3.mono fun a k e => by unfold rsP; omega).trans ((e_4.mono fun a k e => by unfold rsP; omega).trans ((e_5.mono fun a k e => by unfold rsP; omega).trans (e_6.mono fun a k e => by unfold rsP; omega)))))
    have t_1 : TapeR (c_6 1 3) (c_6 2) im := hK.2.1.cp ((((((e_6 1 3 (by omega)).trans (e_5 1 3 (by omega))).trans (e_4 1 3 (by omega))).trans (e_3 1 3 (by omega))).trans (e_2 1 3 (by omega))).trans (k_1)) (fun j hj => (((((e_6 2 j (by omega)).trans (e_5 2 j (by omega))).trans (e_4 2 j (by omega))).trans (e_3 2 j (by omega))).trans (e_2 2 j (by omega))).trans ((j_1 j hj))) (by omega)
    have t_2 : MoodR (c_6 4 3) (c_6 5) im := hK.2.2.1.cp (((((e_6 4 3 (by omega)).trans (e_5 4 3 (by omega))).trans (e_4 4 3 (by omega))).trans (e_3 4 3 (by omega))).trans (k_2.trans (e_1 4 4 (by omega)))) (fun j hj => ((((e_6 5 j (by omega)).trans (e_5 5 j (by omega))).trans (e_4 5 j (by omega))).trans (e_3 5 j (by omega))).trans ((j_2 j hj).trans (e_1 6 j (by omega)))) (by omega)
    have t_3 : SeenR (c_6 10 3) (c_6 11) im := hK.2.2.2.1.cp ((((e_6 10 3 (by omega)).trans (e_5 10 3 (by omega))).trans (e_4 10 3 (by omega))).trans (k_3.trans ((e_2 10 4 (by omega)).trans (e_1 10 4 (by omega))))) (fun j hj => (((e_6 11 j (by omega)).trans (e_5 11 j (by omega))).trans (e_4 11 j (by omega))).trans ((j_3 j hj).trans ((e_2 12 j (by omega)).trans (e_1 12 j (by omega))))) (by omega)
    have t_4 : EveR (c_6 13 3) (c_6 14) im := hK.2.2.2.2.1.cp (((e_6 13 3 (by omega)).trans (e_5 13 3 (by omega))).trans (k_4.trans (((e_3 13 4 (by omega)).trans (e_2 13 4 (by omega))).trans (e_1 13 4 (by omega))))) (fun j hj => ((e_6 14 j (by omega)).trans (e_5 14 j (by omega))).trans ((j_4 j hj).trans (((e_3 15 j (by omega)).trans (e_2 15 j (by omega))).trans (e_1 15 j (by omega))))) (by omega)
    have t_5 : BookR (c_6 16 3) (c_6 17) im := hK.2.2.2.2.2.1.cp ((e_6 16 3 (by omega)).trans (k_5.trans ((((e_4 16 4 (by omega)).trans (e_3 16 4 (by omega))).trans (e_2 16 4 (by omega))).trans (e_1 16 4 (by omega))))) (fun j hj => (e_6 17 j (by omega)).trans ((j_5 j hj).trans ((((e_4 18 j (by omega)).trans (e_3 18 j (by omega))).trans (e_2 18 j (by omega))).trans (e_1 18 j (by omega))))) (by omega)
    have lo : ∀ a k, a < 55 → ¬ rsP a k → c_6 a k = c a k := fun a k _ e => fe a k e
    have row : ∀ a, (a = 3 ∨ a = 6 ∨ a = 12 ∨ a = 15 ∨ a = 18 ∨ a = 19 ∨ a = 20 ∨ a = 31 ∨ a = 34) → (∀ k, (a ≠ 19 ∨ k = 3) → c_6 a k = c a k) := fun a h1 k h2 => fe a k (by unfold rsP; omega)
    have up : ∀ a k, 55 ≤ a → c_6 a k = c a k := fun a k h1 => fe a k (by unfold rsP; omega)
    have hU : UnR h c_6 B s im L (s 29).toNat 0 := by
      refine ⟨hC_6, ⟨?_, ?_, ?_, ?_, ?_, ?_, ?_, k8, fun b hb => ?_⟩, ⟨t_1, t_2, t_3, t_4, t_5, k_6⟩, ?_, hR.list.ofE (fe 42 1 (by unfold rsP; omega)) (fe 42 2 (by unfold rsP; omega)) (fun E e1 e2 e3 k => up E k e1.1), fun b hb => ?_, hR.dis, fun b hb => absurd hb (Nat.not_lt_zero b)⟩
      · rw [fe 0 14 (by unfold rsP; omega), fe 0 15 (by unfold rsP; omega), fe 0 16 (by unfold rsP; omega)]; exact hK.1
      · exact hK.2.1.cp (fe 1 4 (by unfold rsP; omega)) (fun j hj => row 3 (by omega) j (by omega)) (by omega)
      · exact hK.2.2.1.cp (fe 4 4 (by unfold rsP; omega)) (fun j hj => row 6 (by omega) j (by omega)) (by omega)
      · exact hK.2.2.2.1.cp (fe 10 4 (by unfold rsP; omega)) (fun j hj => row 12 (by omega) j (by omega)) (by omega)
      · exact hK.2.2.2.2.1.cp (fe 13 4 (by unfold rsP; omega)) (fun j hj => row 15 (by omega) j (by omega)) (by omega)
      · exact hK.2.2.2.2.2.1.cp (fe 16 4 (by unfold rsP; omega)) (fun j hj => row 18 (by omega) j (by omega)) (by omega)
      · obtain ⟨l, l1, l2⟩ := hK.2.2.2.2.2.2.1
        exact ⟨l, l1.of (fe 29 4 (by unfold rsP; omega)) (fe 32 4 (by unfold rsP; omega)) (fun j _ => row 31 (by omega) j (by omega)) (fun j _ => row 34 (by omega) j (by omega)), l2⟩
      · obtain ⟨g1, g2⟩ := hK.2.2.2.2.2.2.2.2 b hb
        have h5 := (hR.bot b (by omega)).2.2
        exact ⟨g1.ofE (fun k => up _ k (by omega)) (fun k => up _ k (by omega)), g2⟩
      · obtain ⟨g1, g2⟩ := hR.bod
        exact ⟨(row 19 (by omega) 3 (by omega)).trans g1, fun j hj => (row 20 (by omega) j (by omega)).trans (g2 j hj)⟩
      · obtain ⟨b1, b2, b3⟩ := hR.bot b (by omega)
        exact ⟨b1.ofE (fun k => up _ k (by omega)) (up _ 0 (by omega)) (up _ 0 (by omega)) (up _ 0 (by omega)), b3⟩
    refine E_load rfl rfl rfl ?_
    refine E_getr (c := 11) (r := 42) rfl (hL.lt 0 rfl) (hL.k 0 rfl) rfl (hC_6.g 0 11 42 (by decide)) ?_
    refine E_V0 (q := 42) (c := 0) (y := 3) rfl rfl (hL.lt 42 rfl) (hL.k 42 rfl) rfl rfl rfl rfl (j_size hL hU.2.2.2.2.1) (fun r h2 hq => ?_)
    obtain ⟨rfl, hh⟩ := hq
    subst hh
    refine E_const rfl ?_
    refine E_sub rfl ?_
    refine E_store rfl rfl rfl ?_
    refine (Cl_unrem hL hA n29 ((s 29).toNat - (im 29).toNat) _ (by omega) (by omega) c_6 _ rfl hU).mono ?_
    rintro r hE ⟨q1, c9, q2, q4, q3⟩
    exact ⟨q1, c9, q2, q4, EqP.trans (fe.mono fun a k e => by unfold rsP at e; unfold FrC; omega) q3⟩
  · exfalso; omega
