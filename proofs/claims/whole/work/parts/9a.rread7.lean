/-! CLAUSES, read by the reference -/
def Rh (act : Nat) (s s2 : Nat → Int) : Prop := ∀ k, k ≠ 228 + act → k ≠ 233 + act → k ≠ 238 + act → ¬ (243 + 140 * act ≤ k ∧ k < 383 + 140 * act) → s2 k = s k
theorem Rg.h {act : Nat} {s s2 : Nat → Int} (h : Rg act s s2) : Rh act s s2 := fun k _ _ a b => h k a b
theorem Rh.nil {act : Nat} {s : Nat → Int} : Rh act s s := fun _ _ _ _ _ => rfl
theorem Rh.trans {act : Nat} {s s1 s2 : Nat → Int} (h1 : Rh act s s1) (h2 : Rh act s1 s2) : Rh act s s2 := fun k a b c d => (h2 k a b c d).trans (h1 k a b c d)
theorem TpR.rh {act : Nat} {s s2 g : Nat → Int} {n : Nat} (h : TpR s g n) (hg : Rh act s s2) (hn : n ≤ 100) : TpR s2 g n := fun j hj => (hg _ (by omega) (by omega) (by omega) (by omega)).trans (h j hj)
def CuR (s : Nat → Int) (act : Nat) (l : List CLA) : Prop := StR s act (stepsC l) ∧ s (228 + act) = laC 0 0 l ∧ s (233 + act) = laC 1 5 l
theorem laC_app {w : Int} {x : CLA} : ∀ (l : List CLA) (d : Int), laC w d (l ++ [x]) = if x.1 = w then x.2.1 else laC w d l
  | [], d => rfl
  | y :: l, d => laC_app l _
theorem stepsC_app {l : List CLA} {x : CLA} : stepsC (l ++ [x]) = stepsC l ++ stepC x := by
  unfold stepsC
  rw [List.flatMap_append]
  simp
theorem StR.of {s t : Nat → Int} {act : Nat} {L : List Int} (h : StR s act L) (hl : L.length ≤ 140) (e : ∀ k, k = 238 + act ∨ (243 + 140 * act ≤ k ∧ k < 383 + 140 * act) → t k = s k) : StR t act L := ⟨(e _ (by omega)).trans h.1, fun i hi => (e _ (by omega)).trans (h.2 i hi)⟩
theorem CuR.calm {s : Nat → Int} {act : Nat} {l : List CLA} (h : CuR s act l) (ha : act ≤ 4) (hl : (stepsC l).length ≤ 140) {v : Int} : CuR (upd1 s (228 + act) v) act (l ++ [(0, v, [])]) := by
  obtain ⟨h1, h2, h3⟩ := h
  refine ⟨?_, ?_, ?_⟩
  · rw [stepsC_app, show stepC (0, v, []) = [] from rfl, List.append_nil]
    exact h1.of hl fun k hk => upd1_ne (by omega)
  · rw [laC_app, if_pos rfl, upd1_same]
  · rw [laC_app, if_neg (show ¬ (0 : Int) = 1 by decide), upd1_ne (by omega)]; exact h3
theorem CuR.peace {s : Nat → Int} {act : Nat} {l : List CLA} (h : CuR s act l) (ha : act ≤ 4) (hl : (stepsC l).length ≤ 140) {v : Int} : CuR (upd1 s (233 + act) v) act (l ++ [(1, v, [])]) := by
  obtain ⟨h1, h2, h3⟩ := h
  refine ⟨?_, ?_, ?_⟩
  · rw [stepsC_app, show stepC (1, v, []) = [] from rfl, List.append_nil]
    exact h1.of hl fun k hk => upd1_ne (by omega)
  · rw [laC_app, if_neg (show ¬ (1 : Int) = 0 by decide), upd1_ne (by omega)]; exact h2
  · rw [laC_app, if_pos rfl, upd1_same]
theorem CuR.more {s s2 : Nat → Int} {act : Nat} {l : List CLA} {w v : Int} {p : List PRT} (h : CuR s act l) (ha : act ≤ 4) (hw : w = 2 ∨ w = 3) (hg : Rg act s s2) (hS : StR s2 act (stepsC l ++ p.map encP ++ [if w = 2 then -10 - v else -200 - v])) : CuR s2 act (l ++ [(w, v, p)]) := by
  refine ⟨?_, ?_, ?_⟩
  · rw [stepsC_app, show stepC (w, v, p) = p.map encP ++ [if w = 2 then -10 - v else -200 - v] from if_pos (by show 2 ≤ w; omega), ← List.append_assoc]
    exact hS
  · rw [laC_app, if_neg (by show ¬ w = 0; omega), hg _ (by omega) (by omega)]; exact h.2.1
  · rw [laC_app, if_neg (by show ¬ w = 1; omega), hg _ (by omega) (by omega)]; exact h.2.2
def ClQ (h : Hp) (c : Nat → Nat → Int) (s : Nat → Int) (act n : Nat) (l : List CLA) (q : CR) : Option AV → Hp → Prop := fun r h2 => r = none ∧ ∃ c2 s2, h2 = wC h c2 ∧ RS c2 s2 act n q.2.1 (if q.1 = true then 0 else 1) 0 ∧ Rh act s s2 ∧ (q.1 = true → CuR s2 act (l ++ [q.2.2])) ∧ Eqk PS c c2
theorem ClQ.no {h : Hp} {c c2 : Nat → Nat → Int} {s s2 : Nat → Int} {act n p : Nat} {l : List CLA} {x : CLA} (hR : RS c2 s2 act n p 1 0) (hg : Rh act s s2) (hE : Eqk PS c c2) : ClQ h c s act n l (false, p, x) none (wC h c2) := ⟨rfl, c2, s2, rfl, hR, hg, fun z => absurd (show false = true from z) (by decide), hE⟩
theorem ClQ.yes {h : Hp} {c c2 : Nat → Nat → Int} {s s2 : Nat → Int} {act n p : Nat} {l : List CLA} {x : CLA} (hR : RS c2 s2 act n p 0 0) (hg : Rh act s s2) (hS : CuR s2 act (l ++ [x])) (hE : Eqk PS c c2) : ClQ h c s act n l (true, p, x) none (wC h c2) := ⟨rfl, c2, s2, rfl, hR, hg, fun _ => hS, hE⟩
theorem ClQ.of {h : Hp} {c c1 : Nat → Nat → Int} {s s1 : Nat → Int} {act n : Nat} {l : List CLA} {q : CR} {r : Option AV} {h2 : Hp} (hg : Rh act s s1) (hE : Eqk PS c c1) (k : ClQ h c1 s1 act n l q r h2) : ClQ h c s act n l q r h2 := by
  obtain ⟨e1, c9, s9, e2, e3, e4, e5, e6⟩ := k
  exact ⟨e1, c9, s9, e2, e3, hg.trans e4, e5, hE.trans e6⟩
theorem n_spell0 {d : Nat} {h : Hp} {c : Nat → Nat → Int} {s g : Nat → Int} {act n k : Nat} {o : Int} (hL : Lay h) (hR : RS c s act n k 0 o) (hE : Ends g n) (hT : TpR s g n) (hk : k ≤ n) {kt : Nat} (hkt : kt < 10) {x : Int} (hx : x = -10 - (kt : Int)) {W : List Nat} (hW : txt kt = W) : Ok (d + 2) 152 [(1, ((43 : Nat) : Int)), (1, x)] (wC h c) (fun r h2 => r = none ∧ ∃ c2, h2 = wC h c2 ∧ RS c2 s act n (pSpell g W k).2 (if (pSpell g W k).1 = true then 0 else 1) o ∧ Eqk PS c c2) := by
  subst hx hW
  exact n_spells hL hR hE hT hk hkt (Or.inl rfl)
set_option maxHeartbeats 4000000 in
set_option maxRecDepth 100000 in
theorem n_tell0 {h : Hp} {c : Nat → Nat → Int} {s g : Nat → Int} {act n k D : Nat} {l : List CLA} (hL : Lay h) (hE : Ends g n) (hact : act ≤ 4) (hR : RS c s act n k 0 0) (hT : TpR s g n) (hk : k ≤ n) (hCu : CuR s act l) (hl : (stepsC l).length ≤ k) : Ok (D + 3) 160 [(1, ((43 : Nat) : Int)), (0, 228), (1, -14)] (wC h c) (ClQ h c s act n l (pTell g 0 (pSpell g [99, 97, 108, 109, 32] k))) := by
  show Ex _ none t_X11_tellsHere 0 0 _ [] (wC h c) _
  have hn := hE.1
  have hsp := pSpell_in hE [99, 97, 108, 109, 32] k (by decide) hk
  obtain ⟨hM, hs, f5, f6, f7, f8, f9⟩ := hR
  refine E_load rfl rfl rfl ?_
  refine E_load rfl rfl rfl ?_
  refine E_V1 (q := 43) (c := 12) (y := 152) rfl rfl (hL.lt 43 rfl) (hL.k 43 rfl) rfl rfl rfl rfl (n_spell0 (kt := 4) (W := [99, 97, 108, 109, 32]) hL ⟨hM, hs, f5, f6, f7, f8, f9⟩ hE hT hk (by decide) (by decide) rfl) (fun r h2 hq => ?_)
  obtain ⟨rfl, c_1, hh, hQ_1, hE_1⟩ := hq
  subst hh
  obtain ⟨hM_1, hs_1, hf5_1, hf6_1, hf7_1, hf8_1, hf9_1⟩ := hQ_1
  rcases Bool.eq_false_or_eq_true ((pSpell g [99, 97, 108, 109, 32] k).1) with hb1 | hb1
  · rw [if_pos hb1] at hf8_1
    refine E_load rfl rfl rfl ?_
    refine E_V0 (q := 43) (c := 12) (y := 153) rfl rfl (hL.lt 43 rfl) (hL.k 43 rfl) rfl rfl rfl rfl (n_fig0 (k := (pSpell g [99, 97, 108, 109, 32] k).2) hL ⟨hM_1, hs_1, hf5_1, hf6_1, hf7_1, hf8_1, hf9_1⟩ hE hT (by omega)) (fun r h2 hq => ?_)
    obtain ⟨rfl, c_2, hh, hQ_2, hE_2⟩ := hq
    subst hh
    obtain ⟨hM_2, hs_2, hf5_2, hf6_2, hf7_2, hf8_2, hf9_2⟩ := hQ_2
    refine E_store rfl rfl rfl ?_
    rcases Bool.eq_false_or_eq_true ((pNum g (pSpell g [99, 97, 108, 109, 32] k).2).1) with hb | hb
    · rw [if_pos hb] at hf8_2
      refine E_load rfl rfl rfl ?_
      refine E_getf (c := 12) (v := (0, 0)) rfl (hL.lt 43 rfl) (hL.k 43 rfl) rfl (fv hf8_2) ?_
      refine E_if1 rfl (by omega) (fun z1 => ?_) (fun z1 => ?_)
      · exfalso; omega
      · refine E_load rfl rfl rfl ?_
        refine E_getr (c := 12) (r := 44) rfl (hL.lt 43 rfl) (hL.k 43 rfl) rfl hM_2.c1 ?_
        refine E_load rfl rfl rfl ?_
        refine E_load rfl rfl rfl ?_
        refine E_getf (c := 12) (v := (0, ((act : Nat) : Int))) rfl (hL.lt 43 rfl) (hL.k 43 rfl) rfl (fv hf5_2) ?_
        refine E_add rfl ?_
        refine E_load rfl rfl rfl ?_
        refine E_iasg (n := 943) (j := (228 + act)) rfl (hL.lt 44 rfl) (hL.k 44 rfl) (hL.l 44 rfl) (by omega) (by omega) (fun c_3 hc_3 => ?_)
        have hE_3 : Eqk PS c_2 c_3 := by rw [hc_3]; exact Eqk.up rfl
        have hM_3 : Mc c_3 := by rw [hc_3]; exact hM_2.upo rfl
        have hf5_3 : c_3 43 5 = ((act : Nat) : Int) := by rw [hc_3]; exact (up2_fld rfl).trans hf5_2
        have hf6_3 : c_3 43 6 = (((pNum g (pSpell g [99, 97, 108, 109, 32] k).2).2.1 : Nat) : Int) := by rw [hc_3]; exact (up2_fld rfl).trans hf6_2
        have hf7_3 : c_3 43 7 = ((n : Nat) : Int) := by rw [hc_3]; exact (up2_fld rfl).trans hf7_2
        have hf8_3 : c_3 43 8 = 0 := by rw [hc_3]; exact (up2_fld rfl).trans hf8_2
        have hf9_3 : c_3 43 9 = 0 := by rw [hc_3]; exact (up2_fld rfl).trans hf9_2
        have hs_3 : c_3 44 = upd1 s (228 + act) (pNum g (pSpell g [99, 97, 108, 109, 32] k).2).2.2 := by rw [hc_3]; exact up2_rowS hs_2
        refine E_vret rfl ?_
        rw [show pTell g 0 (pSpell g [99, 97, 108, 109, 32] k) = (true, (pNum g (pSpell g [99, 97, 108, 109, 32] k).2).2.1, (0, (pNum g (pSpell g [99, 97, 108, 109, 32] k).2).2.2, [])) from (if_pos hb1).trans (by rw [hb])]
        exact ClQ.yes ⟨hM_3, hs_3, hf5_3, hf6_3, hf7_3, hf8_3, hf9_3⟩ (fun k a b _ _ => upd1_ne (by omega)) (hCu.calm hact (by omega)) (hE_1.trans (hE_2.trans hE_3))
    · rw [if_neg (by rw [hb]; decide)] at hf8_2
      refine E_load rfl rfl rfl ?_
      refine E_getf (c := 12) (v := (0, 1)) rfl (hL.lt 43 rfl) (hL.k 43 rfl) rfl (fv hf8_2) ?_
      refine E_if1 rfl (by omega) (fun z1 => ?_) (fun z1 => ?_)
      · refine E_vret rfl ?_
        rw [show pTell g 0 (pSpell g [99, 97, 108, 109, 32] k) = (false, (pNum g (pSpell g [99, 97, 108, 109, 32] k).2).2.1, (0, (pNum g (pSpell g [99, 97, 108, 109, 32] k).2).2.2, [])) from (if_pos hb1).trans (by rw [hb])]
        exact ClQ.no ⟨hM_2, hs_2, hf5_2, hf6_2, hf7_2, hf8_2, hf9_2⟩ Rh.nil (hE_1.trans hE_2)
      · exfalso; omega
  · rw [if_neg (by rw [hb1]; decide)] at hf8_1
    refine E_load rfl rfl rfl ?_
    refine E_V0 (q := 43) (c := 12) (y := 153) rfl rfl (hL.lt 43 rfl) (hL.k 43 rfl) rfl rfl rfl rfl (n_fig1 (k := (pSpell g [99, 97, 108, 109, 32] k).2) hL ⟨hM_1, hs_1, hf5_1, hf6_1, hf7_1, hf8_1, hf9_1⟩ hE hT (by omega)) (fun r h2 hq => ?_)
    obtain ⟨rfl, c_2, hh, hQ_2, hE_2⟩ := hq
    subst hh
    obtain ⟨hM_2, hs_2, hf5_2, hf6_2, hf7_2, hf8_2, hf9_2⟩ := hQ_2
    refine E_store rfl rfl rfl ?_
    refine E_load rfl rfl rfl ?_
    refine E_getf (c := 12) (v := (0, 1)) rfl (hL.lt 43 rfl) (hL.k 43 rfl) rfl (fv hf8_2) ?_
    refine E_if1 rfl (by omega) (fun z1 => ?_) (fun z1 => ?_)
    · refine E_vret rfl ?_
      rw [show pTell g 0 (pSpell g [99, 97, 108, 109, 32] k) = (false, (pSpell g [99, 97, 108, 109, 32] k).2, (0, 0, [])) from if_neg (by rw [hb1]; decide)]
      exact ClQ.no ⟨hM_2, hs_2, hf5_2, hf6_2, hf7_2, hf8_2, hf9_2⟩ Rh.nil (hE_1.trans hE_2)
    · exfalso; omega
set_option maxHeartbeats 4000000 in
set_option maxRecDepth 100000 in
theorem n_tell1 {h : Hp} {c : Nat → Nat → Int} {s g : Nat → Int} {act n k D : Nat} {l : List CLA} (hL : Lay h) (hE : Ends g n) (hact : act ≤ 4) (hR : RS c s act n k 0 0) (hT : TpR s g n) (hk : k ≤ n) (hCu : CuR s act l) (hl : (stepsC l).length ≤ k) : Ok (D + 3) 160 [(1, ((43 : Nat) : Int)), (0, 233), (1, -15)] (wC h c) (ClQ h c s act n l (pTell g 1 (pSpell g [112, 101, 97, 99, 101, 32] k))) := by
  show Ex _ none t_X11_tellsHere 0 0 _ [] (wC h c) _
  have hn := hE.1
  have hsp := pSpell_in hE [112, 101, 97, 99, 101, 32] k (by decide) hk
  obtain ⟨hM, hs, f5, f6, f7, f8, f9⟩ := hR
  refine E_load rfl rfl rfl ?_
  refine E_load rfl rfl rfl ?_
  refine E_V1 (q := 43) (c := 12) (y := 152) rfl rfl (hL.lt 43 rfl) (hL.k 43 rfl) rfl rfl rfl rfl (n_spell0 (kt := 5) (W := [112, 101, 97, 99, 101, 32]) hL ⟨hM, hs, f5, f6, f7, f8, f9⟩ hE hT hk (by decide) (by decide) rfl) (fun r h2 hq => ?_)
  obtain ⟨rfl, c_1, hh, hQ_1, hE_1⟩ := hq
  subst hh
  obtain ⟨hM_1, hs_1, hf5_1, hf6_1, hf7_1, hf8_1, hf9_1⟩ := hQ_1
  rcases Bool.eq_false_or_eq_true ((pSpell g [112, 101, 97, 99, 101, 32] k).1) with hb1 | hb1
  · rw [if_pos hb1] at hf8_1
    refine E_load rfl rfl rfl ?_
    refine E_V0 (q := 43) (c := 12) (y := 153) rfl rfl (hL.lt 43 rfl) (hL.k 43 rfl) rfl rfl rfl rfl (n_fig0 (k := (pSpell g [112, 101, 97, 99, 101, 32] k).2) hL ⟨hM_1, hs_1, hf5_1, hf6_1, hf7_1, hf8_1, hf9_1⟩ hE hT (by omega)) (fun r h2 hq => ?_)
    obtain ⟨rfl, c_2, hh, hQ_2, hE_2⟩ := hq
    subst hh
    obtain ⟨hM_2, hs_2, hf5_2, hf6_2, hf7_2, hf8_2, hf9_2⟩ := hQ_2
    refine E_store rfl rfl rfl ?_
    rcases Bool.eq_false_or_eq_true ((pNum g (pSpell g [112, 101, 97, 99, 101, 32] k).2).1) with hb | hb
    · rw [if_pos hb] at hf8_2
      refine E_load rfl rfl rfl ?_
      refine E_getf (c := 12) (v := (0, 0)) rfl (hL.lt 43 rfl) (hL.k 43 rfl) rfl (fv hf8_2) ?_
      refine E_if1 rfl (by omega) (fun z1 => ?_) (fun z1 => ?_)
      · exfalso; omega
      · refine E_load rfl rfl rfl ?_
        refine E_getr (c := 12) (r := 44) rfl (hL.lt 43 rfl) (hL.k 43 rfl) rfl hM_2.c1 ?_
        refine E_load rfl rfl rfl ?_
        refine E_load rfl rfl rfl ?_
        refine E_getf (c := 12) (v := (0, ((act : Nat) : Int))) rfl (hL.lt 43 rfl) (hL.k 43 rfl) rfl (fv hf5_2) ?_
        refine E_add rfl ?_
        refine E_load rfl rfl rfl ?_
        refine E_iasg (n := 943) (j := (233 + act)) rfl (hL.lt 44 rfl) (hL.k 44 rfl) (hL.l 44 rfl) (by omega) (by omega) (fun c_3 hc_3 => ?_)
        have hE_3 : Eqk PS c_2 c_3 := by rw [hc_3]; exact Eqk.up rfl
        have hM_3 : Mc c_3 := by rw [hc_3]; exact hM_2.upo rfl
        have hf5_3 : c_3 43 5 = ((act : Nat) : Int) := by rw [hc_3]; exact (up2_fld rfl).trans hf5_2
        have hf6_3 : c_3 43 6 = (((pNum g (pSpell g [112, 101, 97, 99, 101, 32] k).2).2.1 : Nat) : Int) := by rw [hc_3]; exact (up2_fld rfl).trans hf6_2
        have hf7_3 : c_3 43 7 = ((n : Nat) : Int) := by rw [hc_3]; exact (up2_fld rfl).trans hf7_2
        have hf8_3 : c_3 43 8 = 0 := by rw [hc_3]; exact (up2_fld rfl).trans hf8_2
        have hf9_3 : c_3 43 9 = 0 := by rw [hc_3]; exact (up2_fld rfl).trans hf9_2
        have hs_3 : c_3 44 = upd1 s (233 + act) (pNum g (pSpell g [112, 101, 97, 99, 101, 32] k).2).2.2 := by rw [hc_3]; exact up2_rowS hs_2
        refine E_vret rfl ?_
        rw [show pTell g 1 (pSpell g [112, 101, 97, 99, 101, 32] k) = (true, (pNum g (pSpell g [112, 101, 97, 99, 101, 32] k).2).2.1, (1, (pNum g (pSpell g [112, 101, 97, 99, 101, 32] k).2).2.2, [])) from (if_pos hb1).trans (by rw [hb])]
        exact ClQ.yes ⟨hM_3, hs_3, hf5_3, hf6_3, hf7_3, hf8_3, hf9_3⟩ (fun k a b _ _ => upd1_ne (by omega)) (hCu.peace hact (by omega)) (hE_1.trans (hE_2.trans hE_3))
    · rw [if_neg (by rw [hb]; decide)] at hf8_2
      refine E_load rfl rfl rfl ?_
      refine E_getf (c := 12) (v := (0, 1)) rfl (hL.lt 43 rfl) (hL.k 43 rfl) rfl (fv hf8_2) ?_
      refine E_if1 rfl (by omega) (fun z1 => ?_) (fun z1 => ?_)
      · refine E_vret rfl ?_
        rw [show pTell g 1 (pSpell g [112, 101, 97, 99, 101, 32] k) = (false, (pNum g (pSpell g [112, 101, 97, 99, 101, 32] k).2).2.1, (1, (pNum g (pSpell g [112, 101, 97, 99, 101, 32] k).2).2.2, [])) from (if_pos hb1).trans (by rw [hb])]
        exact ClQ.no ⟨hM_2, hs_2, hf5_2, hf6_2, hf7_2, hf8_2, hf9_2⟩ Rh.nil (hE_1.trans hE_2)
      · exfalso; omega
  · rw [if_neg (by rw [hb1]; decide)] at hf8_1
    refine E_load rfl rfl rfl ?_
    refine E_V0 (q := 43) (c := 12) (y := 153) rfl rfl (hL.lt 43 rfl) (hL.k 43 rfl) rfl rfl rfl rfl (n_fig1 (k := (pSpell g [112, 101, 97, 99, 101, 32] k).2) hL ⟨hM_1, hs_1, hf5_1, hf6_1, hf7_1, hf8_1, hf9_1⟩ hE hT (by omega)) (fun r h2 hq => ?_)
    obtain ⟨rfl, c_2, hh, hQ_2, hE_2⟩ := hq
    subst hh
    obtain ⟨hM_2, hs_2, hf5_2, hf6_2, hf7_2, hf8_2, hf9_2⟩ := hQ_2
    refine E_store rfl rfl rfl ?_
    refine E_load rfl rfl rfl ?_
    refine E_getf (c := 12) (v := (0, 1)) rfl (hL.lt 43 rfl) (hL.k 43 rfl) rfl (fv hf8_2) ?_
    refine E_if1 rfl (by omega) (fun z1 => ?_) (fun z1 => ?_)
    · refine E_vret rfl ?_
      rw [show pTell g 1 (pSpell g [112, 101, 97, 99, 101, 32] k) = (false, (pSpell g [112, 101, 97, 99, 101, 32] k).2, (0, 0, [])) from if_neg (by rw [hb1]; decide)]
      exact ClQ.no ⟨hM_2, hs_2, hf5_2, hf6_2, hf7_2, hf8_2, hf9_2⟩ Rh.nil (hE_1.trans hE_2)
    · exfalso; omega
