theorem n_amLy {d : Nat} {h : Hp} {c : Nat → Nat → Int} {s g : Nat → Int} {act n k : Nat} {w o : Int} (hL : Lay h) (hR : RS c s act n k w o) (hE : Ends g n) (hT : TpR s g n) (hk : k ≤ n) (hy : isLt (g k)) : Ok (d + 1) 154 [(1, ((43 : Nat) : Int)), (1, -17)] (wC h c) (fun r h2 => r = some (0, ((ltP (g k) : Nat) : Int)) ∧ ∃ c2, h2 = wC h c2 ∧ RS c2 s act n (k + 1) (w) o ∧ Eqk PS c c2) := by
  have e := n_amL (d := d) hL hR hE hT hk
  rw [if_pos hy, if_pos hy] at e
  exact e
theorem n_amLn {d : Nat} {h : Hp} {c : Nat → Nat → Int} {s g : Nat → Int} {act n k : Nat} {w o : Int} (hL : Lay h) (hR : RS c s act n k w o) (hE : Ends g n) (hT : TpR s g n) (hk : k ≤ n) (hy : ¬ isLt (g k)) : Ok (d + 1) 154 [(1, ((43 : Nat) : Int)), (1, -17)] (wC h c) (fun r h2 => r = some (0, -1) ∧ ∃ c2, h2 = wC h c2 ∧ RS c2 s act n (k) (w) o ∧ Eqk PS c c2) := by
  have e := n_amL (d := d) hL hR hE hT hk
  rw [if_neg hy, if_neg hy] at e
  exact e
theorem n_amHy {d : Nat} {h : Hp} {c : Nat → Nat → Int} {s g : Nat → Int} {act n k : Nat} {w o : Int} (hL : Lay h) (hR : RS c s act n k w o) (hE : Ends g n) (hT : TpR s g n) (hk : k ≤ n) (hy : isHw (g k)) : Ok (d + 1) 154 [(1, ((43 : Nat) : Int)), (1, -18)] (wC h c) (fun r h2 => r = some (0, hwP (g k)) ∧ ∃ c2, h2 = wC h c2 ∧ RS c2 s act n (k + 1) (w) o ∧ Eqk PS c c2) := by
  have e := n_amH (d := d) hL hR hE hT hk
  rw [if_pos hy, if_pos hy] at e
  exact e
theorem n_amHn {d : Nat} {h : Hp} {c : Nat → Nat → Int} {s g : Nat → Int} {act n k : Nat} {w o : Int} (hL : Lay h) (hR : RS c s act n k w o) (hE : Ends g n) (hT : TpR s g n) (hk : k ≤ n) (hy : ¬ isHw (g k)) : Ok (d + 1) 154 [(1, ((43 : Nat) : Int)), (1, -18)] (wC h c) (fun r h2 => r = some (0, -1) ∧ ∃ c2, h2 = wC h c2 ∧ RS c2 s act n (k) (w) o ∧ Eqk PS c c2) := by
  have e := n_amH (d := d) hL hR hE hT hk
  rw [if_neg hy, if_neg hy] at e
  exact e
theorem n_fig0 {d : Nat} {h : Hp} {c : Nat → Nat → Int} {s g : Nat → Int} {act n k : Nat} {o : Int} (hL : Lay h) (hR : RS c s act n k 0 o) (hE : Ends g n) (hT : TpR s g n) (hk : k ≤ n) : Ok (d + 1) 153 [(1, ((43 : Nat) : Int))] (wC h c) (fun r h2 => r = some (0, (pNum g k).2.2) ∧ ∃ c2, h2 = wC h c2 ∧ RS c2 s act n ((pNum g k).2.1) (if (pNum g k).1 = true then 0 else 1) o ∧ Eqk PS c c2) := n_figures hL hR hE hT hk (Or.inl rfl)
theorem n_fig1 {d : Nat} {h : Hp} {c : Nat → Nat → Int} {s g : Nat → Int} {act n k : Nat} {o : Int} (hL : Lay h) (hR : RS c s act n k 1 o) (hE : Ends g n) (hT : TpR s g n) (hk : k ≤ n) : Ok (d + 1) 153 [(1, ((43 : Nat) : Int))] (wC h c) (fun r h2 => r = some (0, 0) ∧ ∃ c2, h2 = wC h c2 ∧ RS c2 s act n (k) (1) o ∧ Eqk PS c c2) := n_figures hL hR hE hT hk (Or.inr rfl)
set_option maxHeartbeats 4000000 in
set_option maxRecDepth 100000 in
theorem n_mustW {d : Nat} {h : Hp} {c : Nat → Nat → Int} {s : Nat → Int} {act n k : Nat} {o : Int} (hL : Lay h) (hR : RS c s act n k 1 o) {x : Int} : Ok (d) 151 [(1, ((43 : Nat) : Int)), (0, x)] (wC h c) (fun r h2 => r = none ∧ ∃ c2, h2 = wC h c2 ∧ RS c2 s act n (k) (1) o ∧ Eqk PS c c2) := by
  show Ex _ none t_X11_must 0 0 _ [] (wC h c) _
  obtain ⟨hM, hs, f5, f6, f7, f8, f9⟩ := hR
  refine E_load rfl rfl rfl ?_
  refine E_load rfl rfl rfl ?_
  refine E_getf (c := 12) (v := (0, 1)) rfl (hL.lt 43 rfl) (hL.k 43 rfl) rfl (fv f8) ?_
  refine E_if1 rfl (by omega) (fun q1 => ?_) (fun q1 => ?_)
  · refine E_const rfl ?_
    refine E_goto rfl ?_
    refine E_putzg (cl := 12) rfl (hL.lt 43 rfl) (hL.k 43 rfl) rfl (by decide) (fun c_1 hc_1 => ?_)
    have hE_1 : Eqk PS c c_1 := by rw [hc_1]; exact Eqk.up rfl
    have hM_1 : Mc c_1 := by rw [hc_1]; exact hM.up43 rfl
    have hs_1 : c_1 44 = s := by rw [hc_1]; exact (up2_oth rfl).trans hs
    have hf5_1 : c_1 43 5 = ((act : Nat) : Int) := by rw [hc_1]; exact (up2_fld rfl).trans f5
    have hf6_1 : c_1 43 6 = ((k : Nat) : Int) := by rw [hc_1]; exact (up2_fld rfl).trans f6
    have hf7_1 : c_1 43 7 = ((n : Nat) : Int) := by rw [hc_1]; exact (up2_fld rfl).trans f7
    have hf9_1 : c_1 43 9 = o := by rw [hc_1]; exact (up2_fld rfl).trans f9
    have hf8_1 : c_1 43 8 = 1 := by rw [hc_1]; exact up2_same
    refine E_load rfl rfl rfl ?_
    refine E_dup rfl rfl ?_
    refine E_getf (c := 12) (v := (0, ((k : Nat) : Int))) rfl (hL.lt 43 rfl) (hL.k 43 rfl) rfl (fv hf6_1) ?_
    refine E_load rfl rfl rfl ?_
    refine E_getf (c := 12) (v := (0, 1)) rfl (hL.lt 43 rfl) (hL.k 43 rfl) rfl (fv hf8_1) ?_
    refine E_if0 rfl (by omega) (fun q2 => ?_) (fun q2 => ?_)
    · exfalso; omega
    · refine E_const rfl ?_
      refine E_goto rfl ?_
      refine E_add rfl ?_
      refine E_putg (cl := 12) rfl (hL.lt 43 rfl) (hL.k 43 rfl) rfl (fun c_2 hc_2 => ?_)
      have hE_2 : Eqk PS c_1 c_2 := by rw [hc_2]; exact Eqk.up rfl
      have hM_2 : Mc c_2 := by rw [hc_2]; exact hM_1.up43 rfl
      have hs_2 : c_2 44 = s := by rw [hc_2]; exact (up2_oth rfl).trans hs_1
      have hf5_2 : c_2 43 5 = ((act : Nat) : Int) := by rw [hc_2]; exact (up2_fld rfl).trans hf5_1
      have hf7_2 : c_2 43 7 = ((n : Nat) : Int) := by rw [hc_2]; exact (up2_fld rfl).trans hf7_1
      have hf8_2 : c_2 43 8 = 1 := by rw [hc_2]; exact (up2_fld rfl).trans hf8_1
      have hf9_2 : c_2 43 9 = o := by rw [hc_2]; exact (up2_fld rfl).trans hf9_1
      have hf6_2 : c_2 43 6 = (((k : Nat) : Int) + 0) := by rw [hc_2]; exact up2_same
      refine E_vret rfl ?_
      exact ⟨rfl, c_2, rfl, ⟨hM_2, hs_2, hf5_2, hf6_2.trans (Int.add_zero _), hf7_2, hf8_2, hf9_2⟩, (hE_1.trans hE_2)⟩
  · exfalso; omega
theorem n_must0 {d : Nat} {h : Hp} {c : Nat → Nat → Int} {s g : Nat → Int} {act n k : Nat} {o : Int} (hL : Lay h) (hR : RS c s act n k 0 o) (hE : Ends g n) (hT : TpR s g n) (hk : k ≤ n) {x : Int} (hx : 0 < x ∧ x ≤ 127) : Ok (d + 1) 151 [(1, ((43 : Nat) : Int)), (0, x)] (wC h c) (fun r h2 => r = none ∧ ∃ c2, h2 = wC h c2 ∧ RS c2 s act n (if g k = x then k + 1 else k) (if g k = x then 0 else 1) o ∧ Eqk PS c c2) := by
  have e := n_must (d := d) hL hR hE hT hk hx (Or.inl rfl)
  by_cases hg : g k = x
  · rw [if_pos ⟨rfl, hg⟩, if_pos ⟨rfl, hg⟩] at e
    rw [if_pos hg, if_pos hg]
    exact e
  · rw [if_neg (fun z => hg z.2), if_neg (fun z => hg z.2)] at e
    rw [if_neg hg, if_neg hg]
    exact e
def RdQ (h : Hp) (c : Nat → Nat → Int) (s : Nat → Int) (act n : Nat) (o : Int) (L : List Int) (q : PR) : Option AV → Hp → Prop := fun r h2 => r = none ∧ ∃ c2 s2, h2 = wC h c2 ∧ RS c2 s2 act n q.2.1 (if q.1 = true then 0 else 1) o ∧ Rg act s s2 ∧ (q.1 = true → StR s2 act (L ++ q.2.2.map encP)) ∧ Eqk PS c c2
def ItOK (h : Hp) (g : Nat → Int) (act n D y : Nat) (o : Int) (it : Nat → PR) : Prop := ∀ (k : Nat) (s : Nat → Int) (L : List Int) (c : Nat → Nat → Int), k ≤ n → L.length ≤ k → RS c s act n k 0 o → TpR s g n → StR s act L → Ok D y [(1, ((43 : Nat) : Int))] (wC h c) (RdQ h c s act n o L (it k))
theorem RdQ.no {h : Hp} {c c2 : Nat → Nat → Int} {s s2 : Nat → Int} {act n p : Nat} {o : Int} {L : List Int} (hR : RS c2 s2 act n p 1 o) (hg : Rg act s s2) (hE : Eqk PS c c2) : RdQ h c s act n o L (false, p, []) none (wC h c2) := ⟨rfl, c2, s2, rfl, hR, hg, fun z => absurd (show false = true from z) (by decide), hE⟩
theorem RdQ.yes {h : Hp} {c c2 : Nat → Nat → Int} {s s2 : Nat → Int} {act n p : Nat} {o : Int} {L : List Int} {l : List PRT} (hR : RS c2 s2 act n p 0 o) (hg : Rg act s s2) (hS : StR s2 act (L ++ l.map encP)) (hE : Eqk PS c c2) : RdQ h c s act n o L (true, p, l) none (wC h c2) := ⟨rfl, c2, s2, rfl, hR, hg, fun _ => hS, hE⟩
theorem RdQ.of {h : Hp} {c c1 : Nat → Nat → Int} {s s1 : Nat → Int} {act n : Nat} {o : Int} {L : List Int} {q : PR} {r : Option AV} {h2 : Hp} (hg : Rg act s s1) (hE : Eqk PS c c1) (k : RdQ h c1 s1 act n o L q r h2) : RdQ h c s act n o L q r h2 := by
  obtain ⟨e1, c9, s9, e2, e3, e4, e5, e6⟩ := k
  exact ⟨e1, c9, s9, e2, e3, hg.trans e4, e5, hE.trans e6⟩
set_option maxHeartbeats 4000000 in
set_option maxRecDepth 100000 in
theorem n_test {D : Nat} {h : Hp} {c : Nat → Nat → Int} {s g : Nat → Int} {act n k : Nat} {o : Int} (hL : Lay h) (hE : Ends g n) (hact : act ≤ 4) {L : List Int} {x : Int} {v2 v3 v4 : AV} (hk : k ≤ n) (hl : L.length ≤ k) (hR : RS c s act n k 0 o) (hT : TpR s g n) (hS : StR s act L) : Ex (D + 3) none t_X11_factor 0 112 [(1, ((43 : Nat) : Int)), (0, x), v2, v3, v4] [] (wC h c) (RdQ h c s act n o L (pTest g k)) := by
  obtain ⟨hM, hs, f5, f6, f7, f8, f9⟩ := hR
  have hn := hE.1
  have hlt := fun z => hE.lt (k := k) z
  have hlt1 := fun z => hE.lt (k := k + 1) z
  have hw1 := hwP_in (g (k + 1))
  have hlp := ltP_lt (g k)
  rcases Classical.em (isLt (g k)) with h1 | h1
  · refine E_load rfl rfl rfl ?_
    refine E_str rfl ?_
    refine E_V1 (q := 43) (c := 12) (y := 154) rfl rfl (hL.lt 43 rfl) (hL.k 43 rfl) rfl rfl rfl rfl (n_amLy (k := k) hL ⟨hM, hs, f5, f6, f7, f8, f9⟩ hE hT (by omega) h1) (fun r h2 hq => ?_)
    obtain ⟨rfl, c_1, hh, hQ_1, hE_1⟩ := hq
    subst hh
    obtain ⟨hM_1, hs_1, hf5_1, hf6_1, hf7_1, hf8_1, hf9_1⟩ := hQ_1
    refine E_store rfl rfl rfl ?_
    refine E_load rfl rfl rfl ?_
    refine E_load rfl rfl rfl ?_
    refine E_const rfl ?_
    refine E_cmp1 rfl (by omega) (fun q1 => ?_) (fun q1 => ?_)
    · refine E_const rfl ?_
      refine E_putzg (cl := 12) rfl (hL.lt 43 rfl) (hL.k 43 rfl) rfl (by decide) (fun c_2 hc_2 => ?_)
      have hE_2 : Eqk PS c_1 c_2 := by rw [hc_2]; exact Eqk.up rfl
      have hM_2 : Mc c_2 := by rw [hc_2]; exact hM_1.up43 rfl
      have hs_2 : c_2 44 = s := by rw [hc_2]; exact (up2_oth rfl).trans hs_1
      have hf5_2 : c_2 43 5 = ((act : Nat) : Int) := by rw [hc_2]; exact (up2_fld rfl).trans hf5_1
      have hf6_2 : c_2 43 6 = (((k + 1) : Nat) : Int) := by rw [hc_2]; exact (up2_fld rfl).trans hf6_1
      have hf7_2 : c_2 43 7 = ((n : Nat) : Int) := by rw [hc_2]; exact (up2_fld rfl).trans hf7_1
      have hf9_2 : c_2 43 9 = o := by rw [hc_2]; exact (up2_fld rfl).trans hf9_1
      have hf8_2 : c_2 43 8 = 0 := by rw [hc_2]; exact up2_same
      refine E_load rfl rfl rfl ?_
      refine E_getf (c := 12) (v := (0, 0)) rfl (hL.lt 43 rfl) (hL.k 43 rfl) rfl (fv hf8_2) ?_
      refine E_if0 rfl (by omega) (fun q2 => ?_) (fun q2 => ?_)
      · rcases Classical.em (isHw (g (k + 1))) with h2 | h2
        · have hk1 := hlt (by omega)
          refine E_load rfl rfl rfl ?_
          refine E_str rfl ?_
          refine E_V1 (q := 43) (c := 12) (y := 154) rfl rfl (hL.lt 43 rfl) (hL.k 43 rfl) rfl rfl rfl rfl (n_amHy (k := k + 1) hL ⟨hM_2, hs_2, hf5_2, hf6_2, hf7_2, hf8_2, hf9_2⟩ hE hT (by omega) h2) (fun r h2 hq => ?_)
          obtain ⟨rfl, c_3, hh, hQ_3, hE_3⟩ := hq
          subst hh
          obtain ⟨hM_3, hs_3, hf5_3, hf6_3, hf7_3, hf8_3, hf9_3⟩ := hQ_3
          refine E_store rfl rfl rfl ?_
          refine E_load rfl rfl rfl ?_
          refine E_load rfl rfl rfl ?_
          refine E_getf (c := 12) (v := (0, 0)) rfl (hL.lt 43 rfl) (hL.k 43 rfl) rfl (fv hf8_3) ?_
          refine E_if1 rfl (by omega) (fun q3 => ?_) (fun q3 => ?_)
          · exfalso; omega
          · refine E_load rfl rfl rfl ?_
            refine E_const rfl ?_
            refine E_cmp1 rfl (by omega) (fun q4 => ?_) (fun q4 => ?_)
            · refine E_const rfl ?_
              refine E_putzg (cl := 12) rfl (hL.lt 43 rfl) (hL.k 43 rfl) rfl (by decide) (fun c_4 hc_4 => ?_)
              have hE_4 : Eqk PS c_3 c_4 := by rw [hc_4]; exact Eqk.up rfl
              have hM_4 : Mc c_4 := by rw [hc_4]; exact hM_3.up43 rfl
              have hs_4 : c_4 44 = s := by rw [hc_4]; exact (up2_oth rfl).trans hs_3
              have hf5_4 : c_4 43 5 = ((act : Nat) : Int) := by rw [hc_4]; exact (up2_fld rfl).trans hf5_3
              have hf6_4 : c_4 43 6 = (((k + 1 + 1) : Nat) : Int) := by rw [hc_4]; exact (up2_fld rfl).trans hf6_3
              have hf7_4 : c_4 43 7 = ((n : Nat) : Int) := by rw [hc_4]; exact (up2_fld rfl).trans hf7_3
              have hf9_4 : c_4 43 9 = o := by rw [hc_4]; exact (up2_fld rfl).trans hf9_3
              have hf8_4 : c_4 43 8 = 0 := by rw [hc_4]; exact up2_same
              refine E_load rfl rfl rfl ?_
              refine E_V0 (q := 43) (c := 12) (y := 153) rfl rfl (hL.lt 43 rfl) (hL.k 43 rfl) rfl rfl rfl rfl (n_fig0 (k := k + 1 + 1) hL ⟨hM_4, hs_4, hf5_4, hf6_4, hf7_4, hf8_4, hf9_4⟩ hE hT (by have := hlt1 (by omega); omega)) (fun r h2 hq => ?_)
              obtain ⟨rfl, c_5, hh, hQ_5, hE_5⟩ := hq
              subst hh
              obtain ⟨hM_5, hs_5, hf5_5, hf6_5, hf7_5, hf8_5, hf9_5⟩ := hQ_5
              rcases Bool.eq_false_or_eq_true ((pNum g (k + 2)).1) with hb | hb
              · rw [if_pos hb] at hf8_5
                have hpt : pTest g k = (true, (pNum g (k + 2)).2.1, [(g k, g (k + 1), (pNum g (k + 2)).2.2)]) := (if_neg (fun z => z h1)).trans ((if_neg (fun z => z h2)).trans (if_pos hb))
                have hpn := pNum_in hE (k := k + 2) (by have := hlt1 (by omega); omega)
                have hv : ((ltP (g k) : Nat) : Int) + 8 * hwP (g (k + 1)) + 32 * (pNum g (k + 2)).2.2 = encP (g k, g (k + 1), (pNum g (k + 2)).2.2) := (encT (p := (g k, g (k + 1), (pNum g (k + 2)).2.2)) ⟨h1, h2, hpn.2.1⟩).symm
                refine E_store rfl rfl rfl ?_
                refine E_load rfl rfl rfl ?_
                refine E_load rfl rfl rfl ?_
                refine E_const rfl ?_
                refine E_load rfl rfl rfl ?_
                refine E_mul rfl ?_
                refine E_add rfl ?_
                refine E_const rfl ?_
                refine E_load rfl rfl rfl ?_
                refine E_mul rfl ?_
                refine E_add rfl ?_
                rw [hv]
                refine E_V1 (q := 43) (c := 12) (y := 155) rfl rfl (hL.lt 43 rfl) (hL.k 43 rfl) rfl rfl rfl rfl (n_emits (k := (pNum g (k + 2)).2.1) hL ⟨hM_5, hs_5, hf5_5, hf6_5, hf7_5, hf8_5, hf9_5⟩ hact hS (by omega)) (fun r h2 hq => ?_)
                obtain ⟨rfl, c_6, s_6, hh, hQ_6, hG_6, hS_6, hE_6⟩ := hq
                subst hh
                obtain ⟨hM_6, hs_6, hf5_6, hf6_6, hf7_6, hf8_6, hf9_6⟩ := hQ_6
                refine E_vret rfl ?_
                rw [hpt]
                exact RdQ.yes ⟨hM_6, hs_6, hf5_6, hf6_6, hf7_6, hf8_6, hf9_6⟩ hG_6 hS_6 (hE_1.trans (hE_2.trans (hE_3.trans (hE_4.trans (hE_5.trans hE_6)))))
              · rw [if_neg (by rw [hb]; decide)] at hf8_5
                have hpt : pTest g k = (false, (pNum g (k + 2)).2.1, []) := (if_neg (fun z => z h1)).trans ((if_neg (fun z => z h2)).trans (if_neg (by rw [hb]; decide)))
                refine E_store rfl rfl rfl ?_
                refine E_load rfl rfl rfl ?_
                refine E_load rfl rfl rfl ?_
                refine E_const rfl ?_
                refine E_load rfl rfl rfl ?_
                refine E_mul rfl ?_
                refine E_add rfl ?_
                refine E_const rfl ?_
                refine E_load rfl rfl rfl ?_
                refine E_mul rfl ?_
                refine E_add rfl ?_
                refine E_V1 (q := 43) (c := 12) (y := 155) rfl rfl (hL.lt 43 rfl) (hL.k 43 rfl) rfl rfl rfl rfl (n_emitsW (k := (pNum g (k + 2)).2.1) hL ⟨hM_5, hs_5, hf5_5, hf6_5, hf7_5, hf8_5, hf9_5⟩) (fun r h2 hq => ?_)
                obtain ⟨rfl, c_6, hh, hQ_6, hE_6⟩ := hq
                subst hh
                obtain ⟨hM_6, hs_6, hf5_6, hf6_6, hf7_6, hf8_6, hf9_6⟩ := hQ_6
                refine E_vret rfl ?_
                rw [hpt]
                exact RdQ.no ⟨hM_6, hs_6, hf5_6, hf6_6, hf7_6, hf8_6, hf9_6⟩ Rg.nil (hE_1.trans (hE_2.trans (hE_3.trans (hE_4.trans (hE_5.trans hE_6)))))
            · exfalso; omega
        · have hk1 := hlt (by omega)
          refine E_load rfl rfl rfl ?_
          refine E_str rfl ?_
          refine E_V1 (q := 43) (c := 12) (y := 154) rfl rfl (hL.lt 43 rfl) (hL.k 43 rfl) rfl rfl rfl rfl (n_amHn (k := k + 1) hL ⟨hM_2, hs_2, hf5_2, hf6_2, hf7_2, hf8_2, hf9_2⟩ hE hT (by omega) h2) (fun r h2 hq => ?_)
          obtain ⟨rfl, c_6, hh, hQ_6, hE_6⟩ := hq
          subst hh
          obtain ⟨hM_6, hs_6, hf5_6, hf6_6, hf7_6, hf8_6, hf9_6⟩ := hQ_6
          refine E_store rfl rfl rfl ?_
          refine E_load rfl rfl rfl ?_
          refine E_load rfl rfl rfl ?_
          refine E_getf (c := 12) (v := (0, 0)) rfl (hL.lt 43 rfl) (hL.k 43 rfl) rfl (fv hf8_6) ?_
          refine E_if1 rfl (by omega) (fun q5 => ?_) (fun q5 => ?_)
          · exfalso; omega
          · refine E_load rfl rfl rfl ?_
            refine E_const rfl ?_
            refine E_cmp1 rfl (by omega) (fun q6 => ?_) (fun q6 => ?_)
            · exfalso; omega
            · refine E_const rfl ?_
              refine E_goto rfl ?_
              refine E_putzg (cl := 12) rfl (hL.lt 43 rfl) (hL.k 43 rfl) rfl (by decide) (fun c_7 hc_7 => ?_)
              have hE_7 : Eqk PS c_6 c_7 := by rw [hc_7]; exact Eqk.up rfl
              have hM_7 : Mc c_7 := by rw [hc_7]; exact hM_6.up43 rfl
              have hs_7 : c_7 44 = s := by rw [hc_7]; exact (up2_oth rfl).trans hs_6
              have hf5_7 : c_7 43 5 = ((act : Nat) : Int) := by rw [hc_7]; exact (up2_fld rfl).trans hf5_6
              have hf6_7 : c_7 43 6 = ((k + 1 : Nat) : Int) := by rw [hc_7]; exact (up2_fld rfl).trans hf6_6
              have hf7_7 : c_7 43 7 = ((n : Nat) : Int) := by rw [hc_7]; exact (up2_fld rfl).trans hf7_6
              have hf9_7 : c_7 43 9 = o := by rw [hc_7]; exact (up2_fld rfl).trans hf9_6
              have hf8_7 : c_7 43 8 = 1 := by rw [hc_7]; exact up2_same
              refine E_load rfl rfl rfl ?_
              refine E_V0 (q := 43) (c := 12) (y := 153) rfl rfl (hL.lt 43 rfl) (hL.k 43 rfl) rfl rfl rfl rfl (n_fig1 (k := k + 1) hL ⟨hM_7, hs_7, hf5_7, hf6_7, hf7_7, hf8_7, hf9_7⟩ hE hT (by omega)) (fun r h2 hq => ?_)
              obtain ⟨rfl, c_8, hh, hQ_8, hE_8⟩ := hq
              subst hh
              obtain ⟨hM_8, hs_8, hf5_8, hf6_8, hf7_8, hf8_8, hf9_8⟩ := hQ_8
              refine E_store rfl rfl rfl ?_
              refine E_load rfl rfl rfl ?_
              refine E_load rfl rfl rfl ?_
              refine E_const rfl ?_
              refine E_load rfl rfl rfl ?_
              refine E_mul rfl ?_
              refine E_add rfl ?_
              refine E_const rfl ?_
              refine E_load rfl rfl rfl ?_
              refine E_mul rfl ?_
              refine E_add rfl ?_
              refine E_V1 (q := 43) (c := 12) (y := 155) rfl rfl (hL.lt 43 rfl) (hL.k 43 rfl) rfl rfl rfl rfl (n_emitsW (k := (k + 1)) hL ⟨hM_8, hs_8, hf5_8, hf6_8, hf7_8, hf8_8, hf9_8⟩) (fun r h2 hq => ?_)
              obtain ⟨rfl, c_9, hh, hQ_9, hE_9⟩ := hq
              subst hh
              obtain ⟨hM_9, hs_9, hf5_9, hf6_9, hf7_9, hf8_9, hf9_9⟩ := hQ_9
              refine E_vret rfl ?_
              rw [show pTest g k = (false, k + 1, []) from (if_neg (fun z => z h1)).trans (if_pos h2)]
              exact RdQ.no ⟨hM_9, hs_9, hf5_9, hf6_9, hf7_9, hf8_9, hf9_9⟩ Rg.nil (hE_1.trans (hE_2.trans (hE_6.trans (hE_7.trans (hE_8.trans hE_9)))))
      · exfalso; omega
    · exfalso; omega
  · refine E_load rfl rfl rfl ?_
    refine E_str rfl ?_
    refine E_V1 (q := 43) (c := 12) (y := 154) rfl rfl (hL.lt 43 rfl) (hL.k 43 rfl) rfl rfl rfl rfl (n_amLn (k := k) hL ⟨hM, hs, f5, f6, f7, f8, f9⟩ hE hT (by omega) h1) (fun r h2 hq => ?_)
    obtain ⟨rfl, c_10, hh, hQ_10, hE_10⟩ := hq
    subst hh
    obtain ⟨hM_10, hs_10, hf5_10, hf6_10, hf7_10, hf8_10, hf9_10⟩ := hQ_10
    refine E_store rfl rfl rfl ?_
    refine E_load rfl rfl rfl ?_
    refine E_load rfl rfl rfl ?_
    refine E_const rfl ?_
    refine E_cmp1 rfl (by omega) (fun q7 => ?_) (fun q7 => ?_)
    · exfalso; omega
    · refine E_const rfl ?_
      refine E_goto rfl ?_
      refine E_putzg (cl := 12) rfl (hL.lt 43 rfl) (hL.k 43 rfl) rfl (by decide) (fun c_11 hc_11 => ?_)
      have hE_11 : Eqk PS c_10 c_11 := by rw [hc_11]; exact Eqk.up rfl
      have hM_11 : Mc c_11 := by rw [hc_11]; exact hM_10.up43 rfl
      have hs_11 : c_11 44 = s := by rw [hc_11]; exact (up2_oth rfl).trans hs_10
      have hf5_11 : c_11 43 5 = ((act : Nat) : Int) := by rw [hc_11]; exact (up2_fld rfl).trans hf5_10
      have hf6_11 : c_11 43 6 = ((k : Nat) : Int) := by rw [hc_11]; exact (up2_fld rfl).trans hf6_10
      have hf7_11 : c_11 43 7 = ((n : Nat) : Int) := by rw [hc_11]; exact (up2_fld rfl).trans hf7_10
      have hf9_11 : c_11 43 9 = o := by rw [hc_11]; exact (up2_fld rfl).trans hf9_10
      have hf8_11 : c_11 43 8 = 1 := by rw [hc_11]; exact up2_same
      refine E_load rfl rfl rfl ?_
      refine E_getf (c := 12) (v := (0, 1)) rfl (hL.lt 43 rfl) (hL.k 43 rfl) rfl (fv hf8_11) ?_
      refine E_if0 rfl (by omega) (fun q8 => ?_) (fun q8 => ?_)
      · exfalso; omega
      · refine E_const rfl ?_
        refine E_goto rfl ?_
        refine E_store rfl rfl rfl ?_
        refine E_load rfl rfl rfl ?_
        refine E_load rfl rfl rfl ?_
        refine E_getf (c := 12) (v := (0, 1)) rfl (hL.lt 43 rfl) (hL.k 43 rfl) rfl (fv hf8_11) ?_
        refine E_if1 rfl (by omega) (fun q9 => ?_) (fun q9 => ?_)
        · refine E_const rfl ?_
          refine E_goto rfl ?_
          refine E_putzg (cl := 12) rfl (hL.lt 43 rfl) (hL.k 43 rfl) rfl (by decide) (fun c_12 hc_12 => ?_)
          have hE_12 : Eqk PS c_11 c_12 := by rw [hc_12]; exact Eqk.up rfl
          have hM_12 : Mc c_12 := by rw [hc_12]; exact hM_11.up43 rfl
          have hs_12 : c_12 44 = s := by rw [hc_12]; exact (up2_oth rfl).trans hs_11
          have hf5_12 : c_12 43 5 = ((act : Nat) : Int) := by rw [hc_12]; exact (up2_fld rfl).trans hf5_11
          have hf6_12 : c_12 43 6 = ((k : Nat) : Int) := by rw [hc_12]; exact (up2_fld rfl).trans hf6_11
          have hf7_12 : c_12 43 7 = ((n : Nat) : Int) := by rw [hc_12]; exact (up2_fld rfl).trans hf7_11
          have hf9_12 : c_12 43 9 = o := by rw [hc_12]; exact (up2_fld rfl).trans hf9_11
          have hf8_12 : c_12 43 8 = 1 := by rw [hc_12]; exact up2_same
          refine E_load rfl rfl rfl ?_
          refine E_V0 (q := 43) (c := 12) (y := 153) rfl rfl (hL.lt 43 rfl) (hL.k 43 rfl) rfl rfl rfl rfl (n_fig1 (k := k) hL ⟨hM_12, hs_12, hf5_12, hf6_12, hf7_12, hf8_12, hf9_12⟩ hE hT (by omega)) (fun r h2 hq => ?_)
          obtain ⟨rfl, c_13, hh, hQ_13, hE_13⟩ := hq
          subst hh
          obtain ⟨hM_13, hs_13, hf5_13, hf6_13, hf7_13, hf8_13, hf9_13⟩ := hQ_13
          refine E_store rfl rfl rfl ?_
          refine E_load rfl rfl rfl ?_
          refine E_load rfl rfl rfl ?_
          refine E_const rfl ?_
          refine E_load rfl rfl rfl ?_
          refine E_mul rfl ?_
          refine E_add rfl ?_
          refine E_const rfl ?_
          refine E_load rfl rfl rfl ?_
          refine E_mul rfl ?_
          refine E_add rfl ?_
          refine E_V1 (q := 43) (c := 12) (y := 155) rfl rfl (hL.lt 43 rfl) (hL.k 43 rfl) rfl rfl rfl rfl (n_emitsW (k := k) hL ⟨hM_13, hs_13, hf5_13, hf6_13, hf7_13, hf8_13, hf9_13⟩) (fun r h2 hq => ?_)
          obtain ⟨rfl, c_14, hh, hQ_14, hE_14⟩ := hq
          subst hh
          obtain ⟨hM_14, hs_14, hf5_14, hf6_14, hf7_14, hf8_14, hf9_14⟩ := hQ_14
          refine E_vret rfl ?_
          rw [show pTest g k = (false, k, []) from if_pos h1]
          exact RdQ.no ⟨hM_14, hs_14, hf5_14, hf6_14, hf7_14, hf8_14, hf9_14⟩ Rg.nil (hE_10.trans (hE_11.trans (hE_12.trans (hE_13.trans hE_14))))
        · exfalso; omega
