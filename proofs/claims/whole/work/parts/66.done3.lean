set_option maxHeartbeats 4000000 in
set_option maxRecDepth 100000 in
theorem Cl_sayTried {d : Nat} {h : Hp} {B : Nat → Nat} {s im : Nat → Int} {hi : Int} {L : List Int} (hL : Lay h) (hG : InvG s) {t : Nat → Int} (hGt : InvG t) (hte : ∀ k, 29 ≤ k → t k = s k) : ∀ (n i : Nat), i + n = (s 29).toNat → ∀ (a : Int) (v3 : AV), a = sm (fun b => if t (19 + b) = 0 then syS t b else 0) i → ∀ c, RepC h c B s im hi L → TryR c B (s 29) t → Ex (d + 9) none t_X10_allSayAsTried 0 4 [(1, ((0 : Nat) : Int)), (0, a), (0, (i : Int)), v3] [] (wC h c) (fun r h2 => r = some (0, alS t) ∧ h2 = wC h c) := by
  have hGG := hG
  obtain ⟨hI, hH, ⟨⟨n29, n30, n31, n32, n33, n34, n36⟩, nM⟩⟩ := hGG
  have t29 := hte 29 (by omega)
  intro n
  induction n with
  | zero =>
    intro i hin a v3 ha c hR hT
    refine E_load rfl rfl rfl ?_
    refine E_load rfl rfl rfl ?_
    refine E_getr (c := 11) (r := 42) rfl (hL.lt 0 rfl) (hL.k 0 rfl) rfl (hR.C.g 0 11 42 (by decide)) ?_
    refine E_V0 (q := 42) (c := 0) (y := 3) rfl rfl (hL.lt 42 rfl) (hL.k 42 rfl) rfl rfl rfl rfl (j_size hL hR.list) (fun r h2 hq => ?_)
    obtain ⟨rfl, hh⟩ := hq
    subst hh
    refine E_cmp3 rfl (by omega) (fun q1 => ?_) (fun q1 => ?_)
    · refine E_load rfl rfl rfl ?_
      refine E_iret rfl (fun h => absurd h (by decide)) ?_
      exact ⟨by rw [ha]; unfold alS; rw [t29, show i = (s 29).toNat by omega], rfl⟩
    · exfalso; omega
  | succ n ih =>
    intro i hin a v3 ha c hR hT
    refine E_load rfl rfl rfl ?_
    refine E_load rfl rfl rfl ?_
    refine E_getr (c := 11) (r := 42) rfl (hL.lt 0 rfl) (hL.k 0 rfl) rfl (hR.C.g 0 11 42 (by decide)) ?_
    refine E_V0 (q := 42) (c := 0) (y := 3) rfl rfl (hL.lt 42 rfl) (hL.k 42 rfl) rfl rfl rfl rfl (j_size hL hR.list) (fun r h2 hq => ?_)
    obtain ⟨rfl, hh⟩ := hq
    subst hh
    refine E_cmp3 rfl (by omega) (fun q1 => ?_) (fun q1 => ?_)
    · exfalso; omega
    · refine E_load rfl rfl rfl ?_
      refine E_getr (c := 11) (r := 42) rfl (hL.lt 0 rfl) (hL.k 0 rfl) rfl (hR.C.g 0 11 42 (by decide)) ?_
      refine E_load rfl rfl rfl ?_
      refine E_V1 (q := 42) (c := 0) (y := 5) rfl rfl (hL.lt 42 rfl) (hL.k 42 rfl) rfl rfl rfl rfl (j_get hL hR.list (by omega)) (fun r h2 hq => ?_)
      obtain ⟨rfl, hh⟩ := hq
      subst hh
      refine E_castB rfl (show (B i) < mN h by have := (hR.bot i (by omega)).1.1.1; omega) (hR.bot i (by omega)).1.isB ?_
      refine E_store rfl rfl rfl ?_
      refine E_load rfl rfl rfl ?_
      refine E_getrB (r := (B i + 5)) rfl (show (B i) < mN h by have := (hR.bot i (by omega)).1.1.1; omega) (hR.bot i (by omega)).1.isB rfl ((hR.bot i (by omega)).1.2.1.2.2.2.2.2) ?_
      refine E_getf (c := 6) (v := (0, (t (19 + i)))) rfl (show (B i + 5) < mN h by have := (hR.bot i (by omega)).1.1.1; omega) (hR.bot i (by omega)).1.2.2.2.2.2.1 rfl (fv ((hT.2 i (by omega)).1.2.2.2.2)) ?_
      refine E_if1 rfl (by have := (hGt.1 i (by omega)).2.2.2.1; omega) (fun q2 => ?_) (fun q2 => ?_)
      · refine E_iinc rfl rfl rfl ?_
        refine E_goto rfl ?_
        exact ih (i + 1) (by omega) _ _ (by rw [ha]; show _ = sm _ i + (if _ = _ then _ else _); rw [if_neg (by omega), Int.add_zero]) c hR hT
      · refine E_load rfl rfl rfl ?_
        refine E_load rfl rfl rfl ?_
        refine E_load rfl rfl rfl ?_
        refine E_load rfl rfl rfl ?_
        refine E_getrB (r := (B i + 5)) rfl (show (B i) < mN h by have := (hR.bot i (by omega)).1.1.1; omega) (hR.bot i (by omega)).1.isB rfl ((hR.bot i (by omega)).1.2.1.2.2.2.2.2) ?_
        refine E_V2 (q := 0) (c := 11) (y := 122) rfl rfl (hL.lt 0 rfl) (hL.k 0 rfl) rfl rfl rfl rfl (c_sayT hL hR hG hGt (b := i) (by omega) (hT.2 i (by omega)) (fun k hk _ => hte k hk) (hte _ (by omega))) (fun r h2 hq => ?_)
        obtain ⟨rfl, hh⟩ := hq
        subst hh
        refine E_add rfl ?_
        refine E_store rfl rfl rfl ?_
        refine E_iinc rfl rfl rfl ?_
        refine E_goto rfl ?_
        exact ih (i + 1) (by omega) _ _ (by rw [ha]; show _ = sm _ i + (if _ = _ then _ else _); rw [if_pos (by omega)]) c hR hT
set_option maxHeartbeats 4000000 in
set_option maxRecDepth 100000 in
theorem c_sayTried {d : Nat} {h : Hp} {c : Nat → Nat → Int} {B : Nat → Nat} {s im : Nat → Int} {hi : Int} {L : List Int} (hL : Lay h) (hR : RepC h c B s im hi L) (hG : InvG s) {t : Nat → Int} (hGt : InvG t) (hte : ∀ k, 29 ≤ k → t k = s k) (hT : TryR c B (s 29) t) : Ok (d + 9) 137 [(1, ((0 : Nat) : Int))] (wC h c) (fun r h2 => r = some (0, alS t) ∧ h2 = wC h c) := by
  show Ex _ none t_X10_allSayAsTried 0 0 _ [] (wC h c) _
  refine E_const rfl ?_
  refine E_store rfl rfl rfl ?_
  refine E_const rfl ?_
  refine E_store rfl rfl rfl ?_
  exact Cl_sayTried hL hG hGt hte _ 0 (Nat.zero_add _) 0 _ rfl c hR hT
set_option maxHeartbeats 4000000 in
set_option maxRecDepth 100000 in
theorem Cl_rows {d : Nat} {h : Hp} {B : Nat → Nat} {s im : Nat → Int} {hi : Int} {L : List Int} (hL : Lay h) (hG : InvG s) (hA : Inv s) {w : Int} (hw : inR w) : ∀ (n i : Nat), i + n = (s 32).toNat → ∀ c, RepC h c B s im hi L → TryR c B (s 29) (dnN s i) → Ex (d + 14) none t_X10_done 0 64 [(1, ((0 : Nat) : Int)), (0, w), (0, (i : Int))] [] (wC h c) (fun r h2 => r = some (0, if w = 0 then amS (dnN s (s 32).toNat) else alS (dnN s (s 32).toNat)) ∧ ∃ c2, h2 = wC h c2 ∧ EqP (ScrP B (s 29)) c c2) := by
  have hGG := hG
  obtain ⟨hI, hH, ⟨⟨n29, n30, n31, n32, n33, n34, n36⟩, nM⟩⟩ := hGG
  intro n
  induction n with
  | zero =>
    intro i hin   c hR hT
    obtain ⟨hGi, hhi⟩ := dn_inv hA i (by omega)
    have h36i := hhi 36 (by omega)
    refine E_load rfl rfl rfl ?_
    refine E_load rfl rfl rfl ?_
    refine E_getr (c := 11) (r := 13) rfl (hL.lt 0 rfl) (hL.k 0 rfl) rfl (hR.C.g 0 4 13 (by decide)) ?_
    refine E_getf (c := 8) (v := (0, (s 32))) rfl (hL.lt 13 rfl) (hL.k 13 rfl) rfl (fv (hR.eve.1)) ?_
    refine E_cmp3 rfl (by omega) (fun q1 => ?_) (fun q1 => ?_)
    · refine E_load rfl rfl rfl ?_
      refine E_if1 rfl (by omega) (fun q2 => ?_) (fun q2 => ?_)
      · refine E_load rfl rfl rfl ?_
        refine E_V0 (q := 0) (c := 11) (y := 137) rfl rfl (hL.lt 0 rfl) (hL.k 0 rfl) rfl rfl rfl rfl (c_sayTried hL hR hG hGi hhi hT) (fun r h2 hq => ?_)
        obtain ⟨rfl, hh⟩ := hq
        subst hh
        refine E_iret rfl (fun h => absurd h (by decide)) ?_
        exact ⟨by rw [if_neg (by omega), show i = (s 32).toNat by omega], c, rfl, EqP.nil⟩
      · refine E_load rfl rfl rfl ?_
        refine E_getr (c := 11) (r := 7) rfl (hL.lt 0 rfl) (hL.k 0 rfl) rfl (hR.C.g 0 2 7 (by decide)) ?_
        refine E_S1 (y := 117) rfl rfl rfl rfl rfl (c_sum (sh7 hL hR.C) hT.1 (by omega)) (fun r h2 hq => ?_)
        obtain ⟨rfl, hh⟩ := hq
        subst hh
        refine E_goto rfl ?_
        refine E_iret rfl (fun h => absurd h (by decide)) ?_
        exact ⟨by rw [if_pos (by omega), show i = (s 32).toNat by omega], c, rfl, EqP.nil⟩
    · exfalso; omega
  | succ n ih =>
    intro i hin   c hR hT
    obtain ⟨hGi, hhi⟩ := dn_inv hA i (by omega)
    have h36i := hhi 36 (by omega)
    refine E_load rfl rfl rfl ?_
    refine E_load rfl rfl rfl ?_
    refine E_getr (c := 11) (r := 13) rfl (hL.lt 0 rfl) (hL.k 0 rfl) rfl (hR.C.g 0 4 13 (by decide)) ?_
    refine E_getf (c := 8) (v := (0, (s 32))) rfl (hL.lt 13 rfl) (hL.k 13 rfl) rfl (fv (hR.eve.1)) ?_
    refine E_cmp3 rfl (by omega) (fun q1 => ?_) (fun q1 => ?_)
    · exfalso; omega
    · obtain ⟨x1, x2, x3, x4⟩ := hA.2.2.2.2.2.2.2.1 i (by omega)
      refine E_load rfl rfl rfl ?_
      refine E_load rfl rfl rfl ?_
      refine E_getr (c := 11) (r := 13) rfl (hL.lt 0 rfl) (hL.k 0 rfl) rfl (hR.C.g 0 4 13 (by decide)) ?_
      refine E_load rfl rfl rfl ?_
      refine E_const rfl ?_
      refine E_V2 (q := 13) (c := 8) (y := 60) rfl rfl (hL.lt 13 rfl) (hL.k 13 rfl) rfl rfl rfl rfl (s_atv (v := s (88 + i)) (sh13 hL hR.C) (by decide) (by decide) (by omega) (by omega) (by rw [hR.eve.1]; omega) (by rw [hR.eve.1]; omega) (atS_of (w := 3) (k := 0) (by rw [hR.eve.1]; omega) (by decide) (by rw [Nat.mul_comm i 3]; exact (hR.eve.2 i (by omega)).1))) (fun r h2 hq => ?_)
      obtain ⟨rfl, hh⟩ := hq
      subst hh
      refine E_load rfl rfl rfl ?_
      refine E_load rfl rfl rfl ?_
      refine E_getr (c := 11) (r := 13) rfl (hL.lt 0 rfl) (hL.k 0 rfl) rfl (hR.C.g 0 4 13 (by decide)) ?_
      refine E_load rfl rfl rfl ?_
      refine E_const rfl ?_
      refine E_V2 (q := 13) (c := 8) (y := 60) rfl rfl (hL.lt 13 rfl) (hL.k 13 rfl) rfl rfl rfl rfl (s_atv (v := s (96 + i)) (sh13 hL hR.C) (by decide) (by decide) (by omega) (by omega) (by rw [hR.eve.1]; omega) (by rw [hR.eve.1]; omega) (atS_of (w := 3) (k := 1) (by rw [hR.eve.1]; omega) (by decide) (by rw [Nat.mul_comm i 3]; exact (hR.eve.2 i (by omega)).2.1))) (fun r h2 hq => ?_)
      obtain ⟨rfl, hh⟩ := hq
      subst hh
      rcases Classical.em (0 ≤ s (96 + i) ∧ s (96 + i) < s 29) with hb | hb
      · obtain ⟨b, hb96⟩ := Int.eq_ofNat_of_zero_le hb.1
        rw [hb96]
        refine E_V1 (q := 0) (c := 11) (y := 120) rfl rfl (hL.lt 0 rfl) (hL.k 0 rfl) rfl rfl rfl rfl (c_bY hL hR (b := b) (by omega)) (fun r h2 hq => ?_)
        obtain ⟨rfl, hh⟩ := hq
        subst hh
        refine E_load rfl rfl rfl ?_
        refine E_getr (c := 11) (r := 13) rfl (hL.lt 0 rfl) (hL.k 0 rfl) rfl (hR.C.g 0 4 13 (by decide)) ?_
        refine E_load rfl rfl rfl ?_
        refine E_const rfl ?_
        refine E_V2 (q := 13) (c := 8) (y := 60) rfl rfl (hL.lt 13 rfl) (hL.k 13 rfl) rfl rfl rfl rfl (s_atv (v := s (104 + i)) (sh13 hL hR.C) (by decide) (by decide) (by omega) (by omega) (by rw [hR.eve.1]; omega) (by rw [hR.eve.1]; omega) (atS_of (w := 3) (k := 2) (by rw [hR.eve.1]; omega) (by decide) (by rw [Nat.mul_comm i 3]; exact (hR.eve.2 i (by omega)).2.2))) (fun r h2 hq => ?_)
        obtain ⟨rfl, hh⟩ := hq
        subst hh
        rcases (show s (88 + i) = 0 ∨ s (88 + i) = 1 ∨ s (88 + i) = 2 ∨ s (88 + i) = 3 by omega) with e8 | e8 | e8 | e8
        · rw [e8]
          refine E_V3 (q := 0) (c := 11) (y := 136) rfl rfl (hL.lt 0 rfl) (hL.k 0 rfl) rfl rfl rfl rfl (c_row0 hL hR hG hGi hhi hT (v2 := (1, ((B b : Nat) : Int))) (v3 := s (104 + i)) rfl) (fun r h2 hq => ?_)
          obtain ⟨rfl, c_1, hh, hT_1, hE_1⟩ := hq
          subst hh
          have hR_1 := hR.scr hE_1
          refine E_iinc rfl rfl rfl ?_
          refine E_goto rfl ?_
          refine (ih (i + 1) (by omega) c_1 hR_1 (by show TryR _ B _ (doS (dnN s i) (s (88 + i)) (s (96 + i)).toNat (s (104 + i)).toNat); rw [e8]; exact hT_1)).mono ?_
          rintro r hE ⟨e1, c9, e2, e3⟩
          exact ⟨e1, c9, e2, EqP.trans hE_1 e3⟩
        · obtain ⟨y, hy⟩ := Int.eq_ofNat_of_zero_le (x3 e8).1
          rw [e8, hy]
          refine E_V3 (q := 0) (c := 11) (y := 136) rfl rfl (hL.lt 0 rfl) (hL.k 0 rfl) rfl rfl rfl rfl (c_row1 hL hR hG hGi hhi hT (b := b) (y := y) (by omega) (by have := (x3 e8).2; omega)) (fun r h2 hq => ?_)
          obtain ⟨rfl, c_2, hh, hT_2, hE_2⟩ := hq
          subst hh
          have hR_2 := hR.scr hE_2
          refine E_iinc rfl rfl rfl ?_
          refine E_goto rfl ?_
          refine (ih (i + 1) (by omega) c_2 hR_2 (by show TryR _ B _ (doS (dnN s i) (s (88 + i)) (s (96 + i)).toNat (s (104 + i)).toNat); rw [e8, hb96, hy]; exact hT_2)).mono ?_
          rintro r hE ⟨e1, c9, e2, e3⟩
          exact ⟨e1, c9, e2, EqP.trans hE_2 e3⟩
        · rw [e8]
          refine E_V3 (q := 0) (c := 11) (y := 136) rfl rfl (hL.lt 0 rfl) (hL.k 0 rfl) rfl rfl rfl rfl (c_row2 hL hR hG hGi hhi hT (b := b) (v3 := s (104 + i)) (by omega)) (fun r h2 hq => ?_)
          obtain ⟨rfl, c_3, hh, hT_3, hE_3⟩ := hq
          subst hh
          have hR_3 := hR.scr hE_3
          refine E_iinc rfl rfl rfl ?_
          refine E_goto rfl ?_
          refine (ih (i + 1) (by omega) c_3 hR_3 (by show TryR _ B _ (doS (dnN s i) (s (88 + i)) (s (96 + i)).toNat (s (104 + i)).toNat); rw [e8, hb96]; exact hT_3)).mono ?_
          rintro r hE ⟨e1, c9, e2, e3⟩
          exact ⟨e1, c9, e2, EqP.trans hE_3 e3⟩
        · rw [e8]
          refine E_V3 (q := 0) (c := 11) (y := 136) rfl rfl (hL.lt 0 rfl) (hL.k 0 rfl) rfl rfl rfl rfl (c_row3 hL hR hG hGi hhi hT (b := b) (v3 := s (104 + i)) (by omega)) (fun r h2 hq => ?_)
          obtain ⟨rfl, c_4, hh, hT_4, hE_4⟩ := hq
          subst hh
          have hR_4 := hR.scr hE_4
          refine E_iinc rfl rfl rfl ?_
          refine E_goto rfl ?_
          refine (ih (i + 1) (by omega) c_4 hR_4 (by show TryR _ B _ (doS (dnN s i) (s (88 + i)) (s (96 + i)).toNat (s (104 + i)).toNat); rw [e8, hb96]; exact hT_4)).mono ?_
          rintro r hE ⟨e1, c9, e2, e3⟩
          exact ⟨e1, c9, e2, EqP.trans hE_4 e3⟩
      · refine E_V1 (q := 0) (c := 11) (y := 120) rfl rfl (hL.lt 0 rfl) (hL.k 0 rfl) rfl rfl rfl rfl (c_bN hL hR (by omega) n29.1 hb) (fun r h2 hq => ?_)
        obtain ⟨rfl, hh⟩ := hq
        subst hh
        refine E_load rfl rfl rfl ?_
        refine E_getr (c := 11) (r := 13) rfl (hL.lt 0 rfl) (hL.k 0 rfl) rfl (hR.C.g 0 4 13 (by decide)) ?_
        refine E_load rfl rfl rfl ?_
        refine E_const rfl ?_
        refine E_V2 (q := 13) (c := 8) (y := 60) rfl rfl (hL.lt 13 rfl) (hL.k 13 rfl) rfl rfl rfl rfl (s_atv (v := s (104 + i)) (sh13 hL hR.C) (by decide) (by decide) (by omega) (by omega) (by rw [hR.eve.1]; omega) (by rw [hR.eve.1]; omega) (atS_of (w := 3) (k := 2) (by rw [hR.eve.1]; omega) (by decide) (by rw [Nat.mul_comm i 3]; exact (hR.eve.2 i (by omega)).2.2))) (fun r h2 hq => ?_)
        obtain ⟨rfl, hh⟩ := hq
        subst hh
        have e8 : s (88 + i) = 0 := by
          by_cases e : s (88 + i) = 0
          · exact e
          · exact absurd (x2 e) hb
        rw [e8]
        refine E_V3 (q := 0) (c := 11) (y := 136) rfl rfl (hL.lt 0 rfl) (hL.k 0 rfl) rfl rfl rfl rfl (c_row0 hL hR hG hGi hhi hT (v2 := (1, -1)) (v3 := s (104 + i)) rfl) (fun r h2 hq => ?_)
        obtain ⟨rfl, c_5, hh, hT_5, hE_5⟩ := hq
        subst hh
        have hR_5 := hR.scr hE_5
        refine E_iinc rfl rfl rfl ?_
        refine E_goto rfl ?_
        refine (ih (i + 1) (by omega) c_5 hR_5 (by show TryR _ B _ (doS (dnN s i) (s (88 + i)) (s (96 + i)).toNat (s (104 + i)).toNat); rw [e8]; exact hT_5)).mono ?_
        rintro r hE ⟨e1, c9, e2, e3⟩
        exact ⟨e1, c9, e2, EqP.trans hE_5 e3⟩
set_option maxHeartbeats 4000000 in
set_option maxRecDepth 100000 in
theorem Cl_done {d : Nat} {h : Hp} {B : Nat → Nat} {s im : Nat → Int} {hi : Int} {L : List Int} (hL : Lay h) (hG : InvG s) (hA : Inv s) {w : Int} (hw : inR w) : ∀ (n i : Nat), i + n = (s 29).toNat → ∀ c, RepC h c B s im hi L → (∀ b : Nat, b < i → LaidS c (B b + 5) s b) → MoodR (c 7 3) (c 8) s → Ex (d + 14) none t_X10_done 0 26 [(1, ((0 : Nat) : Int)), (0, w), (0, (i : Int))] [] (wC h c) (fun r h2 => r = some (0, if w = 0 then amS (dnN s (s 32).toNat) else alS (dnN s (s 32).toNat)) ∧ ∃ c2, h2 = wC h c2 ∧ EqP (ScrP B (s 29)) c c2) := by
  have hGG := hG
  obtain ⟨hI, hH, ⟨⟨n29, n30, n31, n32, n33, n34, n36⟩, nM⟩⟩ := hGG
  intro n
  induction n with
  | zero =>
    intro i hin   c hR hd hM
    refine E_load rfl rfl rfl ?_
    refine E_load rfl rfl rfl ?_
    refine E_getr (c := 11) (r := 42) rfl (hL.lt 0 rfl) (hL.k 0 rfl) rfl (hR.C.g 0 11 42 (by decide)) ?_
    refine E_V0 (q := 42) (c := 0) (y := 3) rfl rfl (hL.lt 42 rfl) (hL.k 42 rfl) rfl rfl rfl rfl (j_size hL hR.list) (fun r h2 hq => ?_)
    obtain ⟨rfl, hh⟩ := hq
    subst hh
    refine E_cmp3 rfl (by omega) (fun q1 => ?_) (fun q1 => ?_)
    · refine E_const rfl ?_
      refine E_store rfl rfl rfl ?_
      exact Cl_rows hL hG hA hw _ 0 (Nat.zero_add _) c hR ⟨hM, fun b hb => hd b (by omega)⟩
    · exfalso; omega
  | succ n ih =>
    intro i hin   c hR hd hM
    refine E_load rfl rfl rfl ?_
    refine E_load rfl rfl rfl ?_
    refine E_getr (c := 11) (r := 42) rfl (hL.lt 0 rfl) (hL.k 0 rfl) rfl (hR.C.g 0 11 42 (by decide)) ?_
    refine E_V0 (q := 42) (c := 0) (y := 3) rfl rfl (hL.lt 42 rfl) (hL.k 42 rfl) rfl rfl rfl rfl (j_size hL hR.list) (fun r h2 hq => ?_)
    obtain ⟨rfl, hh⟩ := hq
    subst hh
    refine E_cmp3 rfl (by omega) (fun q1 => ?_) (fun q1 => ?_)
    · exfalso; omega
    · refine E_load rfl rfl rfl ?_
      refine E_getr (c := 11) (r := 42) rfl (hL.lt 0 rfl) (hL.k 0 rfl) rfl (hR.C.g 0 11 42 (by decide)) ?_
      refine E_load rfl rfl rfl ?_
      refine E_V1 (q := 42) (c := 0) (y := 5) rfl rfl (hL.lt 42 rfl) (hL.k 42 rfl) rfl rfl rfl rfl (j_get hL hR.list (by omega)) (fun r h2 hq => ?_)
      obtain ⟨rfl, hh⟩ := hq
      subst hh
      refine E_castB rfl (show (B i) < mN h by have := (hR.bot i (by omega)).1.1.1; omega) (hR.bot i (by omega)).1.isB ?_
      refine E_V0 (q := (B i)) (c := (mK h (B i))) (y := 13) rfl rfl (show (B i) < mN h by have := (hR.bot i (by omega)).1.1.1; omega) rfl (by have e := (hR.bot i (by omega)).1.isB; rcases e with e | e | e | e | e | e | e <;> rw [e] <;> rfl) rfl rfl rfl (c_nowP hR hG (b := i) (by omega)) (fun r h2 hq => ?_)
      obtain ⟨rfl, c_1, hh, hX_1, hP_1⟩ := hq
      subst hh
      have hE_1 : EqP (ScrP B (s 29)) c c_1 := hP_1.mono (scr_PT (b := i) (by omega))
      have hR_1 := hR.scr hE_1
      refine E_pop rfl rfl ?_
      refine E_iinc rfl rfl rfl ?_
      refine E_goto rfl ?_
      refine (ih (i + 1) (by omega) c_1 hR_1 (fun b hb => ?_) (mood_oth hR (b := i) (by omega) hP_1 hM)).mono ?_
      · by_cases e : b = i
        · subst e; exact hX_1
        · exact laid_oth hR (b := i) (by omega) (by omega) e hP_1 (hd b (by omega))
      rintro r hE ⟨e1, c9, e2, e3⟩
      exact ⟨e1, c9, e2, EqP.trans hE_1 e3⟩
set_option maxHeartbeats 4000000 in
set_option maxRecDepth 100000 in
theorem C_done {d : Nat} {h : Hp} {c : Nat → Nat → Int} {B : Nat → Nat} {s im : Nat → Int} {hi : Int} {L : List Int} (hL : Lay h) (hR : RepC h c B s im hi L) (hA : Inv s) {w : Int} (hw : inR w) : Ok (d + 14) 102 [(1, ((0 : Nat) : Int)), (0, w)] (wC h c) (fun r h2 => r = some (0, a_done s w) ∧ ∃ c2, h2 = wC h c2 ∧ EqP (ScrP B (s 29)) c c2) := by
  show Ex _ none t_X10_done 0 0 _ [] (wC h c) _
  have hAA := hA
  have hG := hA.G
  obtain ⟨hI, hH, ⟨⟨n29, n30, n31, n32, n33, n34, n36⟩, nM⟩, hX⟩ := hA
  refine E_load rfl rfl rfl ?_
  refine E_const rfl ?_
  refine E_const rfl ?_
  refine E_S3 (y := 111) rfl rfl rfl rfl rfl (c_within (by omega) (by omega) (by omega)) (fun r h2 hq => ?_)
  obtain ⟨rfl, hh⟩ := hq
  subst hh
  refine E_if1 rfl (bI_R _) (fun q1 => ?_) (fun q1 => ?_)
  · replace q1 := bI_nz q1
    refine E_load rfl rfl rfl ?_
    refine E_getr (c := 11) (r := 7) rfl (hL.lt 0 rfl) (hL.k 0 rfl) rfl (hR.C.g 0 2 7 (by decide)) ?_
    refine E_load rfl rfl rfl ?_
    refine E_getr (c := 11) (r := 4) rfl (hL.lt 0 rfl) (hL.k 0 rfl) rfl (hR.C.g 0 1 4 (by decide)) ?_
    refine E_V1 (q := 7) (c := 8) (y := 63) rfl rfl (hL.lt 7 rfl) (hL.k 7 rfl) rfl rfl rfl rfl (s_copyFrom (sh7 hL hR.C) (by decide) (by decide) (sh4 hL hR.C) (by omega)) (fun r h2 hq => ?_)
    obtain ⟨rfl, c_1, hh, hC3_1, hC8_1, hE0_1⟩ := hq
    subst hh
    have hE_1 : EqP (ScrP B (s 29)) c c_1 := hE0_1.mono (fun a k e => Or.inl (by unfold fixS; omega))
    have hR_1 := hR.scr hE_1
    have hM_1 : MoodR (c_1 7 3) (c_1 8) s := ⟨hC3_1.trans hR.mood.1, fun j hj => (hC8_1 j (by omega)).trans (hR.mood.2 j hj)⟩
    refine E_const rfl ?_
    refine E_store rfl rfl rfl ?_
    refine (Cl_done hL hG hAA hw _ 0 (Nat.zero_add _) c_1 hR_1 (fun b hb => absurd hb (Nat.not_lt_zero b)) hM_1).mono ?_
    rintro r hE ⟨rfl, c9, rfl, e3⟩
    refine qryc ?_ (EqP.trans hE_1 e3)
    unfold a_done
    try simp only [Int.toNat_natCast]
    rw [if_neg (by omega)]
  · replace q1 := bI_z q1
    refine E_const rfl ?_
    refine E_iret rfl (fun h => absurd h (by decide)) ?_
    refine qryc ?_ EqP.nil
    unfold a_done
    try simp only [Int.toNat_natCast]
    first | (exfalso; omega) | (rw [if_pos (by omega)] <;> rfl) | (rw [if_neg (by omega), if_pos (by omega)] <;> rfl) | (rw [if_neg (by omega)] <;> rfl) | (rw [if_neg (by omega), if_neg (by omega), if_pos (by omega)] <;> rfl) | (rw [if_neg (by omega), if_neg (by omega)] <;> rfl) | (rw [if_neg (by omega), if_neg (by omega), if_neg (by omega), if_pos (by omega)] <;> rfl) | (rw [if_neg (by omega), if_neg (by omega), if_neg (by omega)] <;> rfl) | (rw [if_neg (by omega), if_neg (by omega), if_neg (by omega), if_neg (by omega), if_pos (by omega)] <;> rfl) | (rw [if_neg (by omega), if_neg (by omega), if_neg (by omega), if_neg (by omega)] <;> rfl) | (rw [if_neg (by omega), if_neg (by omega), if_neg (by omega), if_neg (by omega), if_neg (by omega), if_pos (by omega)] <;> rfl) | (rw [if_neg (by omega), if_neg (by omega), if_neg (by omega), if_neg (by omega), if_neg (by omega)] <;> rfl) | (rw [if_neg (by omega), if_neg (by omega), if_neg (by omega), if_neg (by omega), if_neg (by omega), if_neg (by omega), if_pos (by omega)] <;> rfl) | (rw [if_neg (by omega), if_neg (by omega), if_neg (by omega), if_neg (by omega), if_neg (by omega), if_neg (by omega)] <;> rfl)
