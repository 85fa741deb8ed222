theorem doS1t {t : Nat → Int} {b y : Nat} (h : t (19 + b) = 0) : doS t 1 b ((y : Nat) : Int).toNat = poS t b y := by
  unfold doS
  rw [if_neg (by decide), if_pos rfl, if_pos h]
  rfl
theorem doS1f {t : Nat → Int} {b y : Nat} (h : t (19 + b) ≠ 0) : doS t 1 b ((y : Nat) : Int).toNat = t := by
  unfold doS
  rw [if_neg (by decide), if_pos rfl, if_neg h]
set_option maxHeartbeats 4000000 in
set_option maxRecDepth 100000 in
theorem Cl_age {d : Nat} {h : Hp} {B : Nat → Nat} {s im : Nat → Int} {hi : Int} {L : List Int} (hL : Lay h) (hG : InvG s) {t : Nat → Int} (hGt : InvG t) (hte : ∀ k, 29 ≤ k → t k = s k) {v2 : AV} {v3 : Int} : ∀ (n i : Nat), i + n = (s 29).toNat → ∀ c, RepC h c B s im hi L → (∀ b : Nat, b < i → LaidS c (B b + 5) (goS t) b) → (∀ b : Nat, i ≤ b → (b : Int) < s 29 → LaidS c (B b + 5) t b) → MoodR (c 7 3) (c 8) t → Ex (d + 9) none t_X10_tryRow 0 7 [(1, ((0 : Nat) : Int)), (0, 0), v2, (0, v3), (0, (i : Int))] [] (wC h c) (fun r h2 => r = none ∧ ∃ c2, h2 = wC h c2 ∧ TryR c2 B (s 29) (goS t) ∧ EqP (ScrP B (s 29)) c c2) := by
  have hGG := hG
  obtain ⟨hI, hH, ⟨⟨n29, n30, n31, n32, n33, n34, n36⟩, nM⟩⟩ := hGG
  have t29 := hte 29 (by omega)
  intro n
  induction n with
  | zero =>
    intro i hin   c hR hd hu hM
    refine E_load rfl rfl rfl ?_
    refine E_load rfl rfl rfl ?_
    refine E_getr (c := 11) (r := 42) rfl (hL.lt 0 rfl) (hL.k 0 rfl) rfl (hR.C.g 0 11 42 (by decide)) ?_
    refine E_V0 (q := 42) (c := 0) (y := 3) rfl rfl (hL.lt 42 rfl) (hL.k 42 rfl) rfl rfl rfl rfl (j_size hL hR.list) (fun r h2 hq => ?_)
    obtain ⟨rfl, hh⟩ := hq
    subst hh
    refine E_cmp3 rfl (by omega) (fun q1 => ?_) (fun q1 => ?_)
    · refine E_load rfl rfl rfl ?_
      refine E_load rfl rfl rfl ?_
      refine E_getr (c := 11) (r := 7) rfl (hL.lt 0 rfl) (hL.k 0 rfl) rfl (hR.C.g 0 2 7 (by decide)) ?_
      refine E_const rfl ?_
      refine E_V2 (q := 0) (c := 11) (y := 128) rfl rfl (hL.lt 0 rfl) (hL.k 0 rfl) rfl rfl rfl rfl (c_calmT (m := 1) hL hR hGt (tlI_ofE hte hH (by omega)) (sh7 hL hR.C) hM (by omega)) (fun r h2 hq => ?_)
      obtain ⟨rfl, c_1, hh, hX_1, hP_1⟩ := hq
      subst hh
      have hE_1 : EqP (ScrP B (s 29)) c c_1 := hP_1.mono (fun a k e => Or.inl (by unfold fixS; omega))
      have hR_1 := hR.scr hE_1
      refine E_goto rfl ?_
      refine E_vret rfl ?_
      refine ⟨rfl, c_1, rfl, ⟨hX_1, fun b hb => ?_⟩, hE_1⟩
      have h55 := (hR.bot b hb).2.2
      exact (hd b (by omega)).ofE (fun k => hP_1 _ k (by omega)) (fun k => hP_1 _ k (by omega))
    · exfalso; omega
  | succ n ih =>
    intro i hin   c hR hd hu hM
    refine E_load rfl rfl rfl ?_
    refine E_load rfl rfl rfl ?_
    refine E_getr (c := 11) (r := 42) rfl (hL.lt 0 rfl) (hL.k 0 rfl) rfl (hR.C.g 0 11 42 (by decide)) ?_
    refine E_V0 (q := 42) (c := 0) (y := 3) rfl rfl (hL.lt 42 rfl) (hL.k 42 rfl) rfl rfl rfl rfl (j_size hL hR.list) (fun r h2 hq => ?_)
    obtain ⟨rfl, hh⟩ := hq
    subst hh
    refine E_cmp3 rfl (by omega) (fun q1 => ?_) (fun q1 => ?_)
    · exfalso; omega
    · refine E_load rfl rfl rfl ?_
      refine E_getr (c := 11) (r := 42) rfl (hL.lt 0 rfl) (hL.k 0 rfl) rfl (hR.C.g 0 11 42 (by decide)) ?_
      refine E_load rfl rfl rfl ?_
      refine E_V1 (q := 42) (c := 0) (y := 5) rfl rfl (hL.lt 42 rfl) (hL.k 42 rfl) rfl rfl rfl rfl (j_get hL hR.list (by omega)) (fun r h2 hq => ?_)
      obtain ⟨rfl, hh⟩ := hq
      subst hh
      refine E_castB rfl (show (B i) < mN h by have := (hR.bot i (by omega)).1.1.1; omega) (hR.bot i (by omega)).1.isB ?_
      refine E_getrB (r := (B i + 5)) rfl (show (B i) < mN h by have := (hR.bot i (by omega)).1.1.1; omega) (hR.bot i (by omega)).1.isB rfl ((hR.bot i (by omega)).1.2.1.2.2.2.2.2) ?_
      refine E_const rfl ?_
      refine E_V1 (q := (B i + 5)) (c := 6) (y := 52) rfl rfl (show (B i + 5) < mN h by have := (hR.bot i (by omega)).1.1.1; omega) (hR.bot i (by omega)).1.2.2.2.2.2.1 rfl rfl rfl rfl (c_ageP (n := 1) hR hGt (b := i) (by omega) (by omega) (by omega) (hu i (by omega) (by omega))) (fun r h2 hq => ?_)
      obtain ⟨rfl, c_1, hh, hX_1, hP_1⟩ := hq
      subst hh
      have hE_1 : EqP (ScrP B (s 29)) c c_1 := hP_1.mono (scr_PT (b := i) (by omega))
      have hR_1 := hR.scr hE_1
      refine E_iinc rfl rfl rfl ?_
      refine E_goto rfl ?_
      refine (ih (i + 1) (by omega) c_1 hR_1 (fun b hb => ?_) (fun b hb hb2 => ?_) (mood_oth hR (b := i) (by omega) hP_1 hM)).mono ?_
      · by_cases e : b = i
        · subst e; exact hX_1
        · exact laid_oth hR (b := i) (by omega) (by omega) e hP_1 (hd b (by omega))
      · exact laid_oth hR (b := i) (by omega) hb2 (by omega) hP_1 (hu b (by omega) hb2)
      rintro r hE ⟨e1, c9, e2, e4, e3⟩
      exact ⟨e1, c9, e2, e4, EqP.trans hE_1 e3⟩
set_option maxHeartbeats 4000000 in
set_option maxRecDepth 100000 in
theorem c_row0 {d : Nat} {h : Hp} {c : Nat → Nat → Int} {B : Nat → Nat} {s im : Nat → Int} {hi : Int} {L : List Int} (hL : Lay h) (hR : RepC h c B s im hi L) (hG : InvG s) {t : Nat → Int} (hGt : InvG t) (hte : ∀ k, 29 ≤ k → t k = s k) (hT : TryR c B (s 29) t) {v2 : AV} {v3 : Int} (hv2 : v2.1 = 1) : Ok (d + 9) 136 [(1, ((0 : Nat) : Int)), (0, 0), v2, (0, v3)] (wC h c) (fun r h2 => r = none ∧ ∃ c2, h2 = wC h c2 ∧ TryR c2 B (s 29) (goS t) ∧ EqP (ScrP B (s 29)) c c2) := by
  show Ex _ none t_X10_tryRow 0 0 _ [] (wC h c) _
  obtain ⟨v2a, v2b⟩ := v2
  obtain rfl : v2a = 1 := hv2
  refine E_load rfl rfl rfl ?_
  refine E_if1 rfl (by omega) (fun q1 => ?_) (fun q1 => ?_)
  · exfalso; omega
  · refine E_const rfl ?_
    refine E_store rfl rfl rfl ?_
    exact Cl_age hL hG hGt hte _ 0 (Nat.zero_add _) c hR (fun b hb => absurd hb (Nat.not_lt_zero b)) (fun b _ hb => hT.2 b hb) hT.1
set_option maxHeartbeats 4000000 in
set_option maxRecDepth 100000 in
theorem c_row1 {d : Nat} {h : Hp} {c : Nat → Nat → Int} {B : Nat → Nat} {s im : Nat → Int} {hi : Int} {L : List Int} (hL : Lay h) (hR : RepC h c B s im hi L) (hG : InvG s) {t : Nat → Int} (hGt : InvG t) (hte : ∀ k, 29 ≤ k → t k = s k) (hT : TryR c B (s 29) t) {b y : Nat} (hb : (b : Int) < s 29) (hy : (y : Int) < s 36) : Ok (d + 10) 136 [(1, ((0 : Nat) : Int)), (0, 1), (1, ((B b : Nat) : Int)), (0, (y : Int))] (wC h c) (fun r h2 => r = none ∧ ∃ c2, h2 = wC h c2 ∧ TryR c2 B (s 29) (doS t 1 b (y : Int).toNat) ∧ EqP (ScrP B (s 29)) c c2) := by
  show Ex _ none t_X10_tryRow 0 0 _ [] (wC h c) _
  have hGG := hG
  obtain ⟨hI, hH, ⟨⟨n29, n30, n31, n32, n33, n34, n36⟩, nM⟩⟩ := hGG
  have t29 := hte 29 (by omega)
  have t36 := hte 36 (by omega)
  have h55 := (hR.bot b hb).2.2
  obtain ⟨j1, j2, j3, j4, -⟩ := hGt.1 b (by omega)
  have hm := hT.1
  have hbs := hGt.bs (b := b) (by omega)
  have hmk := hGt.2.2.2 y (by omega)
  refine E_load rfl rfl rfl ?_
  refine E_if1 rfl (by omega) (fun q1 => ?_) (fun q1 => ?_)
  · refine E_load rfl rfl rfl ?_
    refine E_null0 rfl (fun q2 => ?_) (fun q2 => ?_)
    · exfalso; omega
    · refine E_load rfl rfl rfl ?_
      refine E_const rfl ?_
      refine E_cmp1 rfl (by omega) (fun q3 => ?_) (fun q3 => ?_)
      · exfalso; omega
      · refine E_load rfl rfl rfl ?_
        refine E_getrB (r := (B b + 5)) rfl (show (B b) < mN h by have := (hR.bot b (by omega)).1.1.1; omega) (hR.bot b (by omega)).1.isB rfl ((hR.bot b (by omega)).1.2.1.2.2.2.2.2) ?_
        refine E_getf (c := 6) (v := (0, (t (19 + b)))) rfl (show (B b + 5) < mN h by have := (hR.bot b (by omega)).1.1.1; omega) (hR.bot b (by omega)).1.2.2.2.2.2.1 rfl (fv ((hT.2 b hb).1.2.2.2.2)) ?_
        refine E_if1 rfl (by omega) (fun q4 => ?_) (fun q4 => ?_)
        · refine E_load rfl rfl rfl ?_
          refine E_null0 rfl (fun q5 => ?_) (fun q5 => ?_)
          · exfalso; omega
          · refine E_load rfl rfl rfl ?_
            refine E_const rfl ?_
            refine E_cmp1 rfl (by omega) (fun q6 => ?_) (fun q6 => ?_)
            · refine E_load rfl rfl rfl ?_
              refine E_null0 rfl (fun q7 => ?_) (fun q7 => ?_)
              · exfalso; omega
              · refine E_load rfl rfl rfl ?_
                refine E_const rfl ?_
                refine E_cmp1 rfl (by omega) (fun q8 => ?_) (fun q8 => ?_)
                · refine E_vret rfl ?_
                  refine ⟨rfl, c, rfl, ?_, EqP.nil⟩
                  rw [doS1f (by assumption)]
                  exact hT
                · exfalso; omega
            · exfalso; omega
        · refine E_load rfl rfl rfl ?_
          refine E_getr (c := 11) (r := 7) rfl (hL.lt 0 rfl) (hL.k 0 rfl) rfl (hR.C.g 0 2 7 (by decide)) ?_
          refine E_load rfl rfl rfl ?_
          refine E_load rfl rfl rfl ?_
          refine E_load rfl rfl rfl ?_
          refine E_load rfl rfl rfl ?_
          refine E_getrB (r := (B b + 5)) rfl (show (B b) < mN h by have := (hR.bot b (by omega)).1.1.1; omega) (hR.bot b (by omega)).1.isB rfl ((hR.bot b (by omega)).1.2.1.2.2.2.2.2) ?_
          refine E_V2 (q := 0) (c := 11) (y := 122) rfl rfl (hL.lt 0 rfl) (hL.k 0 rfl) rfl rfl rfl rfl (c_sayT hL hR hG hGt (b := b) hb (hT.2 b hb) (fun k hk _ => hte k hk) (hte _ (by omega))) (fun r h2 hq => ?_)
          obtain ⟨rfl, hh⟩ := hq
          subst hh
          refine E_S3 (y := 127) rfl rfl rfl rfl rfl (c_lift (sh7 hL hR.C) hm (by omega) (by omega) (by omega) hmk) (fun r h2 hq => ?_)
          obtain ⟨rfl, c_1, hh, hc_1⟩ := hq
          subst hh
          have hE_1 : EqP (ScrP B (s 29)) c c_1 := by rw [hc_1]; exact EqP.up (Or.inl (by unfold fixS; omega))
          have hR_1 := hR.scr hE_1
          refine E_pop rfl rfl ?_
          refine E_load rfl rfl rfl ?_
          refine E_getrB (r := (B b + 5)) rfl (show (B b) < mN h by have := (hR_1.bot b (by omega)).1.1.1; omega) (hR_1.bot b (by omega)).1.isB rfl ((hR_1.bot b (by omega)).1.2.1.2.2.2.2.2) ?_
          refine E_const rfl ?_
          refine E_putzg (cl := 6) rfl (show (B b + 5) < mN h by have := (hR_1.bot b (by omega)).1.1.1; omega) (hR_1.bot b (by omega)).1.2.2.2.2.2.1 rfl (by decide) (fun c_2 hc_2 => ?_)
          have hE_2 : EqP (ScrP B (s 29)) c_1 c_2 := by rw [hc_2]; exact EqP.up (scr_try (b := b) (by omega) _ _ (by omega))
          have hfBbp5_5_2 : c_2 (B b + 5) 5 = 1 := by rw [hc_2]; exact up2_same
          have hR_2 := hR_1.scr hE_2
          refine E_goto rfl ?_
          refine E_vret rfl ?_
          refine ⟨rfl, c_2, rfl, ⟨?_, fun b2 hb2 => ?_⟩, (hE_1.trans hE_2)⟩
          · rw [doS1t (by assumption)]
            refine ⟨?_, fun k hk => ?_⟩
            · rw [hc_2, up2_fldN (by omega), hc_1, up2_fldN (by omega), hm.1]; exact ((upd1_ne (by omega)).trans (upd1_ne (by omega))).symm
            · rw [hc_2, up2_fldN (by omega), hc_1]
              unfold poS brS at hk ⊢
              rw [upd1_ne (by omega), upd1_ne (by omega)] at hk
              rw [upd1_ne (show 25 + k ≠ 19 + b by omega)]
              unfold upd1
              by_cases e : k = y
              · rw [if_pos (by omega), e]; exact up2_same
              · rw [if_neg (by omega), up2_fldN (by omega)]; exact hm.2 k hk
          · rw [doS1t (by assumption)]
            have hlb : ∀ b3 : Nat, (b3 : Int) < s 29 → LaidS c_1 (B b3 + 5) (brS t y (syS t b)) b3 := fun b3 hb3 => by
              have h53 := (hR.bot b3 hb3).2.2
              refine LaidS.ofT ((hT.2 b3 hb3).ofE (fun k => by rw [hc_1]; exact up2_fldN (by omega)) (fun k => by rw [hc_1]; exact up2_fldN (by omega))) (fun k hk => upd1_ne (by omega))
            by_cases e : b2 = b
            · subst e
              rw [hc_2]
              exact laid_e (by omega) (hlb b2 hb2)
            · have hd := hR.dis b2 b hb2 hb e
              refine LaidS.ofT ((hlb b2 hb2).ofE (fun k => by rw [hc_2]; exact up2_fldN (by omega)) (fun k => by rw [hc_2]; exact up2_fldN (by omega))) (fun k hk => upd1_ne (by omega))
  · exfalso; omega
set_option maxHeartbeats 4000000 in
set_option maxRecDepth 100000 in
theorem c_row2 {d : Nat} {h : Hp} {c : Nat → Nat → Int} {B : Nat → Nat} {s im : Nat → Int} {hi : Int} {L : List Int} (hL : Lay h) (hR : RepC h c B s im hi L) (hG : InvG s) {t : Nat → Int} (hGt : InvG t) (hte : ∀ k, 29 ≤ k → t k = s k) (hT : TryR c B (s 29) t) {b : Nat} {v3 : Int} (hb : (b : Int) < s 29) : Ok (d + 9) 136 [(1, ((0 : Nat) : Int)), (0, 2), (1, ((B b : Nat) : Int)), (0, v3)] (wC h c) (fun r h2 => r = none ∧ ∃ c2, h2 = wC h c2 ∧ TryR c2 B (s 29) (doS t 2 b v3.toNat) ∧ EqP (ScrP B (s 29)) c c2) := by
  show Ex _ none t_X10_tryRow 0 0 _ [] (wC h c) _
  have hGG := hG
  obtain ⟨hI, hH, ⟨⟨n29, n30, n31, n32, n33, n34, n36⟩, nM⟩⟩ := hGG
  have t29 := hte 29 (by omega)
  have t36 := hte 36 (by omega)
  have h55 := (hR.bot b hb).2.2
  obtain ⟨j1, j2, j3, j4, -⟩ := hGt.1 b (by omega)
  have hm := hT.1
  refine E_load rfl rfl rfl ?_
  refine E_if1 rfl (by omega) (fun q1 => ?_) (fun q1 => ?_)
  · refine E_load rfl rfl rfl ?_
    refine E_null0 rfl (fun q2 => ?_) (fun q2 => ?_)
    · exfalso; omega
    · refine E_load rfl rfl rfl ?_
      refine E_const rfl ?_
      refine E_cmp1 rfl (by omega) (fun q3 => ?_) (fun q3 => ?_)
      · refine E_load rfl rfl rfl ?_
        refine E_null0 rfl (fun q4 => ?_) (fun q4 => ?_)
        · exfalso; omega
        · refine E_load rfl rfl rfl ?_
          refine E_const rfl ?_
          refine E_cmp1 rfl (by omega) (fun q5 => ?_) (fun q5 => ?_)
          · exfalso; omega
          · refine E_load rfl rfl rfl ?_
            refine E_getrB (r := (B b + 5)) rfl (show (B b) < mN h by have := (hR.bot b (by omega)).1.1.1; omega) (hR.bot b (by omega)).1.isB rfl ((hR.bot b (by omega)).1.2.1.2.2.2.2.2) ?_
            refine E_load rfl rfl rfl ?_
            refine E_getrB (r := (B b + 5)) rfl (show (B b) < mN h by have := (hR.bot b (by omega)).1.1.1; omega) (hR.bot b (by omega)).1.isB rfl ((hR.bot b (by omega)).1.2.1.2.2.2.2.2) ?_
            refine E_getf (c := 6) (v := (0, (t (13 + b)))) rfl (show (B b + 5) < mN h by have := (hR.bot b (by omega)).1.1.1; omega) (hR.bot b (by omega)).1.2.2.2.2.2.1 rfl (fv ((hT.2 b hb).1.2.2.2.1)) ?_
            refine E_const rfl ?_
            refine E_add rfl ?_
            refine E_const rfl ?_
            refine E_rem rfl (by omega) (by omega) (by omega) ?_
            refine E_putg (cl := 6) rfl (show (B b + 5) < mN h by have := (hR.bot b (by omega)).1.1.1; omega) (hR.bot b (by omega)).1.2.2.2.2.2.1 rfl (fun c_1 hc_1 => ?_)
            have hE_1 : EqP (ScrP B (s 29)) c c_1 := by rw [hc_1]; exact EqP.up (scr_try (b := b) (by omega) _ _ (by omega))
            have hfBbp5_5_1 : c_1 (B b + 5) 5 = (t (19 + b)) := by rw [hc_1]; exact (up2_fldN (by omega)).trans ((hT.2 b hb).1.2.2.2.2)
            have hfBbp5_4_1 : c_1 (B b + 5) 4 = (((t (13 + b)) + 1).tmod 4) := by rw [hc_1]; exact up2_same
            have hR_1 := hR.scr hE_1
            refine E_goto rfl ?_
            refine E_vret rfl ?_
            refine ⟨rfl, c_1, rfl, ⟨?_, fun b2 hb2 => ?_⟩, hE_1⟩
            · refine ⟨?_, fun k hk => ?_⟩
              · rw [hc_1, up2_fldN (by omega), hm.1]; exact (upd1_ne (by omega)).symm
              · rw [hc_1, up2_fldN (by omega)]
                have hk2 : (k : Int) < t 36 := by rw [← show upd1 t (13 + b) ((t (13 + b) + 1).tmod 4) 36 = t 36 from upd1_ne (by omega)]; exact hk
                exact (hm.2 k hk2).trans (upd1_ne (by omega)).symm
            · by_cases e : b2 = b
              · subst e
                rw [hc_1]
                exact laid_q (by omega) (hT.2 b2 hb2)
              · have hd := hR.dis b2 b hb2 hb e
                exact LaidS.ofT ((hT.2 b2 hb2).ofE (fun k => by rw [hc_1]; exact up2_fldN (by omega)) (fun k => by rw [hc_1]; exact up2_fldN (by omega))) (fun k hk => upd1_ne (by omega))
      · exfalso; omega
  · exfalso; omega
set_option maxHeartbeats 4000000 in
set_option maxRecDepth 100000 in
theorem c_row3 {d : Nat} {h : Hp} {c : Nat → Nat → Int} {B : Nat → Nat} {s im : Nat → Int} {hi : Int} {L : List Int} (hL : Lay h) (hR : RepC h c B s im hi L) (hG : InvG s) {t : Nat → Int} (hGt : InvG t) (hte : ∀ k, 29 ≤ k → t k = s k) (hT : TryR c B (s 29) t) {b : Nat} {v3 : Int} (hb : (b : Int) < s 29) : Ok (d + 9) 136 [(1, ((0 : Nat) : Int)), (0, 3), (1, ((B b : Nat) : Int)), (0, v3)] (wC h c) (fun r h2 => r = none ∧ ∃ c2, h2 = wC h c2 ∧ TryR c2 B (s 29) (doS t 3 b v3.toNat) ∧ EqP (ScrP B (s 29)) c c2) := by
  show Ex _ none t_X10_tryRow 0 0 _ [] (wC h c) _
  have hGG := hG
  obtain ⟨hI, hH, ⟨⟨n29, n30, n31, n32, n33, n34, n36⟩, nM⟩⟩ := hGG
  have t29 := hte 29 (by omega)
  have t36 := hte 36 (by omega)
  have h55 := (hR.bot b hb).2.2
  obtain ⟨j1, j2, j3, j4, -⟩ := hGt.1 b (by omega)
  have hm := hT.1
  refine E_load rfl rfl rfl ?_
  refine E_if1 rfl (by omega) (fun q1 => ?_) (fun q1 => ?_)
  · refine E_load rfl rfl rfl ?_
    refine E_null0 rfl (fun q2 => ?_) (fun q2 => ?_)
    · exfalso; omega
    · refine E_load rfl rfl rfl ?_
      refine E_const rfl ?_
      refine E_cmp1 rfl (by omega) (fun q3 => ?_) (fun q3 => ?_)
      · refine E_load rfl rfl rfl ?_
        refine E_null0 rfl (fun q4 => ?_) (fun q4 => ?_)
        · exfalso; omega
        · refine E_load rfl rfl rfl ?_
          refine E_const rfl ?_
          refine E_cmp1 rfl (by omega) (fun q5 => ?_) (fun q5 => ?_)
          · refine E_load rfl rfl rfl ?_
            refine E_null0 rfl (fun q6 => ?_) (fun q6 => ?_)
            · exfalso; omega
            · refine E_load rfl rfl rfl ?_
              refine E_const rfl ?_
              refine E_cmp1 rfl (by omega) (fun q7 => ?_) (fun q7 => ?_)
              · exfalso; omega
              · refine E_load rfl rfl rfl ?_
                refine E_getrB (r := (B b + 5)) rfl (show (B b) < mN h by have := (hR.bot b (by omega)).1.1.1; omega) (hR.bot b (by omega)).1.isB rfl ((hR.bot b (by omega)).1.2.1.2.2.2.2.2) ?_
                refine E_const rfl ?_
                refine E_putg (cl := 6) rfl (show (B b + 5) < mN h by have := (hR.bot b (by omega)).1.1.1; omega) (hR.bot b (by omega)).1.2.2.2.2.2.1 rfl (fun c_1 hc_1 => ?_)
                have hE_1 : EqP (ScrP B (s 29)) c c_1 := by rw [hc_1]; exact EqP.up (scr_try (b := b) (by omega) _ _ (by omega))
                have hfBbp5_5_1 : c_1 (B b + 5) 5 = (t (19 + b)) := by rw [hc_1]; exact (up2_fldN (by omega)).trans ((hT.2 b hb).1.2.2.2.2)
                have hfBbp5_4_1 : c_1 (B b + 5) 4 = (t (13 + b)) := by rw [hc_1]; exact (up2_fldN (by omega)).trans ((hT.2 b hb).1.2.2.2.1)
                have hfBbp5_2_1 : c_1 (B b + 5) 2 = 0 := by rw [hc_1]; exact up2_same
                have hR_1 := hR.scr hE_1
                refine E_vret rfl ?_
                refine ⟨rfl, c_1, rfl, ⟨?_, fun b2 hb2 => ?_⟩, hE_1⟩
                · refine ⟨?_, fun k hk => ?_⟩
                  · rw [hc_1, up2_fldN (by omega), hm.1]; exact (upd1_ne (by omega)).symm
                  · rw [hc_1, up2_fldN (by omega)]
                    have hk2 : (k : Int) < t 36 := by rw [← show upd1 t (1 + b) 0 36 = t 36 from upd1_ne (by omega)]; exact hk
                    exact (hm.2 k hk2).trans (upd1_ne (by omega)).symm
                · by_cases e : b2 = b
                  · subst e
                    rw [hc_1]
                    exact laid_w (by omega) (hT.2 b2 hb2)
                  · have hd := hR.dis b2 b hb2 hb e
                    exact LaidS.ofT ((hT.2 b2 hb2).ofE (fun k => by rw [hc_1]; exact up2_fldN (by omega)) (fun k => by rw [hc_1]; exact up2_fldN (by omega))) (fun k hk => upd1_ne (by omega))
          · exfalso; omega
      · exfalso; omega
  · exfalso; omega
