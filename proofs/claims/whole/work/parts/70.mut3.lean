/-- the years of the first i bottles are gone on by n -/
def gP (s : Nat → Int) (n i : Nat) : Nat → Int := fun k => if 7 ≤ k ∧ k < 7 + i then goN s n k else s k
theorem gP_o {s : Nat → Int} {n i k : Nat} (h : k < 7 ∨ 7 + i ≤ k) : gP s n i k = s k := if_neg (by omega)
def gQ (s : Nat → Int) (m : Nat) : Nat → Int := fun k => if 25 ≤ k ∧ k < 29 then goN s m k else s k
theorem gQ_i {s : Nat → Int} {m k : Nat} (h : 25 ≤ k ∧ k < 29) : gQ s m k = goN s m k := if_pos h
theorem gQ_o {s : Nat → Int} {m k : Nat} (h : k < 25 ∨ 29 ≤ k) : gQ s m k = s k := if_neg (by omega)
theorem goN_o {s : Nat → Int} (hG : InvG s) {k : Nat} (h0 : k ≠ 0) (h1 : ¬ (7 ≤ k ∧ (k : Int) < 7 + s 29)) (h2 : ¬ (25 ≤ k ∧ (k : Int) < 25 + s 36)) : ∀ n, goN s n k = s k
  | 0 => rfl
  | n + 1 => by
    have e29 := goN_hi hG (k := 29) (by omega) n
    have e36 := goN_hi hG (k := 36) (by omega) n
    have ih := goN_o hG h0 h1 h2 n
    show goS (goN s n) k = _
    unfold goS
    rw [if_neg h0, if_neg (by omega), if_neg (by omega), ih]
theorem gPQ {s : Nat → Int} (hG : InvG s) {m : Nat} (hy : ∀ j : Nat, goN s j 0 = s 0 + j) : upd1 (gQ (gP s m (s 29).toNat) m) 0 (s 0 + (m : Int)) = goN s m := by
  have n29 := hG.2.2.1.1
  have n36 := hG.2.2.1.2.2.2.2.2.2
  have hGp : InvG (gP s m (s 29).toNat) := by
    refine hG.mk2 (fun k hk => gP_o (by omega)) (fun b hb => ?_) (fun k hk => by rw [gP_o (by omega)]; exact hG.2.2.2 k hk)
    obtain ⟨i1, i2, i3, i4, -⟩ := hG.1 b hb
    obtain ⟨j1, j2, j3, j4, -⟩ := (hG.goN m).1 b hb
    rw [gP_o (k := 1 + b) (by omega), gP_o (k := 13 + b) (by omega), gP_o (k := 19 + b) (by omega)]
    refine ⟨i1, ?_, i3, i4⟩
    rw [show gP s m (s 29).toNat (7 + b) = if 7 ≤ 7 + b ∧ 7 + b < 7 + (s 29).toNat then goN s m (7 + b) else s (7 + b) from rfl]
    split
    · exact j2
    · exact i2
  funext k
  unfold upd1
  by_cases h0 : k = 0
  · rw [if_pos h0, h0, hy]
  · rw [if_neg h0]
    by_cases h1 : 25 ≤ k ∧ k < 29
    · rw [gQ_i h1]
      obtain ⟨g, rfl⟩ : ∃ g, k = 25 + g := ⟨k - 25, by omega⟩
      have e36 : gP s m (s 29).toNat 36 = s 36 := gP_o (by omega)
      have eg : gP s m (s 29).toNat (25 + g) = s (25 + g) := gP_o (by omega)
      by_cases h2 : (g : Int) < s 36
      · rw [goN_mood hG h2, goN_mood hGp (by rw [e36]; exact h2), eg, tlI_ofE (s := s) (fun k hk => gP_o (by omega)) hG.2.1 (by omega)]
      · rw [goN_o hG (by omega) (by omega) (by omega), goN_o hGp (by omega) (by rw [gP_o (show 29 < 7 ∨ 7 + (s 29).toNat ≤ 29 by omega)]; omega) (by rw [e36]; omega), eg]
    · rw [gQ_o (by omega)]
      by_cases h2 : 7 ≤ k ∧ k < 7 + (s 29).toNat
      · exact if_pos h2
      · rw [gP_o (by omega), goN_o hG h0 (by omega) (by omega)]
theorem InvG.gq {s : Nat → Int} (hG : InvG s) (m : Nat) : InvG (gQ s m) := hG.mk2 (fun k hk => gQ_o (by omega)) (fun b hb => by
  rw [gQ_o (show 1 + b < 25 ∨ 29 ≤ 1 + b by omega), gQ_o (show 7 + b < 25 ∨ 29 ≤ 7 + b by omega), gQ_o (show 13 + b < 25 ∨ 29 ≤ 13 + b by omega), gQ_o (show 19 + b < 25 ∨ 29 ≤ 19 + b by omega)]
  have := hG.1 b hb
  exact ⟨this.1, this.2.1, this.2.2.1, this.2.2.2.1⟩) (fun k hk => by rw [gQ_i (by omega)]; exact (hG.goN m).2.2.2 k hk)
theorem invGp {s : Nat → Int} (h : InvG s) (n : Nat) {i : Nat} (hi : i ≤ 6) : InvG (gP s n i) := by
  have h2 := h.goN n
  refine h.mk2 (fun k hk => gP_o (by omega)) (fun b hb => ?_) (fun k hk => ?_)
  · obtain ⟨i1, i2, i3, i4, -⟩ := h.1 b hb
    obtain ⟨j1, j2, j3, j4, -⟩ := h2.1 b hb
    rw [gP_o (k := 1 + b) (by omega), gP_o (k := 13 + b) (by omega), gP_o (k := 19 + b) (by omega)]
    refine ⟨i1, ?_, i3, i4⟩
    rw [show gP s n i (7 + b) = if 7 ≤ 7 + b ∧ 7 + b < 7 + i then goN s n (7 + b) else s (7 + b) from rfl]
    split
    · exact j2
    · exact i2
  · rw [gP_o (by omega)]; exact h.2.2.2 k hk
theorem RepC.year1 {h : Hp} {c : Nat → Nat → Int} {B : Nat → Nat} {s im : Nat → Int} {hi : Int} {L : List Int} {x : Int} (hR : RepC h c B s im hi L) (hA : Inv s) : RepC h (up2 c 0 13 x) B (upd1 s 0 x) im hi L := by
  have hE : EqP (fun a k => a = 0 ∧ k = 13) c (up2 c 0 13 x) := EqP.up ⟨rfl, rfl⟩
  have hrow : ∀ a, a ≠ 0 → up2 c 0 13 x a = c a := fun a ha => up2_othN ha
  obtain ⟨n29, n30, n31, n32, n33, n34, n36⟩ := hA.2.2.1.1
  have hs : ∀ k, k ≠ 0 → upd1 s 0 x k = s k := fun k hk => upd1_ne hk
  refine ⟨hR.C.of fun e he => ?_, ⟨?_, ?_⟩, ?_, ?_, ?_, ?_, ?_, ?_, ?_, ?_, ?_, ?_, ?_, ?_⟩
  · have : ∀ e ∈ CT, e.1 ≠ 0 ∨ e.2.1 ≠ 13 := by decide
    exact up2_fldN (this e he)
  · rw [hs 30 (by omega), up2_fldN (by omega)]; exact hR.cellars
  · exact up2_same.trans upd1_same.symm
  · rw [hrow 1 (by omega), hrow 2 (by omega)]; exact hR.tape.tr (fun k hk => hs k (by omega)) n34.2
  · rw [hrow 4 (by omega), hrow 5 (by omega)]; exact hR.mood.tr (fun k hk => hs k (by omega)) n36.2
  · rw [hrow 10 (by omega), hrow 11 (by omega)]; exact hR.seen.tr (fun k hk => hs k (by omega)) n31.2
  · rw [hrow 13 (by omega), hrow 14 (by omega)]; exact hR.eve.tr (fun k hk => hs k (by omega)) n32.2
  · rw [hrow 16 (by omega), hrow 17 (by omega)]; exact hR.book.tr (fun k hk => hs k (by omega)) n33.2
  · rw [hrow 19 (by omega), hrow 20 (by omega)]; exact hR.bod
  · rw [hrow 29 (by omega), hrow 30 (by omega), hrow 32 (by omega), hrow 33 (by omega)]
    obtain ⟨l, k1, k2⟩ := hR.held
    exact ⟨l, k1, k2.ofE hA.2.1 fun k h1 h2 => hs k (by omega)⟩
  · rw [hs 29 (by omega)]
    exact hR.list.ofE (by rw [hrow 42 (by omega)]) (by rw [hrow 42 (by omega)]) fun E e1 e2 e3 k => by rw [hrow E (by omega)]
  · intro b hb
    rw [hs 29 (by omega)] at hb
    obtain ⟨b1, b2, b3⟩ := hR.bot b hb
    rw [hs (37 + b) (by omega)]
    exact ⟨b1.ofE (fun k => by rw [hrow _ (by omega)]) (by rw [hrow _ (by omega)]) (by rw [hrow _ (by omega)]) (by rw [hrow _ (by omega)]), LaidS.ofT (b2.ofE (fun k => by rw [hrow _ (by omega)]) (fun k => by rw [hrow _ (by omega)])) (fun k hk => hs k (by omega)), b3⟩
  · rw [hs 29 (by omega)]; exact hR.dis
  · rw [up2_fldN (by omega)]; exact hR.none
  · intro hi1
    obtain ⟨k1, k2, k3, k4, k5, k6, k7, k8, k9⟩ := hR.kept hi1
    refine ⟨?_, ?_, ?_, ?_, ?_, ?_, ?_, by rw [hs 29 (by omega)]; exact k8, fun b hb => ?_⟩
    · rw [up2_fldN (by omega), up2_fldN (by omega), up2_fldN (by omega)]; exact k1
    · rw [hrow 1 (by omega), hrow 3 (by omega)]; exact k2
    · rw [hrow 4 (by omega), hrow 6 (by omega)]; exact k3
    · rw [hrow 10 (by omega), hrow 12 (by omega)]; exact k4
    · rw [hrow 13 (by omega), hrow 15 (by omega)]; exact k5
    · rw [hrow 16 (by omega), hrow 18 (by omega)]; exact k6
    · rw [hrow 29 (by omega), hrow 31 (by omega), hrow 32 (by omega), hrow 34 (by omega)]; exact k7
    · have hb2 := (hR.bot b (by omega)).2.2
      exact ⟨(k9 b hb).1.ofE (fun k => by rw [hrow _ (by omega)]) (fun k => by rw [hrow _ (by omega)]), by rw [hs (37 + b) (by omega)]; exact (k9 b hb).2⟩
/-- all moods change -/
theorem RepC.moods {h : Hp} {c c2 : Nat → Nat → Int} {B : Nat → Nat} {s t im : Nat → Int} {hi : Int} {L : List Int} (hR : RepC h c B s im hi L) (hA : Inv s) (hE : EqP (fun b _ => b = 4 + 1) c c2) (hs : ∀ k, (k < 25 ∨ 29 ≤ k) → t k = s k) (hM : MoodR (c2 4 3) (c2 5) t) : RepC h c2 B t im hi L := by
  obtain ⟨n29, n30, n31, n32, n33, n34, n36⟩ := hA.2.2.1.1
  refine hR.mkS hA (fun a k hk => hE a k (by unfold shW at hk; omega)) (fun k hk => hs k (by omega)) ?_ hM ?_ ?_ ?_
  · rw [hE 1 3 (by omega), hE.row 2 (fun k => by omega)]; exact hR.tape.tr (fun k hk => hs k (by omega)) n34.2
  · rw [hE 10 3 (by omega), hE.row 11 (fun k => by omega)]; exact hR.seen.tr (fun k hk => hs k (by omega)) n31.2
  · rw [hE 13 3 (by omega), hE.row 14 (fun k => by omega)]; exact hR.eve.tr (fun k hk => hs k (by omega)) n32.2
  · rw [hE 16 3 (by omega), hE.row 17 (fun k => by omega)]; exact hR.book.tr (fun k hk => hs k (by omega)) n33.2
set_option maxHeartbeats 4000000 in
set_option maxRecDepth 100000 in
theorem Cl_pass {d : Nat} {h : Hp} {B : Nat → Nat} {s0 im : Nat → Int} {hi : Int} {L : List Int} (hL : Lay h) (hA0 : Inv s0) {m : Nat} (hm : m ≤ 60) (hy : s0 0 + m ≤ 9999) : ∀ (n i : Nat), i + n = (s0 29).toNat → ∀ (s : Nat → Int) (c : Nat → Nat → Int), s = gP s0 m i → RepC h c B s im hi L → Ex (d + 8) none t_X10_pass 0 30 [(1, ((0 : Nat) : Int)), (0, (m : Int)), (0, (i : Int))] [] (wC h c) (fun r h2 => r = some (0, goN s0 m 0) ∧ ∃ c2, h2 = wC h c2 ∧ RepC h c2 B (goN s0 m) im hi L ∧ EqP FrC c c2) := by
  have hG0 := hA0.G
  obtain ⟨n29, n30, n31, n32, n33, n34, n36⟩ := hA0.2.2.1.1
  intro n
  induction n with
  | zero =>
    intro i hin s c hse hR
    have hG : InvG s := by rw [hse]; exact invGp hG0 m (by omega)
    have e29 : s 29 = s0 29 := by rw [hse]; exact gP_o (by omega)
    have e36 : s 36 = s0 36 := by rw [hse]; exact gP_o (by omega)
    have e0 : s 0 = s0 0 := by rw [hse]; exact gP_o (by omega)
    have hA : Inv s := hA0.mk3 hG (fun k hk => by rw [hse]; exact gP_o (by omega))
    have y0 := hA0.2.2.2.1
    have yN : ∀ j, goN s0 j 0 = s0 0 + j := fun j => by
      induction j with
      | zero => show s0 0 = _; omega
      | succ j ihj => show goS (goN s0 j) 0 = _; rw [show goS (goN s0 j) 0 = goN s0 j 0 + 1 from if_pos rfl, ihj]; omega
    refine E_load rfl rfl rfl ?_
    refine E_load rfl rfl rfl ?_
    refine E_getr (c := 11) (r := 42) rfl (hL.lt 0 rfl) (hL.k 0 rfl) rfl (hR.C.g 0 11 42 (by decide)) ?_
    refine E_V0 (q := 42) (c := 0) (y := 3) rfl rfl (hL.lt 42 rfl) (hL.k 42 rfl) rfl rfl rfl rfl (j_size hL hR.list) (fun r h2 hq => ?_)
    obtain ⟨rfl, hh⟩ := hq
    subst hh
    refine E_cmp3 rfl (by omega) (fun q1 => ?_) (fun q1 => ?_)
    · refine E_load rfl rfl rfl ?_
      refine E_load rfl rfl rfl ?_
      refine E_getr (c := 11) (r := 4) rfl (hL.lt 0 rfl) (hL.k 0 rfl) rfl (hR.C.g 0 1 4 (by decide)) ?_
      refine E_load rfl rfl rfl ?_
      refine E_V2 (q := 0) (c := 11) (y := 128) rfl rfl (hL.lt 0 rfl) (hL.k 0 rfl) rfl rfl rfl rfl (c_calmD (m := m) hL hR hG (sh4 hL hR.C) hR.mood (by omega)) (fun r h2 hq => ?_)
      obtain ⟨rfl, c_1, hh, hM_1, hE_1⟩ := hq
      subst hh
      have hRm : RepC h c_1 B (gQ s m) im hi L := by
        refine hR.moods hA hE_1 (fun k hk => gQ_o (by omega)) ⟨hM_1.1.trans ?_, fun k hk => ?_⟩
        · rw [gQ_o (by omega)]; exact goN_hi hG (by omega) m
        · rw [gQ_o (by omega)] at hk
          rw [gQ_i (by omega)]
          exact hM_1.2 k (by rw [goN_hi hG (by omega)]; exact hk)
      have hAm : Inv (gQ s m) := hA.mk3 (hG.gq m) (fun k hk => gQ_o (by omega))
      refine E_load rfl rfl rfl ?_
      refine E_dup rfl rfl ?_
      refine E_getf (c := 11) (v := (0, (s 0))) rfl (hL.lt 0 rfl) (hL.k 0 rfl) rfl (fv (hRm.year.trans (gQ_o (by omega)))) ?_
      refine E_load rfl rfl rfl ?_
      refine E_add rfl ?_
      refine E_putg (cl := 11) rfl (hL.lt 0 rfl) (hL.k 0 rfl) rfl (fun c_9 hc_9 => ?_)
      have hR9 : RepC h c_9 B (upd1 (gQ s m) 0 (s 0 + (m : Int))) im hi L := by rw [hc_9]; exact hRm.year1 hAm
      refine E_load rfl rfl rfl ?_
      refine E_getf (c := 11) (v := (0, (s 0 + (m : Int)))) rfl (hL.lt 0 rfl) (hL.k 0 rfl) rfl (fv (by show c_9 0 13 = _; rw [hc_9]; exact up2_same)) ?_
      refine E_iret rfl (fun h => absurd h (by decide)) ?_
      have ef : upd1 (gQ s m) 0 (s 0 + (m : Int)) = goN s0 m := by
        rw [e0, hse, show i = (s0 29).toNat by omega]
        exact gPQ hG0 yN
      rw [ef] at hR9
      refine ⟨by rw [yN, ← e0], c_9, rfl, hR9, ?_⟩
      exact (hE_1.mono (fun a k e => by unfold FrC; omega)).trans (by rw [hc_9]; exact EqP.up (by unfold FrC; omega))
    · exfalso; omega
  | succ n ih =>
    intro i hin s c hse hR
    have hG : InvG s := by rw [hse]; exact invGp hG0 m (by omega)
    have e29 : s 29 = s0 29 := by rw [hse]; exact gP_o (by omega)
    have hA : Inv s := hA0.mk3 hG (fun k hk => by rw [hse]; exact gP_o (by omega))
    have iB := hG.1 i (by omega)
    obtain ⟨b1, b2, b3⟩ := hR.bot i (by omega)
    have e7 : s (7 + i) = s0 (7 + i) := by rw [hse]; exact gP_o (by omega)
    have e19 : s (19 + i) = s0 (19 + i) := by rw [hse]; exact gP_o (by omega)
    refine E_load rfl rfl rfl ?_
    refine E_load rfl rfl rfl ?_
    refine E_getr (c := 11) (r := 42) rfl (hL.lt 0 rfl) (hL.k 0 rfl) rfl (hR.C.g 0 11 42 (by decide)) ?_
    refine E_V0 (q := 42) (c := 0) (y := 3) rfl rfl (hL.lt 42 rfl) (hL.k 42 rfl) rfl rfl rfl rfl (j_size hL hR.list) (fun r h2 hq => ?_)
    obtain ⟨rfl, hh⟩ := hq
    subst hh
    refine E_cmp3 rfl (by omega) (fun q1 => ?_) (fun q1 => ?_)
    · exfalso; omega
    · refine E_load rfl rfl rfl ?_
      refine E_getr (c := 11) (r := 42) rfl (hL.lt 0 rfl) (hL.k 0 rfl) rfl (hR.C.g 0 11 42 (by decide)) ?_
      refine E_load rfl rfl rfl ?_
      refine E_V1 (q := 42) (c := 0) (y := 5) rfl rfl (hL.lt 42 rfl) (hL.k 42 rfl) rfl rfl rfl rfl (j_get hL hR.list (by omega)) (fun r h2 hq => ?_)
      obtain ⟨rfl, hh⟩ := hq
      subst hh
      refine E_castB rfl (show (B i) < mN h by have := (hR.bot i (by omega)).1.1.1; omega) (hR.bot i (by omega)).1.isB ?_
      refine E_getrB (r := (B i + 1)) rfl (show (B i) < mN h by have := (hR.bot i (by omega)).1.1.1; omega) (hR.bot i (by omega)).1.isB rfl ((hR.bot i (by omega)).1.2.1.2.2.2.1) ?_
      refine E_load rfl rfl rfl ?_
      refine E_V1 (q := (B i + 1)) (c := 6) (y := 52) rfl rfl (show (B i + 1) < mN h by have := (hR.bot i (by omega)).1.1.1; omega) (hR.bot i (by omega)).1.2.2.1.2.1 rfl rfl rfl rfl (l_age b1.2.2.1 (by rw [b2.1.2.2.1]; exact iB.2.1) (by rw [b2.1.2.2.2.2]; exact iB.2.2.2.1) (n := (m : Int)) (by omega)) (fun r h2 hq => ?_)
      obtain ⟨rfl, c_1, hh, hc_1⟩ := hq
      subst hh
      refine E_iinc rfl rfl rfl ?_
      refine E_goto rfl ?_
      rw [b2.1.2.2.2.2, b2.1.2.2.1] at hc_1
      have hf : EqP (fun a k => (a = B i + 1 ∧ 1 ≤ k) ∨ a = B i + 2) c c_1 := by
        rw [hc_1]
        split
        · exact EqP.up (by omega)
        · exact EqP.nil
      have hV : LaidS c_1 (B i + 1) (gP s0 m (i + 1)) i := by
        have hz : ∀ k, k ≠ 7 + i → gP s0 m (i + 1) k = s k := fun k hk => by
          rw [hse]
          unfold gP
          by_cases e : 7 ≤ k ∧ k < 7 + i
          · rw [if_pos e, if_pos (by omega)]
          · rw [if_neg e, if_neg (by omega)]
        have hz7 : gP s0 m (i + 1) (7 + i) = if s (19 + i) = 0 then (if 199 < s (7 + i) + (m : Int) then 199 else s (7 + i) + (m : Int)) else s (7 + i) := by
          rw [e7, e19, ← goN_years hG0 (by omega) m]
          exact if_pos (by omega)
        unfold LaidS
        rw [hz (43 + i) (by omega), hz (1 + i) (by omega), hz7, hz (13 + i) (by omega), hz (19 + i) (by omega), hc_1]
        by_cases h0 : s (19 + i) = 0
        · rw [if_pos h0, if_pos h0]
          exact ⟨⟨(up2_fldN (by omega)).trans b2.1.1, (up2_fldN (by omega)).trans b2.1.2.1, up2_same, (up2_fldN (by omega)).trans b2.1.2.2.2.1, (up2_fldN (by omega)).trans b2.1.2.2.2.2⟩, fun k hk => (up2_fldN (by omega)).trans ((b2.2 k hk).trans (hz _ (by omega)).symm)⟩
        · rw [if_neg h0, if_neg h0]
          exact ⟨b2.1, fun k hk => (b2.2 k hk).trans (hz _ (by omega)).symm⟩
      have hR1 : RepC h c_1 B (gP s0 m (i + 1)) im hi L := hR.mkB hA (b := i) (by omega) hf (fun k hk => by
        rw [hse]
        have hk7 : k ≠ 7 + i := fun e => hk (by unfold idxB; omega)
        unfold gP
        by_cases e : 7 ≤ k ∧ k < 7 + i
        · rw [if_pos e, if_pos (by omega)]
        · rw [if_neg e, if_neg (by omega)]) hV
      refine (ih (i + 1) (by omega) _ c_1 rfl hR1).mono ?_
      rintro r hE ⟨e1, c9, e2, e4, e3⟩
      exact ⟨e1, c9, e2, e4, EqP.trans (hf.mono (fun a k e => by unfold FrC; omega)) e3⟩
set_option maxHeartbeats 4000000 in
set_option maxRecDepth 100000 in
theorem C_pass {d : Nat} {h : Hp} {c : Nat → Nat → Int} {B : Nat → Nat} {s im : Nat → Int} {hi : Int} {L : List Int} (hL : Lay h) (hR : RepC h c B s im hi L) (hA : Inv s) {n : Int} (hn : inR n) : Ok (d + 8) 85 [(1, ((0 : Nat) : Int)), (0, n)] (wC h c) (fun r h2 => r = some (0, (f_pass s n).1) ∧ ∃ c2, h2 = wC h c2 ∧ RepC h c2 B (f_pass s n).2 im hi L ∧ EqP FrC c c2) := by
  show Ex _ none t_X10_pass 0 0 _ [] (wC h c) _
  have hAA := hA
  have hG := hA.G
  obtain ⟨hI, hH, ⟨⟨n29, n30, n31, n32, n33, n34, n36⟩, nM⟩, hX⟩ := hA
  refine E_load rfl rfl rfl ?_
  refine E_const rfl ?_
  refine E_const rfl ?_
  refine E_S3 (y := 111) rfl rfl rfl rfl rfl (c_within (by omega) (by omega) (by omega)) (fun r h2 hq => ?_)
  obtain ⟨rfl, hh⟩ := hq
  subst hh
  refine E_if1 rfl (bI_R _) (fun q1 => ?_) (fun q1 => ?_)
  · replace q1 := bI_nz q1
    obtain ⟨m, rfl⟩ := Int.eq_ofNat_of_zero_le q1.1
    refine E_load rfl rfl rfl ?_
    have hX0 := hX.1
    refine E_getf (c := 11) (v := (0, (s 0))) rfl (hL.lt 0 rfl) (hL.k 0 rfl) rfl (fv (hR.year)) ?_
    refine E_load rfl rfl rfl ?_
    refine E_add rfl ?_
    refine E_const rfl ?_
    refine E_cmp5 rfl (by omega) (fun q2 => ?_) (fun q2 => ?_)
    · refine E_const rfl ?_
      refine E_store rfl rfl rfl ?_
      refine (Cl_pass hL hAA (m := m) (by omega) (by omega) _ 0 (Nat.zero_add _) s c (by funext k; exact (gP_o (by omega)).symm) hR).mono ?_
      rintro r hE ⟨rfl, c9, rfl, e4, e3⟩
      refine mutC ?_ e4 e3
      unfold f_pass
      rw [if_neg (by omega), if_neg (by omega)]
      rfl
    · refine E_const rfl ?_
      refine E_iret rfl (fun h => absurd h (by decide)) ?_
      refine mutC (s' := s) ?_ hR EqP.nil
      unfold f_pass
      try simp only [Int.toNat_natCast]
      first | (exfalso; omega) | (rw [if_pos (by omega)] <;> rfl) | (rw [if_neg (by omega), if_pos (by omega)] <;> rfl) | (rw [if_neg (by omega)] <;> rfl) | (rw [if_neg (by omega), if_neg (by omega), if_pos (by omega)] <;> rfl) | (rw [if_neg (by omega), if_neg (by omega)] <;> rfl) | (rw [if_neg (by omega), if_neg (by omega), if_neg (by omega), if_pos (by omega)] <;> rfl) | (rw [if_neg (by omega), if_neg (by omega), if_neg (by omega)] <;> rfl) | (rw [if_neg (by omega), if_neg (by omega), if_neg (by omega), if_neg (by omega), if_pos (by omega)] <;> rfl) | (rw [if_neg (by omega), if_neg (by omega), if_neg (by omega), if_neg (by omega)] <;> rfl) | (rw [if_neg (by omega), if_neg (by omega), if_neg (by omega), if_neg (by omega), if_neg (by omega), if_pos (by omega)] <;> rfl) | (rw [if_neg (by omega), if_neg (by omega), if_neg (by omega), if_neg (by omega), if_neg (by omega)] <;> rfl) | (rw [if_neg (by omega), if_neg (by omega), if_neg (by omega), if_neg (by omega), if_neg (by omega), if_neg (by omega), if_pos (by omega)] <;> rfl) | (rw [if_neg (by omega), if_neg (by omega), if_neg (by omega), if_neg (by omega), if_neg (by omega), if_neg (by omega)] <;> rfl)
  · replace q1 := bI_z q1
    refine E_const rfl ?_
    refine E_iret rfl (fun h => absurd h (by decide)) ?_
    refine mutC (s' := s) ?_ hR EqP.nil
    unfold f_pass
    try simp only [Int.toNat_natCast]
    first | (exfalso; omega) | (rw [if_pos (by omega)] <;> rfl) | (rw [if_neg (by omega), if_pos (by omega)] <;> rfl) | (rw [if_neg (by omega)] <;> rfl) | (rw [if_neg (by omega), if_neg (by omega), if_pos (by omega)] <;> rfl) | (rw [if_neg (by omega), if_neg (by omega)] <;> rfl) | (rw [if_neg (by omega), if_neg (by omega), if_neg (by omega), if_pos (by omega)] <;> rfl) | (rw [if_neg (by omega), if_neg (by omega), if_neg (by omega)] <;> rfl) | (rw [if_neg (by omega), if_neg (by omega), if_neg (by omega), if_neg (by omega), if_pos (by omega)] <;> rfl) | (rw [if_neg (by omega), if_neg (by omega), if_neg (by omega), if_neg (by omega)] <;> rfl) | (rw [if_neg (by omega), if_neg (by omega), if_neg (by omega), if_neg (by omega), if_neg (by omega), if_pos (by omega)] <;> rfl) | (rw [if_neg (by omega), if_neg (by omega), if_neg (by omega), if_neg (by omega), if_neg (by omega)] <;> rfl) | (rw [if_neg (by omega), if_neg (by omega), if_neg (by omega), if_neg (by omega), if_neg (by omega), if_neg (by omega), if_pos (by omega)] <;> rfl) | (rw [if_neg (by omega), if_neg (by omega), if_neg (by omega), if_neg (by omega), if_neg (by omega), if_neg (by omega)] <;> rfl)
