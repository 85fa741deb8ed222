/-- a bottle's constructor has run on p -/
def InB (h : Hp) (c : Nat → Nat → Int) (p : Nat) (k n x : Int) (h' : Hp) (c' : Nat → Nat → Int) : Prop := Hx h h' ∧ (mN h' = mN h + 6 ∧ mS h' = mS h + 30) ∧ (La h' c' (mN h) ∧ La h' c' (mN h + 2) ∧ La h' c' (mN h + 4)) ∧ LV c' (mN h) 0 0 0 0 0 (fun _ => 0) ∧ (c' p 0 = k ∧ c' p 1 = n ∧ c' p 2 = x ∧ c' p 3 = ((mN h : Nat) : Int) ∧ c' p 4 = ((mN h + 2 : Nat) : Int) ∧ c' p 5 = ((mN h + 4 : Nat) : Int)) ∧ ∀ a, a < mN h → a ≠ p → c' a = c a
theorem La.ofE {h : Hp} {c c2 : Nat → Nat → Int} {q : Nat} (h1 : La h c q) (e : c2 q 0 = c q 0) : La h c2 q := ⟨h1.1, h1.2.1, h1.2.2.1, h1.2.2.2.1, e.trans h1.2.2.2.2⟩
set_option maxHeartbeats 4000000 in
set_option maxRecDepth 100000 in
theorem c_initB {d : Nat} {h : Hp} {c : Nat → Nat → Int} {p : Nat} {k n x : Int} (hp : p < mN h) (hk : IsB (mK h p)) : Ok (d + 2) 10 [(1, ((p : Nat) : Int)), (0, k), (0, n), (1, x)] (wC h c) (fun r h2 => r = none ∧ ∃ h' c', h2 = wC h' c' ∧ InB h c p k n x h' c') := by
  show Ex _ none t_X0_init 0 0 _ [] (wC h c) _
  refine E_load rfl rfl rfl ?_
  refine E_obj rfl hp rfl ?_
  refine E_load rfl rfl rfl ?_
  refine E_newLaid rfl rfl rfl rfl (fun h1 c1 x1 n1 s1 la1 lv1 f1 => ?_)
  have b1 : IsB (mK h1 p) := by rw [(x1.2 p hp).1]; exact hk
  refine E_putB (q := p) rfl (by omega) b1 rfl (fun c_1 hc_1 => ?_)
  refine E_load rfl rfl rfl ?_
  refine E_newLaid rfl rfl rfl rfl (fun h2 c2 x2 n2 s2 la2 lv2 f2 => ?_)
  have b2 : IsB (mK h2 p) := by rw [(x2.2 p (by omega)).1]; exact b1
  refine E_putB (q := p) rfl (by omega) b2 rfl (fun c_2 hc_2 => ?_)
  refine E_load rfl rfl rfl ?_
  refine E_newLaid rfl rfl rfl rfl (fun h3 c3 x3 n3 s3 la3 lv3 f3 => ?_)
  have b3 : IsB (mK h3 p) := by rw [(x3.2 p (by omega)).1]; exact b2
  refine E_putB (q := p) rfl (by omega) b3 rfl (fun c_3 hc_3 => ?_)
  refine E_load rfl rfl rfl ?_
  refine E_load rfl rfl rfl ?_
  refine E_putB (q := p) rfl (by omega) b3 rfl (fun c_4 hc_4 => ?_)
  refine E_load rfl rfl rfl ?_
  refine E_load rfl rfl rfl ?_
  refine E_putB (q := p) rfl (by omega) b3 rfl (fun c_5 hc_5 => ?_)
  refine E_load rfl rfl rfl ?_
  refine E_load rfl rfl rfl ?_
  refine E_putB (q := p) rfl (by omega) b3 rfl (fun c_6 hc_6 => ?_)
  refine E_vret rfl ?_
  have eo : ∀ a, a ≠ p → c_6 a = c3 a := fun a ha => by rw [hc_6, up2_othN ha, hc_5, up2_othN ha, hc_4, up2_othN ha, hc_3, up2_othN ha]
  have eo2 : ∀ a, a ≠ p → c_2 a = c2 a := fun a ha => by rw [hc_2, up2_othN ha]
  have eo1 : ∀ a, a ≠ p → c_1 a = c1 a := fun a ha => by rw [hc_1, up2_othN ha]
  have g3 : ∀ a, a ≠ p → a < mN h + 4 → c_6 a = c_2 a := fun a ha hb => (eo a ha).trans (f3 a (by omega))
  have g2 : ∀ a, a ≠ p → a < mN h + 2 → c_6 a = c_1 a := fun a ha hb => (g3 a ha (by omega)).trans ((eo2 a ha).trans (f2 a (by omega)))
  refine ⟨rfl, h3, c_6, rfl, x1.trans (x2.trans x3), ⟨by omega, by omega⟩, ⟨?_, ?_, ?_⟩, ⟨?_, ?_⟩, ⟨?_, ?_, ?_, ?_, ?_, ?_⟩, fun a ha hap => ?_⟩
  · exact ((la1.x x2).x x3).ofE (by rw [g2 _ (by omega) (by omega), eo1 _ (by omega)])
  · rw [n1] at la2
    exact (la2.x x3).ofE (by rw [g3 _ (by omega) (by omega), eo2 _ (by omega)])
  · rw [n2, n1] at la3
    exact la3.ofE (by rw [eo _ (by omega)])
  · rw [g2 _ (by omega) (by omega), eo1 _ (by omega)]; exact lv1.1
  · intro j hj
    rw [g2 _ (by omega) (by omega), eo1 _ (by omega)]; exact lv1.2 j hj
  · rw [hc_6, hc_5, hc_4]
    exact (up2_fldN (by omega)).trans ((up2_fldN (by omega)).trans up2_same)
  · rw [hc_6, hc_5]
    exact (up2_fldN (by omega)).trans up2_same
  · rw [hc_6]; exact up2_same
  · rw [hc_6, hc_5, hc_4, hc_3]
    refine (up2_fldN (by omega)).trans ((up2_fldN (by omega)).trans ((up2_fldN (by omega)).trans ((up2_fldN (by omega)).trans ?_)))
    rw [f3 p (by omega), hc_2]
    refine (up2_fldN (by omega)).trans ?_
    rw [f2 p (by omega), hc_1]
    exact up2_same
  · rw [hc_6, hc_5, hc_4, hc_3]
    refine (up2_fldN (by omega)).trans ((up2_fldN (by omega)).trans ((up2_fldN (by omega)).trans ((up2_fldN (by omega)).trans ?_)))
    rw [f3 p (by omega), hc_2, n1]
    exact up2_same
  · rw [hc_6, hc_5, hc_4, hc_3, n2, n1]
    exact (up2_fldN (by omega)).trans ((up2_fldN (by omega)).trans ((up2_fldN (by omega)).trans up2_same))
  · rw [g2 a hap (by omega), eo1 a hap, f1 a ha]
set_option maxHeartbeats 4000000 in
set_option maxRecDepth 100000 in
theorem c_initHard {d : Nat} {h : Hp} {c : Nat → Nat → Int} {p cl : Nat} {k n x : Int} (hp : p < mN h) (hk : mK h p = cl) (hcl : cl = 5 ∨ cl = 4) : Ok (d + 3) 47 [(1, ((p : Nat) : Int)), (0, k), (0, n), (1, x)] (wC h c) (fun r h2 => r = none ∧ ∃ h' c', h2 = wC h' c' ∧ InB h c p k n x h' c') := by
  show Ex _ none t_X4_init 0 0 _ [] (wC h c) _
  refine E_load rfl rfl rfl ?_
  refine E_load rfl rfl rfl ?_
  refine E_load rfl rfl rfl ?_
  refine E_load rfl rfl rfl ?_
  refine E_V3 (q := p) (c := cl) (y := 10) rfl rfl hp hk (by rcases hcl with rfl | rfl <;> rfl) rfl rfl rfl (c_initB hp (by rw [hk]; unfold IsB; omega)) (fun r h2 hq => ?_)
  obtain ⟨rfl, h', c', hh, hI⟩ := hq
  subst hh
  refine E_vret rfl ?_
  exact ⟨rfl, h', c', rfl, hI⟩
set_option maxHeartbeats 4000000 in
set_option maxRecDepth 100000 in
theorem c_initSweet {d : Nat} {h : Hp} {c : Nat → Nat → Int} {p cl : Nat} {k n x : Int} (hp : p < mN h) (hk : mK h p = cl) (hcl : cl = 9 ∨ cl = 7) : Ok (d + 3) 67 [(1, ((p : Nat) : Int)), (0, k), (0, n), (1, x)] (wC h c) (fun r h2 => r = none ∧ ∃ h' c', h2 = wC h' c' ∧ InB h c p k n x h' c') := by
  show Ex _ none t_X8_init 0 0 _ [] (wC h c) _
  refine E_load rfl rfl rfl ?_
  refine E_load rfl rfl rfl ?_
  refine E_load rfl rfl rfl ?_
  refine E_load rfl rfl rfl ?_
  refine E_V3 (q := p) (c := cl) (y := 10) rfl rfl hp hk (by rcases hcl with rfl | rfl <;> rfl) rfl rfl rfl (c_initB hp (by rw [hk]; unfold IsB; omega)) (fun r h2 hq => ?_)
  obtain ⟨rfl, h', c', hh, hI⟩ := hq
  subst hh
  refine E_vret rfl ?_
  exact ⟨rfl, h', c', rfl, hI⟩
set_option maxHeartbeats 4000000 in
set_option maxRecDepth 100000 in
theorem c_initCork {d : Nat} {h : Hp} {c : Nat → Nat → Int} {p cl : Nat} {k n x : Int} (hp : p < mN h) (hk : mK h p = cl) (hcl : cl = 3 ∨ cl = 10) : Ok (d + 3) 41 [(1, ((p : Nat) : Int)), (0, k), (0, n), (1, x)] (wC h c) (fun r h2 => r = none ∧ ∃ h' c', h2 = wC h' c' ∧ InB h c p k n x h' c') := by
  show Ex _ none t_X2_init 0 0 _ [] (wC h c) _
  refine E_load rfl rfl rfl ?_
  refine E_load rfl rfl rfl ?_
  refine E_load rfl rfl rfl ?_
  refine E_load rfl rfl rfl ?_
  refine E_V3 (q := p) (c := cl) (y := 10) rfl rfl hp hk (by rcases hcl with rfl | rfl <;> rfl) rfl rfl rfl (c_initB hp (by rw [hk]; unfold IsB; omega)) (fun r h2 hq => ?_)
  obtain ⟨rfl, h', c', hh, hI⟩ := hq
  subst hh
  refine E_vret rfl ?_
  exact ⟨rfl, h', c', rfl, hI⟩
set_option maxHeartbeats 4000000 in
set_option maxRecDepth 100000 in
theorem c_initFeud {d : Nat} {h : Hp} {c : Nat → Nat → Int} {p cl : Nat} {k n x : Int} (hp : p < mN h) (hk : mK h p = cl) (hcl : cl = 4) : Ok (d + 4) 44 [(1, ((p : Nat) : Int)), (0, k), (0, n), (1, x)] (wC h c) (fun r h2 => r = none ∧ ∃ h' c', h2 = wC h' c' ∧ InB h c p k n x h' c') := by
  show Ex _ none t_X3_init 0 0 _ [] (wC h c) _
  refine E_load rfl rfl rfl ?_
  refine E_load rfl rfl rfl ?_
  refine E_load rfl rfl rfl ?_
  refine E_load rfl rfl rfl ?_
  refine E_V3 (q := p) (c := cl) (y := 47) rfl rfl hp hk (by rcases hcl with rfl <;> rfl) rfl rfl rfl (c_initHard hp hk (by omega)) (fun r h2 hq => ?_)
  obtain ⟨rfl, h', c', hh, hI⟩ := hq
  subst hh
  refine E_vret rfl ?_
  exact ⟨rfl, h', c', rfl, hI⟩
set_option maxHeartbeats 4000000 in
set_option maxRecDepth 100000 in
theorem c_initLove {d : Nat} {h : Hp} {c : Nat → Nat → Int} {p cl : Nat} {k n x : Int} (hp : p < mN h) (hk : mK h p = cl) (hcl : cl = 7) : Ok (d + 4) 55 [(1, ((p : Nat) : Int)), (0, k), (0, n), (1, x)] (wC h c) (fun r h2 => r = none ∧ ∃ h' c', h2 = wC h' c' ∧ InB h c p k n x h' c') := by
  show Ex _ none t_X6_init 0 0 _ [] (wC h c) _
  refine E_load rfl rfl rfl ?_
  refine E_load rfl rfl rfl ?_
  refine E_load rfl rfl rfl ?_
  refine E_load rfl rfl rfl ?_
  refine E_V3 (q := p) (c := cl) (y := 67) rfl rfl hp hk (by rcases hcl with rfl <;> rfl) rfl rfl rfl (c_initSweet hp hk (by omega)) (fun r h2 hq => ?_)
  obtain ⟨rfl, h', c', hh, hI⟩ := hq
  subst hh
  refine E_vret rfl ?_
  exact ⟨rfl, h', c', rfl, hI⟩
set_option maxHeartbeats 4000000 in
set_option maxRecDepth 100000 in
theorem c_initTold {d : Nat} {h : Hp} {c : Nat → Nat → Int} {p cl : Nat} {k n x : Int} (hp : p < mN h) (hk : mK h p = cl) (hcl : cl = 10) : Ok (d + 4) 70 [(1, ((p : Nat) : Int)), (0, k), (0, n), (1, x)] (wC h c) (fun r h2 => r = none ∧ ∃ h' c', h2 = wC h' c' ∧ InB h c p k n x h' c') := by
  show Ex _ none t_X9_init 0 0 _ [] (wC h c) _
  refine E_load rfl rfl rfl ?_
  refine E_load rfl rfl rfl ?_
  refine E_load rfl rfl rfl ?_
  refine E_load rfl rfl rfl ?_
  refine E_V3 (q := p) (c := cl) (y := 41) rfl rfl hp hk (by rcases hcl with rfl <;> rfl) rfl rfl rfl (c_initCork hp hk (by omega)) (fun r h2 hq => ?_)
  obtain ⟨rfl, h', c', hh, hI⟩ := hq
  subst hh
  refine E_vret rfl ?_
  exact ⟨rfl, h', c', rfl, hI⟩
theorem InB.bot {h h' : Hp} {c c' : Nat → Nat → Int} {k : Int} {n : Nat} {cl : Nat} {v : Nat → Int} (hk : cl = kcl k) (hI : InB (nwH h cl 6) (nwC c (mN h) v) (mN h) k (n : Int) ((19 : Nat) : Int) h' c') : Hx h h' ∧ (mN h' = mN h + 7 ∧ mS h' = mS h + 36) ∧ Bot h' c' (mN h) n k ∧ LV c' (mN h + 1) 0 0 0 0 0 (fun _ => 0) ∧ ∀ a, a < mN h → c' a = c a := by
  obtain ⟨i1, ⟨i2, i3⟩, ⟨i4, i5, i6⟩, i7, ⟨j1, j2, j3, j4, j5, j6⟩, i8⟩ := hI
  have e1 : mN (nwH h cl 6) = mN h + 1 := rfl
  have e2 : mS (nwH h cl 6) = mS h + 6 := rfl
  rw [e1] at i2 i4 i5 i6 i7 j4 j5 j6 i8
  rw [e2] at i3
  refine ⟨Hx.nw.trans i1, ⟨by omega, by omega⟩, ⟨⟨by omega, ?_⟩, ⟨j1, j2, j3, j4, j5, j6⟩, i4, i5, i6⟩, i7, fun a ha => ?_⟩
  · rw [(i1.2 (mN h) (by omega)).1, ← hk]; exact nwK
  · rw [i8 a (by omega) (by omega), nwC_o (by omega)]
set_option maxHeartbeats 4000000 in
set_option maxRecDepth 100000 in
theorem c_made {d : Nat} {h : Hp} {c : Nat → Nat → Int} {B : Nat → Nat} {s im : Nat → Int} {hi : Int} {L : List Int} (hL : Lay h) (hR : RepC h c B s im hi L) {k : Int} (hk : 0 ≤ k ∧ k ≤ 6) : Ok (d + 5) 121 [(1, ((0 : Nat) : Int)), (0, k)] (wC h c) (fun r h2 => r = some (1, ((mN h : Nat) : Int)) ∧ ∃ h' c', h2 = wC h' c' ∧ Hx h h' ∧ (mN h' = mN h + 7 ∧ mS h' = mS h + 36) ∧ Bot h' c' (mN h) (s 29).toNat k ∧ LV c' (mN h + 1) 0 0 0 0 0 (fun _ => 0) ∧ ∀ a, a < mN h → c' a = c a) := by
  show Ex _ none t_X10_madeOf 0 0 _ [] (wC h c) _
  have h55 := hL.1
  refine E_load rfl rfl rfl ?_
  refine E_getr (c := 11) (r := 42) rfl (hL.lt 0 rfl) (hL.k 0 rfl) rfl (hR.C.g 0 11 42 (by decide)) ?_
  refine E_V0 (q := 42) (c := 0) (y := 3) rfl rfl (hL.lt 42 rfl) (hL.k 42 rfl) rfl rfl rfl rfl (j_size hL hR.list) (fun r h2 hq => ?_)
  obtain ⟨rfl, hh⟩ := hq
  subst hh
  refine E_store rfl rfl rfl ?_
  refine E_load rfl rfl rfl ?_
  rcases (show k = 1 ∨ k = 2 ∨ k = 3 ∨ k = 4 ∨ k = 5 ∨ k = 6 ∨ k = 0 by omega) with rfl | rfl | rfl | rfl | rfl | rfl | rfl
  · refine E_sw (t := 48) rfl (by omega) (rfl) ?_
    refine E_newg rfl rfl ?_
    refine E_dup rfl rfl ?_
    refine E_load rfl rfl rfl ?_
    refine E_load rfl rfl rfl ?_
    refine E_load rfl rfl rfl ?_
    have hL1 : Lay (nwH h 5 6) := hL.x Hx.nw
    refine E_getr (h := wC (nwH h 5 6) (nwC c (mN h) (mDef 5))) (c := 11) (r := 19) rfl (hL1.lt 0 rfl) (hL1.k 0 rfl) rfl (show nwC c (mN h) (mDef 5) 0 6 = _ from by rw [nwC_o (by omega)]; exact hR.C.g 0 6 19 (by decide)) ?_
    refine E_V3 (h := wC (nwH h 5 6) (nwC c (mN h) (mDef 5))) (q := mN h) (c := 5) (y := 47) rfl rfl (show mN h < mN h + 1 from Nat.lt_succ_self _) (nwK (h := h) (kd := 5) (ln := 6)) rfl rfl rfl rfl (c_initHard (h := nwH h 5 6) (c := nwC c (mN h) (mDef 5)) (show mN h < mN h + 1 from Nat.lt_succ_self _) (nwK (h := h) (kd := 5) (ln := 6)) (by omega)) (fun r h2 hq => ?_)
    obtain ⟨rfl, h', c', hh, hI⟩ := hq
    subst hh
    refine E_aret rfl ?_
    exact ⟨rfl, h', c', rfl, InB.bot rfl hI⟩
  · refine E_sw (t := 62) rfl (by omega) (rfl) ?_
    refine E_newg rfl rfl ?_
    refine E_dup rfl rfl ?_
    refine E_load rfl rfl rfl ?_
    refine E_load rfl rfl rfl ?_
    refine E_load rfl rfl rfl ?_
    have hL1 : Lay (nwH h 9 6) := hL.x Hx.nw
    refine E_getr (h := wC (nwH h 9 6) (nwC c (mN h) (mDef 9))) (c := 11) (r := 19) rfl (hL1.lt 0 rfl) (hL1.k 0 rfl) rfl (show nwC c (mN h) (mDef 9) 0 6 = _ from by rw [nwC_o (by omega)]; exact hR.C.g 0 6 19 (by decide)) ?_
    refine E_V3 (h := wC (nwH h 9 6) (nwC c (mN h) (mDef 9))) (q := mN h) (c := 9) (y := 67) rfl rfl (show mN h < mN h + 1 from Nat.lt_succ_self _) (nwK (h := h) (kd := 9) (ln := 6)) rfl rfl rfl rfl (c_initSweet (h := nwH h 9 6) (c := nwC c (mN h) (mDef 9)) (show mN h < mN h + 1 from Nat.lt_succ_self _) (nwK (h := h) (kd := 9) (ln := 6)) (by omega)) (fun r h2 hq => ?_)
    obtain ⟨rfl, h', c', hh, hI⟩ := hq
    subst hh
    refine E_aret rfl ?_
    exact ⟨rfl, h', c', rfl, InB.bot rfl hI⟩
  · refine E_sw (t := 76) rfl (by omega) (rfl) ?_
    refine E_newg rfl rfl ?_
    refine E_dup rfl rfl ?_
    refine E_load rfl rfl rfl ?_
    refine E_load rfl rfl rfl ?_
    refine E_load rfl rfl rfl ?_
    have hL1 : Lay (nwH h 3 6) := hL.x Hx.nw
    refine E_getr (h := wC (nwH h 3 6) (nwC c (mN h) (mDef 3))) (c := 11) (r := 19) rfl (hL1.lt 0 rfl) (hL1.k 0 rfl) rfl (show nwC c (mN h) (mDef 3) 0 6 = _ from by rw [nwC_o (by omega)]; exact hR.C.g 0 6 19 (by decide)) ?_
    refine E_V3 (h := wC (nwH h 3 6) (nwC c (mN h) (mDef 3))) (q := mN h) (c := 3) (y := 41) rfl rfl (show mN h < mN h + 1 from Nat.lt_succ_self _) (nwK (h := h) (kd := 3) (ln := 6)) rfl rfl rfl rfl (c_initCork (h := nwH h 3 6) (c := nwC c (mN h) (mDef 3)) (show mN h < mN h + 1 from Nat.lt_succ_self _) (nwK (h := h) (kd := 3) (ln := 6)) (by omega)) (fun r h2 hq => ?_)
    obtain ⟨rfl, h', c', hh, hI⟩ := hq
    subst hh
    refine E_aret rfl ?_
    exact ⟨rfl, h', c', rfl, InB.bot rfl hI⟩
  · refine E_sw (t := 90) rfl (by omega) (rfl) ?_
    refine E_newg rfl rfl ?_
    refine E_dup rfl rfl ?_
    refine E_load rfl rfl rfl ?_
    refine E_load rfl rfl rfl ?_
    refine E_load rfl rfl rfl ?_
    have hL1 : Lay (nwH h 4 6) := hL.x Hx.nw
    refine E_getr (h := wC (nwH h 4 6) (nwC c (mN h) (mDef 4))) (c := 11) (r := 19) rfl (hL1.lt 0 rfl) (hL1.k 0 rfl) rfl (show nwC c (mN h) (mDef 4) 0 6 = _ from by rw [nwC_o (by omega)]; exact hR.C.g 0 6 19 (by decide)) ?_
    refine E_V3 (h := wC (nwH h 4 6) (nwC c (mN h) (mDef 4))) (q := mN h) (c := 4) (y := 44) rfl rfl (show mN h < mN h + 1 from Nat.lt_succ_self _) (nwK (h := h) (kd := 4) (ln := 6)) rfl rfl rfl rfl (c_initFeud (h := nwH h 4 6) (c := nwC c (mN h) (mDef 4)) (show mN h < mN h + 1 from Nat.lt_succ_self _) (nwK (h := h) (kd := 4) (ln := 6)) (by omega)) (fun r h2 hq => ?_)
    obtain ⟨rfl, h', c', hh, hI⟩ := hq
    subst hh
    refine E_aret rfl ?_
    exact ⟨rfl, h', c', rfl, InB.bot rfl hI⟩
  · refine E_sw (t := 104) rfl (by omega) (rfl) ?_
    refine E_newg rfl rfl ?_
    refine E_dup rfl rfl ?_
    refine E_load rfl rfl rfl ?_
    refine E_load rfl rfl rfl ?_
    refine E_load rfl rfl rfl ?_
    have hL1 : Lay (nwH h 7 6) := hL.x Hx.nw
    refine E_getr (h := wC (nwH h 7 6) (nwC c (mN h) (mDef 7))) (c := 11) (r := 19) rfl (hL1.lt 0 rfl) (hL1.k 0 rfl) rfl (show nwC c (mN h) (mDef 7) 0 6 = _ from by rw [nwC_o (by omega)]; exact hR.C.g 0 6 19 (by decide)) ?_
    refine E_V3 (h := wC (nwH h 7 6) (nwC c (mN h) (mDef 7))) (q := mN h) (c := 7) (y := 55) rfl rfl (show mN h < mN h + 1 from Nat.lt_succ_self _) (nwK (h := h) (kd := 7) (ln := 6)) rfl rfl rfl rfl (c_initLove (h := nwH h 7 6) (c := nwC c (mN h) (mDef 7)) (show mN h < mN h + 1 from Nat.lt_succ_self _) (nwK (h := h) (kd := 7) (ln := 6)) (by omega)) (fun r h2 hq => ?_)
    obtain ⟨rfl, h', c', hh, hI⟩ := hq
    subst hh
    refine E_aret rfl ?_
    exact ⟨rfl, h', c', rfl, InB.bot rfl hI⟩
  · refine E_sw (t := 118) rfl (by omega) (rfl) ?_
    refine E_newg rfl rfl ?_
    refine E_dup rfl rfl ?_
    refine E_load rfl rfl rfl ?_
    refine E_load rfl rfl rfl ?_
    refine E_load rfl rfl rfl ?_
    have hL1 : Lay (nwH h 10 6) := hL.x Hx.nw
    refine E_getr (h := wC (nwH h 10 6) (nwC c (mN h) (mDef 10))) (c := 11) (r := 19) rfl (hL1.lt 0 rfl) (hL1.k 0 rfl) rfl (show nwC c (mN h) (mDef 10) 0 6 = _ from by rw [nwC_o (by omega)]; exact hR.C.g 0 6 19 (by decide)) ?_
    refine E_V3 (h := wC (nwH h 10 6) (nwC c (mN h) (mDef 10))) (q := mN h) (c := 10) (y := 70) rfl rfl (show mN h < mN h + 1 from Nat.lt_succ_self _) (nwK (h := h) (kd := 10) (ln := 6)) rfl rfl rfl rfl (c_initTold (h := nwH h 10 6) (c := nwC c (mN h) (mDef 10)) (show mN h < mN h + 1 from Nat.lt_succ_self _) (nwK (h := h) (kd := 10) (ln := 6)) (by omega)) (fun r h2 hq => ?_)
    obtain ⟨rfl, h', c', hh, hI⟩ := hq
    subst hh
    refine E_aret rfl ?_
    exact ⟨rfl, h', c', rfl, InB.bot rfl hI⟩
  · refine E_sw (t := 132) rfl (by omega) (rfl) ?_
    refine E_newg rfl rfl ?_
    refine E_dup rfl rfl ?_
    refine E_load rfl rfl rfl ?_
    refine E_load rfl rfl rfl ?_
    refine E_load rfl rfl rfl ?_
    have hL1 : Lay (nwH h 1 6) := hL.x Hx.nw
    refine E_getr (h := wC (nwH h 1 6) (nwC c (mN h) (mDef 1))) (c := 11) (r := 19) rfl (hL1.lt 0 rfl) (hL1.k 0 rfl) rfl (show nwC c (mN h) (mDef 1) 0 6 = _ from by rw [nwC_o (by omega)]; exact hR.C.g 0 6 19 (by decide)) ?_
    refine E_V3 (h := wC (nwH h 1 6) (nwC c (mN h) (mDef 1))) (q := mN h) (c := 1) (y := 10) rfl rfl (show mN h < mN h + 1 from Nat.lt_succ_self _) (nwK (h := h) (kd := 1) (ln := 6)) rfl rfl rfl rfl (c_initB (h := nwH h 1 6) (c := nwC c (mN h) (mDef 1)) (show mN h < mN h + 1 from Nat.lt_succ_self _) (by rw [nwK (h := h) (kd := 1) (ln := 6)]; exact Or.inl rfl)) (fun r h2 hq => ?_)
    obtain ⟨rfl, h', c', hh, hI⟩ := hq
    subst hh
    refine E_aret rfl ?_
    exact ⟨rfl, h', c', rfl, InB.bot rfl hI⟩
