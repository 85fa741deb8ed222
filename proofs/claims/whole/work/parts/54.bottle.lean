theorem E_castB {d : Nat} {sc : Option (Nat × (Nat → Int))} {tb : List ME} {rk pc nx : Nat} {b : Int} {l : List (Int × Int)} {lv st : List AV} {h : Hp} {Q : Option AV → Hp → Prop} {q : Nat} (hat : mAt tb pc = some (nx, 37, 1, b, l)) (hq : q < mN h) (hk : IsB (mK h q)) (k : Ex d sc tb rk nx lv ((1, (q : Int)) :: st) h Q) : Ex d sc tb rk pc lv ((1, (q : Int)) :: st) h Q := by
  obtain ⟨f1, f2, f3⟩ := hk.ft
  refine k.step hat rfl ?_
  simp only [mStep, mAd_of hq]
  rw [if_pos ⟨f3, f2⟩]
theorem c_spoken {d : Nat} {h : Hp} {c : Nat → Nat → Int} {p q b : Nat} {kind v w y u em : Int} {tel : Nat → Int} (hB : Bot h c p b kind) (hQ : La h c q) (hV : LV c q v w y u em tel) (hk : 0 ≤ kind ∧ kind ≤ 6) (hv : 0 ≤ v ∧ v ≤ 9) (hw : -99 ≤ w ∧ w ≤ 99) (hy : 0 ≤ y ∧ y ≤ 199) (hu : 0 ≤ u ∧ u ≤ 3) (hb : b < 6) {soft : Int} (hs : 0 ≤ soft ∧ soft ≤ 3000000) : ∃ n, (vt 105).lookup (mK h p) = some n ∧ (mt n).2.2.1 = 3 ∧ Nat.ble 3 (mt n).2.1 = true ∧ Ok (d + 4) n [(1, ((p : Nat) : Int)), (1, ((q : Nat) : Int)), (0, soft)] (wC h c) (fun r h2 => r = some (0, sayK kind v w y u (tel u.toNat) soft) ∧ h2 = wC h c) := by
  have hp : p < mN h := by have := hB.1.1; omega
  have hkc := hB.1.2
  rcases (show kind = 0 ∨ kind = 1 ∨ kind = 2 ∨ kind = 3 ∨ kind = 4 ∨ kind = 5 ∨ kind = 6 by omega) with rfl | rfl | rfl | rfl | rfl | rfl | rfl
  · exact ⟨15, by rw [hkc]; rfl, rfl, rfl, k_bottle hQ hV hv hw hy hu hs⟩
  · exact ⟨48, by rw [hkc]; rfl, rfl, rfl, k_hard hQ hV hv hw hy hu hs⟩
  · exact ⟨68, by rw [hkc]; rfl, rfl, rfl, k_sweet hQ hV hv hw hy hu hs⟩
  · exact ⟨42, by rw [hkc]; rfl, rfl, rfl, k_corked hQ hV hv hw hy hu hs hp (Or.inl hkc)⟩
  · exact ⟨45, by rw [hkc]; rfl, rfl, rfl, k_feud hQ hV hv hw hy hu hs hp hkc⟩
  · exact ⟨56, by rw [hkc]; rfl, rfl, rfl, k_love hQ hV hv hw hy hu hs hp hkc⟩
  · exact ⟨71, by rw [hkc]; rfl, rfl, rfl, k_told hQ hV hv hw hy hu hs hp hkc⟩
set_option maxHeartbeats 4000000 in
set_option maxRecDepth 100000 in
theorem c_says0 {d : Nat} {h : Hp} {c : Nat → Nat → Int} (hL : Lay h) (hC : Cc c) {cl : List CLA} (hH : HoldC (c 29 3) (c 30) (c 32 3) (c 33) cl) {p q b : Nat} {kind v w y u em : Int} {tel : Nat → Int} (hB : Bot h c p b kind) (hQ : La h c q) (hV : LV c q v w y u em tel) (hk : 0 ≤ kind ∧ kind ≤ 6) (hv : 0 ≤ v ∧ v ≤ 9) (hw : -99 ≤ w ∧ w ≤ 99) (hy : 0 ≤ y ∧ y ≤ 199) (hu : 0 ≤ u ∧ u ≤ 3) (hb : b < 6) : Ok (d + 8) 122 [(1, ((0 : Nat) : Int)), (1, ((p : Nat) : Int)), (1, ((q : Nat) : Int))] (wC h c) (fun r h2 => r = some (0, sayK kind v w y u (tel u.toNat) (softK (rtC (envK (b : Int) kind v w y u) cl) y)) ∧ h2 = wC h c) := by
  show Ex _ none t_X10_says 0 0 _ [] (wC h c) _
  have hr := rtC_in (e := (envK (b : Int) kind v w y u)) cl hH.2.2.2.2.2
  have hl := hH.2.2.2.2.1.1
  have hsf : 0 ≤ softK (rtC (envK (b : Int) kind v w y u) cl) y ∧ softK (rtC (envK (b : Int) kind v w y u) cl) y ≤ 3000000 := by
    unfold softK
    split
    · omega
    · have h4 : 0 ≤ y * (10 + rtC (envK (b : Int) kind v w y u) cl) := Int.mul_nonneg hy.1 (by omega)
      have h5 : y * (10 + rtC (envK (b : Int) kind v w y u) cl) ≤ 199 * 1010 := Int.le_trans (Int.mul_le_mul_of_nonneg_right hy.2 (by omega)) (Int.mul_le_mul_of_nonneg_left (by omega) (by omega))
      rw [Int.tdiv_eq_ediv_of_nonneg h4]
      omega
  obtain ⟨n, hn1, hn2, hn3, hn4⟩ := c_spoken (d := d + 3) hB hQ hV hk hv hw hy hu hb hsf
  refine E_load rfl rfl rfl ?_
  refine E_load rfl rfl rfl ?_
  refine E_load rfl rfl rfl ?_
  refine E_getr (c := 11) (r := 28) rfl (hL.lt 0 rfl) (hL.k 0 rfl) rfl (hC.g 0 9 28 (by decide)) ?_
  refine E_load rfl rfl rfl ?_
  refine E_load rfl rfl rfl ?_
  refine E_V2 (q := 28) (c := 2) (y := 26) rfl rfl (hL.lt 28 rfl) (hL.k 28 rfl) rfl rfl rfl rfl (c_soft hL hC hH hB hQ hV hk hv hw hy hu hb) (fun r h2 hq => ?_)
  obtain ⟨rfl, hh⟩ := hq
  subst hh
  refine E_V2 (q := p) (c := mK h p) (y := n) rfl rfl (by have := hB.1.1; omega : p < mN h) rfl hn1 hn2 rfl hn3 hn4 (fun r h2 hq => ?_)
  obtain ⟨rfl, hh⟩ := hq
  subst hh
  refine E_iret rfl (fun h => absurd h (by decide)) ?_
  exact ⟨rfl, rfl⟩
/-- bottle b lies so as row t says -/
def LaidS (c : Nat → Nat → Int) (q : Nat) (t : Nat → Int) (b : Nat) : Prop := LV c q (t (43 + b)) (t (1 + b)) (t (7 + b)) (t (13 + b)) (t (19 + b)) (fun k => t (49 + 4 * b + k))
theorem c_says {d : Nat} {h : Hp} {c : Nat → Nat → Int} (hL : Lay h) (hC : Cc c) {cl : List CLA} (hH : HoldC (c 29 3) (c 30) (c 32 3) (c 33) cl) {t : Nat → Int} (hI : InvB t) (hHS : HoldS t cl) {p q b : Nat} (hB : Bot h c p b (t (37 + b))) (hQ : La h c q) (hV : LaidS c q t b) (hb : b < 6) : Ok (d + 8) 122 [(1, ((0 : Nat) : Int)), (1, ((p : Nat) : Int)), (1, ((q : Nat) : Int))] (wC h c) (fun r h2 => r = some (0, syS t b) ∧ h2 = wC h c) := by
  obtain ⟨i1, i2, i3, i4, i5, i6, i7⟩ := hI b hb
  have e : syS t b = sayK (t (37 + b)) (t (43 + b)) (t (1 + b)) (t (7 + b)) (t (13 + b)) ((fun k => t (49 + 4 * b + k)) (t (13 + b)).toNat) (softK (rtC (envK (b : Int) (t (37 + b)) (t (43 + b)) (t (1 + b)) (t (7 + b)) (t (13 + b))) cl) (t (7 + b))) := by
    unfold syS sfS lkS
    rw [hHS.1, lk_steps hH.2.2.2.2.2]
    rfl
  rw [e]
  exact c_says0 hL hC hH hB hQ hV i5 i6 i1 i2 i3 hb
def LBp (h : Hp) (c : Nat → Nat → Int) (n : Nat) (B : Nat → Nat) : Prop := c 42 2 = (n : Int) ∧ n ≤ 6 ∧ ((c 42 1 = -2 ∧ n = 0) ∨ ∃ E : Nat, c 42 1 = (E : Int) ∧ (55 ≤ E ∧ E < mN h) ∧ mK h E = 22 ∧ mL h E = 10 ∧ (∀ i, i < n → c E i = (B i : Int)) ∧ ∀ i, i < n → E < B i ∨ B i + 6 < E)
theorem j_check0 {d : Nat} {h : Hp} {i n : Nat} (hi : i < n) (hn : n ≤ 100) : Ok (d) 230 [(0, (i : Int)), (0, (n : Int)), (1, -1)] h (fun r h2 => r = some (0, (i : Int)) ∧ h2 = h) := by
  show Ex _ none t_J3_checkIndex_8e157 0 0 _ [] h _
  refine E_load rfl rfl rfl ?_
  refine E_if2 rfl (by omega) (fun c1 => by omega) (fun c1 => ?_)
  refine E_load rfl rfl rfl ?_
  refine E_load rfl rfl rfl ?_
  refine E_cmp2 rfl (by omega) (fun c2 => ?_) (fun c2 => by omega)
  refine E_load rfl rfl rfl ?_
  refine E_iret rfl (fun h => absurd h (by decide)) ?_
  exact ⟨rfl, rfl⟩
theorem j_check {d : Nat} {h : Hp} {i n : Nat} (hi : i < n) (hn : n ≤ 100) : Ok (d + 1) 229 [(0, (i : Int)), (0, (n : Int))] h (fun r h2 => r = some (0, (i : Int)) ∧ h2 = h) := by
  show Ex _ none t_J15_checkIndex_7cf53 0 0 _ [] h _
  refine E_load rfl rfl rfl ?_
  refine E_load rfl rfl rfl ?_
  refine E_nul rfl ?_
  refine E_S3 (y := 230) rfl rfl rfl rfl rfl (j_check0 hi hn) (fun r h2 hq => ?_)
  obtain ⟨rfl, rfl⟩ := hq
  refine E_iret rfl (fun h => absurd h (by decide)) ?_
  exact ⟨rfl, rfl⟩
set_option maxHeartbeats 4000000 in
set_option maxRecDepth 100000 in
theorem j_size {d : Nat} {h : Hp} {c : Nat → Nat → Int} (hL : Lay h) {n : Nat} {B : Nat → Nat} (hB : LBp h c n B) : Ok (d) 3 [(1, ((42 : Nat) : Int))] (wC h c) (fun r h2 => r = some (0, (n : Int)) ∧ h2 = wC h c) := by
  show Ex _ none t_Jx4a65c_size_8abf5 0 0 _ [] (wC h c) _
  refine E_load rfl rfl rfl ?_
  refine E_getf (c := 0) (v := (0, ((n : Nat) : Int))) rfl (hL.lt 42 rfl) (hL.k 42 rfl) rfl (fv (hB.1)) ?_
  refine E_iret rfl (fun h => absurd h (by decide)) ?_
  exact ⟨rfl, rfl⟩
set_option maxHeartbeats 4000000 in
set_option maxRecDepth 100000 in
theorem j_elem {d : Nat} {h : Hp} {c : Nat → Nat → Int} (hL : Lay h) {n i : Nat} {B : Nat → Nat} (hB : LBp h c n B) (hi : i < n) : Ok (d) 4 [(1, ((42 : Nat) : Int)), (0, (i : Int))] (wC h c) (fun r h2 => r = some (1, (B i : Int)) ∧ h2 = wC h c) := by
  show Ex _ none t_Jx4a65c_elementData_915e3 0 0 _ [] (wC h c) _
  obtain ⟨b1, b2, ⟨-, b3⟩ | ⟨E, e1, e2, e3, e4, e5, e6⟩⟩ := hB
  · omega
  refine E_load rfl rfl rfl ?_
  refine E_getr (c := 0) (r := E) rfl (hL.lt 42 rfl) (hL.k 42 rfl) rfl (e1) ?_
  refine E_load rfl rfl rfl ?_
  refine E_aal rfl e2.2 e3 (by omega) (by rw [show mL (wC h c) _ = _ from e4]; omega) (by omega) ((rdC (by omega)).trans (e5 i hi)) ?_
  refine E_aret rfl ?_
  exact ⟨rfl, rfl⟩
set_option maxHeartbeats 4000000 in
set_option maxRecDepth 100000 in
theorem j_get {d : Nat} {h : Hp} {c : Nat → Nat → Int} (hL : Lay h) {n i : Nat} {B : Nat → Nat} (hB : LBp h c n B) (hi : i < n) : Ok (d + 2) 5 [(1, ((42 : Nat) : Int)), (0, (i : Int))] (wC h c) (fun r h2 => r = some (1, (B i : Int)) ∧ h2 = wC h c) := by
  show Ex _ none t_Jx4a65c_get_915e3 0 0 _ [] (wC h c) _
  refine E_load rfl rfl rfl ?_
  refine E_load rfl rfl rfl ?_
  refine E_getf (c := 0) (v := (0, ((n : Nat) : Int))) rfl (hL.lt 42 rfl) (hL.k 42 rfl) rfl (fv (hB.1)) ?_
  refine E_S2 (y := 229) rfl rfl rfl rfl rfl (j_check hi (by have := hB.2.1; omega)) (fun r h2 hq => ?_)
  obtain ⟨rfl, hh⟩ := hq
  subst hh
  refine E_pop rfl rfl ?_
  refine E_load rfl rfl rfl ?_
  refine E_load rfl rfl rfl ?_
  refine E_V1 (q := 42) (c := 0) (y := 4) rfl rfl (hL.lt 42 rfl) (hL.k 42 rfl) rfl rfl rfl rfl (j_elem hL hB hi) (fun r h2 hq => ?_)
  obtain ⟨rfl, hh⟩ := hq
  subst hh
  refine E_aret rfl ?_
  exact ⟨rfl, rfl⟩
set_option maxHeartbeats 4000000 in
set_option maxRecDepth 100000 in
theorem c_botY {d : Nat} {h : Hp} {c : Nat → Nat → Int} (hL : Lay h) (hC : Cc c) {n : Nat} {B : Nat → Nat} (hB : LBp h c n B) {b : Nat} (hb : b < n) (hp : B b < mN h ∧ IsB (mK h (B b))) : Ok (d + 3) 120 [(1, ((0 : Nat) : Int)), (0, (b : Int))] (wC h c) (fun r h2 => r = some (1, ((B b : Nat) : Int)) ∧ h2 = wC h c) := by
  show Ex _ none t_X10_bottleAt 0 0 _ [] (wC h c) _
  have hn6 := hB.2.1
  refine E_load rfl rfl rfl ?_
  refine E_if2 rfl (by omega) (fun q1 => ?_) (fun q1 => ?_)
  · exfalso; omega
  · refine E_load rfl rfl rfl ?_
    refine E_load rfl rfl rfl ?_
    refine E_getr (c := 11) (r := 42) rfl (hL.lt 0 rfl) (hL.k 0 rfl) rfl (hC.g 0 11 42 (by decide)) ?_
    refine E_V0 (q := 42) (c := 0) (y := 3) rfl rfl (hL.lt 42 rfl) (hL.k 42 rfl) rfl rfl rfl rfl (j_size hL hB) (fun r h2 hq => ?_)
    obtain ⟨rfl, hh⟩ := hq
    subst hh
    refine E_cmp3 rfl (by omega) (fun q2 => ?_) (fun q2 => ?_)
    · exfalso; omega
    · refine E_load rfl rfl rfl ?_
      refine E_getr (c := 11) (r := 42) rfl (hL.lt 0 rfl) (hL.k 0 rfl) rfl (hC.g 0 11 42 (by decide)) ?_
      refine E_load rfl rfl rfl ?_
      refine E_V1 (q := 42) (c := 0) (y := 5) rfl rfl (hL.lt 42 rfl) (hL.k 42 rfl) rfl rfl rfl rfl (j_get hL hB (by omega)) (fun r h2 hq => ?_)
      obtain ⟨rfl, hh⟩ := hq
      subst hh
      refine E_castB rfl hp.1 hp.2 ?_
      refine E_goto rfl ?_
      refine E_aret rfl ?_
      exact ⟨rfl, rfl⟩
set_option maxHeartbeats 4000000 in
set_option maxRecDepth 100000 in
theorem c_botN {d : Nat} {h : Hp} {c : Nat → Nat → Int} (hL : Lay h) (hC : Cc c) {n : Nat} {B : Nat → Nat} (hB : LBp h c n B) {x : Int} (hx : inR x) (hb : ¬ (0 ≤ x ∧ x < (n : Int))) : Ok (d + 3) 120 [(1, ((0 : Nat) : Int)), (0, x)] (wC h c) (fun r h2 => r = some (1, -1) ∧ h2 = wC h c) := by
  show Ex _ none t_X10_bottleAt 0 0 _ [] (wC h c) _
  have hn6 := hB.2.1
  refine E_load rfl rfl rfl ?_
  refine E_if2 rfl (by omega) (fun q1 => ?_) (fun q1 => ?_)
  · refine E_nul rfl ?_
    refine E_aret rfl ?_
    exact ⟨rfl, rfl⟩
  · refine E_load rfl rfl rfl ?_
    refine E_load rfl rfl rfl ?_
    refine E_getr (c := 11) (r := 42) rfl (hL.lt 0 rfl) (hL.k 0 rfl) rfl (hC.g 0 11 42 (by decide)) ?_
    refine E_V0 (q := 42) (c := 0) (y := 3) rfl rfl (hL.lt 42 rfl) (hL.k 42 rfl) rfl rfl rfl rfl (j_size hL hB) (fun r h2 hq => ?_)
    obtain ⟨rfl, hh⟩ := hq
    subst hh
    refine E_cmp3 rfl (by omega) (fun q2 => ?_) (fun q2 => ?_)
    · refine E_nul rfl ?_
      refine E_aret rfl ?_
      exact ⟨rfl, rfl⟩
    · exfalso; omega
theorem LV.of {c c2 : Nat → Nat → Int} {q p : Nat} {v w y u e : Int} {tel : Nat → Int} (h : LV c p v w y u e tel) (h1 : ∀ k, 1 ≤ k → k ≤ 5 → c2 q k = c p k) (h2 : ∀ j, j < 4 → c2 (q + 1) j = c (p + 1) j) : LV c2 q v w y u e tel :=
  ⟨⟨(h1 1 (by omega) (by omega)).trans h.1.1, (h1 2 (by omega) (by omega)).trans h.1.2.1, (h1 3 (by omega) (by omega)).trans h.1.2.2.1, (h1 4 (by omega) (by omega)).trans h.1.2.2.2.1, (h1 5 (by omega) (by omega)).trans h.1.2.2.2.2⟩, fun k hk => (h2 k hk).trans (h.2 k hk)⟩
theorem La.of {h : Hp} {c c2 : Nat → Nat → Int} {q : Nat} (hQ : La h c q) (e : c2 q 0 = c q 0) : La h c2 q := ⟨hQ.1, hQ.2.1, hQ.2.2.1, hQ.2.2.2.1, e.trans hQ.2.2.2.2⟩
set_option maxHeartbeats 4000000 in
set_option maxRecDepth 100000 in
theorem b_keep {d : Nat} {h : Hp} {c : Nat → Nat → Int} {p b : Nat} {kind v w y u e : Int} {tel : Nat → Int} (hB : Bot h c p b kind) (hV : LV c (p + 1) v w y u e tel) (he : e = 0 ∨ e = 1) : Ok (d + 2) 11 [(1, ((p : Nat) : Int))] (wC h c) (fun r h2 => r = none ∧ ∃ c2, h2 = wC h c2 ∧ LV c2 (p + 3) v w y u e tel ∧ EqP (fun a k => a = p + 4 ∨ (a = p + 3 ∧ 1 ≤ k ∧ k ≤ 5)) c c2) := by
  show Ex _ none t_X0_keep 0 0 _ [] (wC h c) _
  refine E_load rfl rfl rfl ?_
  refine E_getrB (r := (p + 3)) rfl (by have := hB.1.1; omega : p < mN h) hB.isB rfl (hB.2.1.2.2.2.2.1) ?_
  refine E_load rfl rfl rfl ?_
  refine E_getrB (r := (p + 1)) rfl (by have := hB.1.1; omega : p < mN h) hB.isB rfl (hB.2.1.2.2.2.1) ?_
  refine E_V1 (q := (p + 3)) (c := 6) (y := 51) rfl rfl (by have := hB.1.1; omega : p + 3 < mN h) hB.2.2.2.1.2.1 rfl rfl rfl rfl (l_copy hB.2.2.2.1 hB.2.2.1 (by omega) (by rw [hV.1.2.2.2.2]; exact he)) (fun r h2 hq => ?_)
  obtain ⟨rfl, c_1, hh, hF_1, hJ_1, hE_1⟩ := hq
  subst hh
  have hfp_3_1 : c_1 p 3 = (((p + 1) : Nat) : Int) := (hE_1 p 3 (by omega)).trans (hB.2.1.2.2.2.1)
  have hfp_4_1 : c_1 p 4 = (((p + 3) : Nat) : Int) := (hE_1 p 4 (by omega)).trans (hB.2.1.2.2.2.2.1)
  have hfp_5_1 : c_1 p 5 = (((p + 5) : Nat) : Int) := (hE_1 p 5 (by omega)).trans (hB.2.1.2.2.2.2.2)
  refine E_vret rfl ?_
  exact ⟨rfl, c_1, rfl, hV.of hF_1 hJ_1, hE_1⟩
set_option maxHeartbeats 4000000 in
set_option maxRecDepth 100000 in
theorem b_restore {d : Nat} {h : Hp} {c : Nat → Nat → Int} {p b : Nat} {kind v w y u e : Int} {tel : Nat → Int} (hB : Bot h c p b kind) (hV : LV c (p + 3) v w y u e tel) (he : e = 0 ∨ e = 1) : Ok (d + 2) 12 [(1, ((p : Nat) : Int))] (wC h c) (fun r h2 => r = none ∧ ∃ c2, h2 = wC h c2 ∧ LV c2 (p + 1) v w y u e tel ∧ EqP (fun a k => a = p + 2 ∨ (a = p + 1 ∧ 1 ≤ k ∧ k ≤ 5)) c c2) := by
  show Ex _ none t_X0_restore 0 0 _ [] (wC h c) _
  refine E_load rfl rfl rfl ?_
  refine E_getrB (r := (p + 1)) rfl (by have := hB.1.1; omega : p < mN h) hB.isB rfl (hB.2.1.2.2.2.1) ?_
  refine E_load rfl rfl rfl ?_
  refine E_getrB (r := (p + 3)) rfl (by have := hB.1.1; omega : p < mN h) hB.isB rfl (hB.2.1.2.2.2.2.1) ?_
  refine E_V1 (q := (p + 1)) (c := 6) (y := 51) rfl rfl (by have := hB.1.1; omega : p + 1 < mN h) hB.2.2.1.2.1 rfl rfl rfl rfl (l_copy hB.2.2.1 hB.2.2.2.1 (by omega) (by rw [hV.1.2.2.2.2]; exact he)) (fun r h2 hq => ?_)
  obtain ⟨rfl, c_1, hh, hF_1, hJ_1, hE_1⟩ := hq
  subst hh
  have hfp_3_1 : c_1 p 3 = (((p + 1) : Nat) : Int) := (hE_1 p 3 (by omega)).trans (hB.2.1.2.2.2.1)
  have hfp_4_1 : c_1 p 4 = (((p + 3) : Nat) : Int) := (hE_1 p 4 (by omega)).trans (hB.2.1.2.2.2.2.1)
  have hfp_5_1 : c_1 p 5 = (((p + 5) : Nat) : Int) := (hE_1 p 5 (by omega)).trans (hB.2.1.2.2.2.2.2)
  refine E_vret rfl ?_
  exact ⟨rfl, c_1, rfl, hV.of hF_1 hJ_1, hE_1⟩
set_option maxHeartbeats 4000000 in
set_option maxRecDepth 100000 in
theorem b_tryNow {d : Nat} {h : Hp} {c : Nat → Nat → Int} {p b : Nat} {kind v w y u e : Int} {tel : Nat → Int} (hB : Bot h c p b kind) (hV : LV c (p + 1) v w y u e tel) (he : e = 0 ∨ e = 1) : Ok (d + 2) 13 [(1, ((p : Nat) : Int))] (wC h c) (fun r h2 => r = some (1, ((p + 5 : Nat) : Int)) ∧ ∃ c2, h2 = wC h c2 ∧ LV c2 (p + 5) v w y u e tel ∧ EqP (fun a k => a = p + 6 ∨ (a = p + 5 ∧ 1 ≤ k ∧ k ≤ 5)) c c2) := by
  show Ex _ none t_X0_tryNow 0 0 _ [] (wC h c) _
  refine E_load rfl rfl rfl ?_
  refine E_getrB (r := (p + 5)) rfl (by have := hB.1.1; omega : p < mN h) hB.isB rfl (hB.2.1.2.2.2.2.2) ?_
  refine E_load rfl rfl rfl ?_
  refine E_getrB (r := (p + 1)) rfl (by have := hB.1.1; omega : p < mN h) hB.isB rfl (hB.2.1.2.2.2.1) ?_
  refine E_V1 (q := (p + 5)) (c := 6) (y := 51) rfl rfl (by have := hB.1.1; omega : p + 5 < mN h) hB.2.2.2.2.2.1 rfl rfl rfl rfl (l_copy hB.2.2.2.2 hB.2.2.1 (by omega) (by rw [hV.1.2.2.2.2]; exact he)) (fun r h2 hq => ?_)
  obtain ⟨rfl, c_1, hh, hF_1, hJ_1, hE_1⟩ := hq
  subst hh
  have hfp_3_1 : c_1 p 3 = (((p + 1) : Nat) : Int) := (hE_1 p 3 (by omega)).trans (hB.2.1.2.2.2.1)
  have hfp_4_1 : c_1 p 4 = (((p + 3) : Nat) : Int) := (hE_1 p 4 (by omega)).trans (hB.2.1.2.2.2.2.1)
  have hfp_5_1 : c_1 p 5 = (((p + 5) : Nat) : Int) := (hE_1 p 5 (by omega)).trans (hB.2.1.2.2.2.2.2)
  refine E_load rfl rfl rfl ?_
  refine E_getrB (r := (p + 5)) rfl (by have := hB.1.1; omega : p < mN h) hB.isB rfl (hfp_5_1) ?_
  refine E_aret rfl ?_
  exact ⟨rfl, c_1, rfl, hV.of hF_1 hJ_1, hE_1⟩
set_option maxHeartbeats 4000000 in
set_option maxRecDepth 100000 in
theorem b_behind {d : Nat} {h : Hp} {c : Nat → Nat → Int} {p b : Nat} {kind v w y u e : Int} {tel : Nat → Int} (hB : Bot h c p b kind) (hV : LV c (p + 1) v w y u e tel) (he : e = 0 ∨ e = 1) (hy : 0 ≤ y ∧ y ≤ 199) {n : Int} (hn : 0 ≤ n ∧ n ≤ 100) : Ok (d + 3) 14 [(1, ((p : Nat) : Int)), (0, n)] (wC h c) (fun r h2 => r = some (1, ((p + 5 : Nat) : Int)) ∧ ∃ c2, h2 = wC h c2 ∧ LV c2 (p + 5) v w (if e = 0 then (if 199 < y + n then 199 else y + n) else y) u e tel ∧ EqP (fun a k => a = p + 6 ∨ (a = p + 5 ∧ 1 ≤ k ∧ k ≤ 5)) c c2) := by
  show Ex _ none t_X0_tryBehind 0 0 _ [] (wC h c) _
  refine E_load rfl rfl rfl ?_
  refine E_getrB (r := (p + 5)) rfl (by have := hB.1.1; omega : p < mN h) hB.isB rfl (hB.2.1.2.2.2.2.2) ?_
  refine E_load rfl rfl rfl ?_
  refine E_getrB (r := (p + 1)) rfl (by have := hB.1.1; omega : p < mN h) hB.isB rfl (hB.2.1.2.2.2.1) ?_
  refine E_V1 (q := (p + 5)) (c := 6) (y := 51) rfl rfl (by have := hB.1.1; omega : p + 5 < mN h) hB.2.2.2.2.2.1 rfl rfl rfl rfl (l_copy hB.2.2.2.2 hB.2.2.1 (by omega) (by rw [hV.1.2.2.2.2]; exact he)) (fun r h2 hq => ?_)
  obtain ⟨rfl, c_1, hh, hF_1, hJ_1, hE_1⟩ := hq
  subst hh
  have hfp_3_1 : c_1 p 3 = (((p + 1) : Nat) : Int) := (hE_1 p 3 (by omega)).trans (hB.2.1.2.2.2.1)
  have hfp_4_1 : c_1 p 4 = (((p + 3) : Nat) : Int) := (hE_1 p 4 (by omega)).trans (hB.2.1.2.2.2.2.1)
  have hfp_5_1 : c_1 p 5 = (((p + 5) : Nat) : Int) := (hE_1 p 5 (by omega)).trans (hB.2.1.2.2.2.2.2)
  refine E_load rfl rfl rfl ?_
  refine E_getrB (r := (p + 5)) rfl (by have := hB.1.1; omega : p < mN h) hB.isB rfl (hfp_5_1) ?_
  refine E_load rfl rfl rfl ?_
  have hV2 := hV.of hF_1 hJ_1
  refine E_V1 (q := (p + 5)) (c := 6) (y := 52) rfl rfl (by have := hB.1.1; omega : p + 5 < mN h) hB.2.2.2.2.2.1 rfl rfl rfl rfl (l_age (hB.2.2.2.2.of (hE_1 (p + 5) 0 (by omega))) (by rw [hV2.1.2.2.1]; exact hy) (by rw [hV2.1.2.2.2.2]; exact he) hn) (fun r h2 hq => ?_)
  obtain ⟨rfl, c_2, hh, hA_2⟩ := hq
  subst hh
  have hE_2 : EqP (fun a k => a = p + 6 ∨ (a = p + 5 ∧ 1 ≤ k ∧ k ≤ 5)) c_1 c_2 := by
    rw [hA_2]
    split
    · exact EqP.up (by omega)
    · exact EqP.nil
  have hfp_3_2 : c_2 p 3 = (((p + 1) : Nat) : Int) := (hE_2 p 3 (by omega)).trans (hfp_3_1)
  have hfp_4_2 : c_2 p 4 = (((p + 3) : Nat) : Int) := (hE_2 p 4 (by omega)).trans (hfp_4_1)
  have hfp_5_2 : c_2 p 5 = (((p + 5) : Nat) : Int) := (hE_2 p 5 (by omega)).trans (hfp_5_1)
  refine E_load rfl rfl rfl ?_
  refine E_getrB (r := (p + 5)) rfl (by have := hB.1.1; omega : p < mN h) hB.isB rfl (hfp_5_2) ?_
  refine E_aret rfl ?_
  refine ⟨rfl, c_2, rfl, ?_, hE_1.trans hE_2⟩
  rw [hV2.1.2.2.2.2, hV2.1.2.2.1] at hA_2
  rw [hA_2]
  by_cases h0 : e = 0
  · rw [if_pos h0, if_pos h0]
    exact ⟨⟨(up2_fldN (by omega)).trans hV2.1.1, (up2_fldN (by omega)).trans hV2.1.2.1, up2_same, (up2_fldN (by omega)).trans hV2.1.2.2.2.1, (up2_fldN (by omega)).trans hV2.1.2.2.2.2⟩, fun k hk => (up2_fldN (by omega)).trans (hV2.2 k hk)⟩
  · rw [if_neg h0, if_neg h0]
    exact hV2
