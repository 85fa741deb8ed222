/-! THE CLASS' CONSTANT PLACES -/
def CT : List (Nat × Nat × Int) := [(0, 0, 1), (0, 1, 4), (0, 2, 7), (0, 3, 10), (0, 4, 13), (0, 5, 16), (0, 6, 19), (0, 7, 22), (0, 8, 25), (0, 9, 28), (0, 10, 35), (0, 11, 42), (1, 0, 1), (1, 1, 2), (1, 2, 3), (4, 0, 1), (4, 1, 5), (4, 2, 6), (7, 0, 1), (7, 1, 8), (7, 2, 9), (10, 0, 3), (10, 1, 11), (10, 2, 12), (13, 0, 3), (13, 1, 14), (13, 2, 15), (16, 0, 2), (16, 1, 17), (16, 2, 18), (19, 0, 1), (19, 1, 20), (19, 2, 21), (22, 0, 1), (22, 1, 23), (22, 2, 24), (25, 0, 1), (25, 1, 26), (25, 2, 27), (29, 0, 3), (29, 1, 30), (29, 2, 31), (32, 0, 3), (32, 1, 33), (32, 2, 34), (36, 0, 3), (36, 1, 37), (36, 2, 38), (39, 0, 3), (39, 1, 40), (39, 2, 41), (28, 0, 1), (28, 1, 29), (28, 2, 32), (35, 0, 1), (35, 1, 36), (35, 2, 39)]
def Cc (c : Nat → Nat → Int) : Prop := ∀ e ∈ CT, c e.1 e.2.1 = e.2.2
theorem Cc.g {c : Nat → Nat → Int} (hC : Cc c) (a k : Nat) (v : Int) (h : (a, k, v) ∈ CT) : c a k = v := hC _ h
theorem Cc.of {c c2 : Nat → Nat → Int} (hC : Cc c) (h : ∀ e ∈ CT, c2 e.1 e.2.1 = c e.1 e.2.1) : Cc c2 := fun e he => (h e he).trans (hC e he)
theorem sh1 {h : Hp} {c : Nat → Nat → Int} (hL : Lay h) (hC : Cc c) : Sh h c 1 1 100 := ⟨hL.lt 3 rfl, hL.k 1 rfl, hL.k 2 rfl, hL.k 3 rfl, hL.l 2 rfl, hL.l 3 rfl, hC.g 1 0 1 (by decide), hC.g 1 1 2 (by decide), hC.g 1 2 3 (by decide)⟩
theorem sh4 {h : Hp} {c : Nat → Nat → Int} (hL : Lay h) (hC : Cc c) : Sh h c 4 1 4 := ⟨hL.lt 6 rfl, hL.k 4 rfl, hL.k 5 rfl, hL.k 6 rfl, hL.l 5 rfl, hL.l 6 rfl, hC.g 4 0 1 (by decide), hC.g 4 1 5 (by decide), hC.g 4 2 6 (by decide)⟩
theorem sh7 {h : Hp} {c : Nat → Nat → Int} (hL : Lay h) (hC : Cc c) : Sh h c 7 1 4 := ⟨hL.lt 9 rfl, hL.k 7 rfl, hL.k 8 rfl, hL.k 9 rfl, hL.l 8 rfl, hL.l 9 rfl, hC.g 7 0 1 (by decide), hC.g 7 1 8 (by decide), hC.g 7 2 9 (by decide)⟩
theorem sh10 {h : Hp} {c : Nat → Nat → Int} (hL : Lay h) (hC : Cc c) : Sh h c 10 3 15 := ⟨hL.lt 12 rfl, hL.k 10 rfl, hL.k 11 rfl, hL.k 12 rfl, hL.l 11 rfl, hL.l 12 rfl, hC.g 10 0 3 (by decide), hC.g 10 1 11 (by decide), hC.g 10 2 12 (by decide)⟩
theorem sh13 {h : Hp} {c : Nat → Nat → Int} (hL : Lay h) (hC : Cc c) : Sh h c 13 3 24 := ⟨hL.lt 15 rfl, hL.k 13 rfl, hL.k 14 rfl, hL.k 15 rfl, hL.l 14 rfl, hL.l 15 rfl, hC.g 13 0 3 (by decide), hC.g 13 1 14 (by decide), hC.g 13 2 15 (by decide)⟩
theorem sh16 {h : Hp} {c : Nat → Nat → Int} (hL : Lay h) (hC : Cc c) : Sh h c 16 2 16 := ⟨hL.lt 18 rfl, hL.k 16 rfl, hL.k 17 rfl, hL.k 18 rfl, hL.l 17 rfl, hL.l 18 rfl, hC.g 16 0 2 (by decide), hC.g 16 1 17 (by decide), hC.g 16 2 18 (by decide)⟩
theorem sh19 {h : Hp} {c : Nat → Nat → Int} (hL : Lay h) (hC : Cc c) : Sh h c 19 1 20 := ⟨hL.lt 21 rfl, hL.k 19 rfl, hL.k 20 rfl, hL.k 21 rfl, hL.l 20 rfl, hL.l 21 rfl, hC.g 19 0 1 (by decide), hC.g 19 1 20 (by decide), hC.g 19 2 21 (by decide)⟩
theorem sh22 {h : Hp} {c : Nat → Nat → Int} (hL : Lay h) (hC : Cc c) : Sh h c 22 1 6 := ⟨hL.lt 24 rfl, hL.k 22 rfl, hL.k 23 rfl, hL.k 24 rfl, hL.l 23 rfl, hL.l 24 rfl, hC.g 22 0 1 (by decide), hC.g 22 1 23 (by decide), hC.g 22 2 24 (by decide)⟩
theorem sh25 {h : Hp} {c : Nat → Nat → Int} (hL : Lay h) (hC : Cc c) : Sh h c 25 1 64 := ⟨hL.lt 27 rfl, hL.k 25 rfl, hL.k 26 rfl, hL.k 27 rfl, hL.l 26 rfl, hL.l 27 rfl, hC.g 25 0 1 (by decide), hC.g 25 1 26 (by decide), hC.g 25 2 27 (by decide)⟩
theorem sh29 {h : Hp} {c : Nat → Nat → Int} (hL : Lay h) (hC : Cc c) : Sh h c 29 3 30 := ⟨hL.lt 31 rfl, hL.k 29 rfl, hL.k 30 rfl, hL.k 31 rfl, hL.l 30 rfl, hL.l 31 rfl, hC.g 29 0 3 (by decide), hC.g 29 1 30 (by decide), hC.g 29 2 31 (by decide)⟩
theorem sh32 {h : Hp} {c : Nat → Nat → Int} (hL : Lay h) (hC : Cc c) : Sh h c 32 3 300 := ⟨hL.lt 34 rfl, hL.k 32 rfl, hL.k 33 rfl, hL.k 34 rfl, hL.l 33 rfl, hL.l 34 rfl, hC.g 32 0 3 (by decide), hC.g 32 1 33 (by decide), hC.g 32 2 34 (by decide)⟩
theorem sh36 {h : Hp} {c : Nat → Nat → Int} (hL : Lay h) (hC : Cc c) : Sh h c 36 3 30 := ⟨hL.lt 38 rfl, hL.k 36 rfl, hL.k 37 rfl, hL.k 38 rfl, hL.l 37 rfl, hL.l 38 rfl, hC.g 36 0 3 (by decide), hC.g 36 1 37 (by decide), hC.g 36 2 38 (by decide)⟩
theorem sh39 {h : Hp} {c : Nat → Nat → Int} (hL : Lay h) (hC : Cc c) : Sh h c 39 3 300 := ⟨hL.lt 41 rfl, hL.k 39 rfl, hL.k 40 rfl, hL.k 41 rfl, hL.l 40 rfl, hL.l 41 rfl, hC.g 39 0 3 (by decide), hC.g 39 1 40 (by decide), hC.g 39 2 41 (by decide)⟩
theorem s_atv {d : Nat} {h : Hp} {c : Nat → Nat → Int} {a w m : Nat} (hS : Sh h c a w m) (hw : 0 < w ∧ w ≤ 3) (hm : m ≤ 400) {row col v : Int} (hr : inR row) (hc : inR col) (hR : 0 ≤ c a 3 ∧ c a 3 * (w : Int) ≤ m) (hR2 : c a 3 ≤ 400) (e : atS c a w row col = v) : Ok (d) 60 [(1, ((a : Nat) : Int)), (0, row), (0, col)] (wC h c) (fun r h2 => r = some (0, v) ∧ h2 = wC h c) := by
  rw [← e]
  exact s_at hS hw hm hr hc hR hR2
def kcl (k : Int) : Nat := if k = 1 then 5 else if k = 2 then 9 else if k = 3 then 3 else if k = 4 then 4 else if k = 5 then 7 else if k = 6 then 10 else 1
theorem kclB (k : Int) : IsB (kcl k) := by unfold kcl IsB; (repeat' split) <;> omega
def Bot (h : Hp) (c : Nat → Nat → Int) (p b : Nat) (kind : Int) : Prop := (p + 6 < mN h ∧ mK h p = kcl kind) ∧ (c p 0 = kind ∧ c p 1 = (b : Int) ∧ c p 2 = ((19 : Nat) : Int) ∧ c p 3 = ((p + 1 : Nat) : Int) ∧ c p 4 = ((p + 3 : Nat) : Int) ∧ c p 5 = ((p + 5 : Nat) : Int)) ∧ La h c (p + 1) ∧ La h c (p + 3) ∧ La h c (p + 5)
theorem Bot.isB {h : Hp} {c : Nat → Nat → Int} {p b : Nat} {kind : Int} (hB : Bot h c p b kind) : IsB (mK h p) := by rw [hB.1.2]; exact kclB kind
set_option maxHeartbeats 4000000 in
set_option maxRecDepth 100000 in
theorem c_fact {d : Nat} {h : Hp} {c : Nat → Nat → Int} {p q b : Nat} {kind v w y u em : Int} {tel : Nat → Int} (hB : Bot h c p b kind) (hQ : La h c q) (hV : LV c q v w y u em tel) (hk : 0 ≤ kind ∧ kind ≤ 6) (hv : 0 ≤ v ∧ v ≤ 9) (hw : -99 ≤ w ∧ w ≤ 99) (hy : 0 ≤ y ∧ y ≤ 199) (hu : 0 ≤ u ∧ u ≤ 3) (hb : b < 6) {x : Int} (hx : x = 98 ∨ x = 107 ∨ x = 118 ∨ x = 121 ∨ x = 113 ∨ x = 119) : Ok (d + 1) 29 [(0, x), (1, ((p : Nat) : Int)), (1, ((q : Nat) : Int))] (wC h c) (fun r h2 => r = some (0, (envK (b : Int) kind v w y u) (ltP x)) ∧ h2 = wC h c) := by
  show Ex _ none t_X1_factOf 0 0 _ [] (wC h c) _
  refine E_load rfl rfl rfl ?_
  rcases hx with rfl | rfl | rfl | rfl | rfl | rfl
  · refine E_sw (t := 52) rfl (by omega) (rfl) ?_
    refine E_load rfl rfl rfl ?_
    refine E_getfB (x := ((b : Nat) : Int)) rfl (by have := hB.1.1; omega : p < mN h) hB.isB rfl (hB.2.1.2.1) ?_
    refine E_iret rfl (fun h => absurd h (by decide)) ?_
    exact ⟨rfl, rfl⟩
  · refine E_sw (t := 57) rfl (by omega) (rfl) ?_
    refine E_load rfl rfl rfl ?_
    refine E_getfB (x := kind) rfl (by have := hB.1.1; omega : p < mN h) hB.isB rfl (hB.2.1.1) ?_
    refine E_iret rfl (fun h => absurd h (by decide)) ?_
    exact ⟨rfl, rfl⟩
  · refine E_sw (t := 62) rfl (by omega) (rfl) ?_
    refine E_load rfl rfl rfl ?_
    refine E_getf (c := 6) (v := (0, v)) rfl (by have := hQ.1; omega : q < mN h) hQ.2.1 rfl (fv (hV.1.1)) ?_
    refine E_iret rfl (fun h => absurd h (by decide)) ?_
    exact ⟨rfl, rfl⟩
  · refine E_sw (t := 67) rfl (by omega) (rfl) ?_
    refine E_load rfl rfl rfl ?_
    refine E_getf (c := 6) (v := (0, y)) rfl (by have := hQ.1; omega : q < mN h) hQ.2.1 rfl (fv (hV.1.2.2.1)) ?_
    refine E_const rfl ?_
    refine E_div rfl (by omega) (by omega) (by omega) ?_
    refine E_iret rfl (fun h => absurd h (by decide)) ?_
    exact ⟨rfl, rfl⟩
  · refine E_sw (t := 75) rfl (by omega) (rfl) ?_
    refine E_load rfl rfl rfl ?_
    refine E_getf (c := 6) (v := (0, u)) rfl (by have := hQ.1; omega : q < mN h) hQ.2.1 rfl (fv (hV.1.2.2.2.1)) ?_
    refine E_iret rfl (fun h => absurd h (by decide)) ?_
    exact ⟨rfl, rfl⟩
  · refine E_sw (t := 80) rfl (by omega) (rfl) ?_
    refine E_load rfl rfl rfl ?_
    refine E_getf (c := 6) (v := (0, w)) rfl (by have := hQ.1; omega : q < mN h) hQ.2.1 rfl (fv (hV.1.2.1)) ?_
    refine E_abs rfl (by omega) rfl ?_
    have hz : 0 ≤ szI w ∧ szI w ≤ 99 := by unfold szI; split <;> omega
    refine E_const rfl ?_
    refine E_div rfl (by omega) (by omega) (by omega) ?_
    refine E_iret rfl (fun h => absurd h (by decide)) ?_
    exact ⟨rfl, rfl⟩
theorem envK_in {b : Nat} {kind v w y u : Int} (hk : 0 ≤ kind ∧ kind ≤ 6) (hv : 0 ≤ v ∧ v ≤ 9) (hw : -99 ≤ w ∧ w ≤ 99) (hy : 0 ≤ y ∧ y ≤ 199) (hu : 0 ≤ u ∧ u ≤ 3) (hb : b < 6) : ∀ k, k < 6 → -1000 ≤ envK (b : Int) kind v w y u k ∧ envK (b : Int) kind v w y u k ≤ 1000 := by
  intro k hk6
  have e1 : y.tdiv 10 = y / 10 := Int.tdiv_eq_ediv_of_nonneg hy.1
  have hz : 0 ≤ szI w ∧ szI w ≤ 99 := by unfold szI; split <;> omega
  have e2 : (szI w).tdiv 10 = szI w / 10 := Int.tdiv_eq_ediv_of_nonneg hz.1
  unfold envK
  rw [e1, e2]
  (repeat' split) <;> omega
theorem at32 {c : Nat → Nat → Int} {np i k : Nat} {x : Int} (hnp : c 32 3 = (np : Int)) (hi : i < np) (hk : k < 3) (h : c 33 (3 * i + k) = x) : atS c 32 3 (i : Int) (k : Int) = x := atS_of (by omega) hk (by rw [Nat.mul_comm i 3]; exact h)
theorem at29 {c : Nat → Nat → Int} {np i k : Nat} {x : Int} (hnp : c 29 3 = (np : Int)) (hi : i < np) (hk : k < 3) (h : c 30 (3 * i + k) = x) : atS c 29 3 (i : Int) (k : Int) = x := atS_of (by omega) hk (by rw [Nat.mul_comm i 3]; exact h)
set_option maxHeartbeats 4000000 in
set_option maxRecDepth 100000 in
theorem c_test {d : Nat} {h : Hp} {c : Nat → Nat → Int} (hL : Lay h) (hC : Cc c) {np : Nat} (hnp : c 32 3 = (np : Int)) (hnp2 : np ≤ 100) {p q b : Nat} {kind v w y u em : Int} {tel : Nat → Int} (hB : Bot h c p b kind) (hQ : La h c q) (hV : LV c q v w y u em tel) (hk : 0 ≤ kind ∧ kind ≤ 6) (hv : 0 ≤ v ∧ v ≤ 9) (hw : -99 ≤ w ∧ w ≤ 99) (hy : 0 ≤ y ∧ y ≤ 199) (hu : 0 ≤ u ∧ u ≤ 3) (hb : b < 6) {i : Nat} {x : PRT} (hi : i < np) (hx : c 33 (3 * i) = x.1 ∧ c 33 (3 * i + 1) = x.2.1 ∧ c 33 (3 * i + 2) = x.2.2) (ht : isT x) : Ok (d + 2) 28 [(1, ((28 : Nat) : Int)), (0, (i : Int)), (1, ((p : Nat) : Int)), (1, ((q : Nat) : Int))] (wC h c) (fun r h2 => r = some (0, bB (tstP (envK (b : Int) kind v w y u) x)) ∧ h2 = wC h c) := by
  show Ex _ none t_X1_testHolds 3 0 _ [] (wC h c) _
  have hee := envK_in (b := b) hk hv hw hy hu hb (ltP x.1) (ltP_lt _)
  refine E_load rfl rfl rfl ?_
  refine E_getr (c := 2) (r := 32) rfl (hL.lt 28 rfl) (hL.k 28 rfl) rfl (hC.g 28 2 32 (by decide)) ?_
  refine E_load rfl rfl rfl ?_
  refine E_const rfl ?_
  refine E_V2 (q := 32) (c := 8) (y := 60) rfl rfl (hL.lt 32 rfl) (hL.k 32 rfl) rfl rfl rfl rfl (s_atv (sh32 hL hC) (by decide) (by decide) (by omega) (by omega) (by omega) (by omega) (at32 (k := 0) hnp hi (by decide) hx.1)) (fun r h2 hq => ?_)
  obtain ⟨rfl, hh⟩ := hq
  subst hh
  refine E_load rfl rfl rfl ?_
  refine E_load rfl rfl rfl ?_
  refine E_S3 (y := 29) rfl rfl rfl rfl rfl (c_fact hB hQ hV hk hv hw hy hu hb ht.1) (fun r h2 hq => ?_)
  obtain ⟨rfl, hh⟩ := hq
  subst hh
  refine E_store rfl rfl rfl ?_
  refine E_load rfl rfl rfl ?_
  refine E_getr (c := 2) (r := 32) rfl (hL.lt 28 rfl) (hL.k 28 rfl) rfl (hC.g 28 2 32 (by decide)) ?_
  refine E_load rfl rfl rfl ?_
  refine E_const rfl ?_
  refine E_V2 (q := 32) (c := 8) (y := 60) rfl rfl (hL.lt 32 rfl) (hL.k 32 rfl) rfl rfl rfl rfl (s_atv (sh32 hL hC) (by decide) (by decide) (by omega) (by omega) (by omega) (by omega) (at32 (k := 2) hnp hi (by decide) hx.2.2)) (fun r h2 hq => ?_)
  obtain ⟨rfl, hh⟩ := hq
  subst hh
  refine E_store rfl rfl rfl ?_
  refine E_load rfl rfl rfl ?_
  refine E_getr (c := 2) (r := 32) rfl (hL.lt 28 rfl) (hL.k 28 rfl) rfl (hC.g 28 2 32 (by decide)) ?_
  refine E_load rfl rfl rfl ?_
  refine E_const rfl ?_
  refine E_V2 (q := 32) (c := 8) (y := 60) rfl rfl (hL.lt 32 rfl) (hL.k 32 rfl) rfl rfl rfl rfl (s_atv (sh32 hL hC) (by decide) (by decide) (by omega) (by omega) (by omega) (by omega) (at32 (k := 1) hnp hi (by decide) hx.2.1)) (fun r h2 hq => ?_)
  obtain ⟨rfl, hh⟩ := hq
  subst hh
  rcases ht.2.1 with e | e | e
  · refine E_sw (t := 64) rfl (by have := ht.2.1; omega) (by rw [e]; rfl) ?_
    refine E_load rfl rfl rfl ?_
    refine E_load rfl rfl rfl ?_
    refine E_cmp3 rfl (by have := ht.2.2; omega) (fun q1 => ?_) (fun q1 => ?_)
    · refine E_const rfl ?_
      refine E_iret rfl (fun _ => by decide) ?_
      refine ⟨congrArg (fun z : Int => some (((0 : Nat), z) : AV)) ?_, rfl⟩
      unfold tstP
      (repeat' split) <;> first | (exfalso; omega) | (rw [decide_eq_true (by assumption)]; rfl) | (rw [decide_eq_false (by omega)]; rfl)
    · refine E_const rfl ?_
      refine E_goto rfl ?_
      refine E_iret rfl (fun _ => by decide) ?_
      refine ⟨congrArg (fun z : Int => some (((0 : Nat), z) : AV)) ?_, rfl⟩
      unfold tstP
      (repeat' split) <;> first | (exfalso; omega) | (rw [decide_eq_true (by assumption)]; rfl) | (rw [decide_eq_false (by omega)]; rfl)
  · refine E_sw (t := 90) rfl (by have := ht.2.1; omega) (by rw [e]; rfl) ?_
    refine E_load rfl rfl rfl ?_
    refine E_load rfl rfl rfl ?_
    refine E_cmp1 rfl (by have := ht.2.2; omega) (fun q2 => ?_) (fun q2 => ?_)
    · refine E_const rfl ?_
      refine E_iret rfl (fun _ => by decide) ?_
      refine ⟨congrArg (fun z : Int => some (((0 : Nat), z) : AV)) ?_, rfl⟩
      unfold tstP
      (repeat' split) <;> first | (exfalso; omega) | (rw [decide_eq_true (by assumption)]; rfl) | (rw [decide_eq_false (by omega)]; rfl)
    · refine E_const rfl ?_
      refine E_goto rfl ?_
      refine E_iret rfl (fun _ => by decide) ?_
      refine ⟨congrArg (fun z : Int => some (((0 : Nat), z) : AV)) ?_, rfl⟩
      unfold tstP
      (repeat' split) <;> first | (exfalso; omega) | (rw [decide_eq_true (by assumption)]; rfl) | (rw [decide_eq_false (by omega)]; rfl)
  · refine E_sw (t := 77) rfl (by have := ht.2.1; omega) (by rw [e]; rfl) ?_
    refine E_load rfl rfl rfl ?_
    refine E_load rfl rfl rfl ?_
    refine E_cmp5 rfl (by have := ht.2.2; omega) (fun q3 => ?_) (fun q3 => ?_)
    · refine E_const rfl ?_
      refine E_iret rfl (fun _ => by decide) ?_
      refine ⟨congrArg (fun z : Int => some (((0 : Nat), z) : AV)) ?_, rfl⟩
      unfold tstP
      (repeat' split) <;> first | (exfalso; omega) | (rw [decide_eq_true (by assumption)]; rfl) | (rw [decide_eq_false (by omega)]; rfl)
    · refine E_const rfl ?_
      refine E_goto rfl ?_
      refine E_iret rfl (fun _ => by decide) ?_
      refine ⟨congrArg (fun z : Int => some (((0 : Nat), z) : AV)) ?_, rfl⟩
      unfold tstP
      (repeat' split) <;> first | (exfalso; omega) | (rw [decide_eq_true (by assumption)]; rfl) | (rw [decide_eq_false (by omega)]; rfl)
set_option maxHeartbeats 4000000 in
set_option maxRecDepth 100000 in
theorem lc_holds {d : Nat} {h : Hp} {c : Nat → Nat → Int} (hL : Lay h) (hC : Cc c) {np : Nat} (hnp : c 32 3 = (np : Int)) (hnp2 : np ≤ 100) {p q b : Nat} {kind v w y u em : Int} {tel : Nat → Int} (hB : Bot h c p b kind) (hQ : La h c q) (hV : LV c q v w y u em tel) (hk : 0 ≤ kind ∧ kind ≤ 6) (hv : 0 ≤ v ∧ v ≤ 9) (hw : -99 ≤ w ∧ w ≤ 99) (hy : 0 ≤ y ∧ y ≤ 199) (hu : 0 ≤ u ∧ u ≤ 3) (hb : b < 6) {f1 : AV} {m : Nat} : ∀ (l : List PRT) (j : Nat) (st : List Bool), j + l.length ≤ np → SerP (c 33) j l → (∀ x ∈ l, vP x) → dqL st.length l = some m → st.length ≤ 28 → Ex (d + 4) none t_X1_holds 3 6 [(1, ((28 : Nat) : Int)), f1, (0, ((j + l.length : Nat) : Int)), (1, ((p : Nat) : Int)), (1, ((q : Nat) : Int)), (0, (wB st : Int)), (0, (j : Int))] [] (wC h c) (fun r h2 => r = some (0, bB ((l.foldl (evP (envK (b : Int) kind v w y u)) st).headD false)) ∧ h2 = wC h c) := by
  intro l
  induction l with
  | nil =>
    intro j st hj hS hvp hd hst
    refine E_load rfl rfl rfl ?_
    refine E_load rfl rfl rfl ?_
    refine E_cmp3 rfl (by omega) (fun q1 => ?_) (fun q1 => ?_)
    · refine E_load rfl rfl rfl ?_
      refine E_const rfl ?_
      refine E_bit (z := (bB (st.headD false))) rfl rfl (w_last (by omega)) ?_
      refine E_const rfl ?_
      refine E_cmp1 rfl (by cases st.headD false <;> decide) (fun q2 => ?_) (fun q2 => ?_)
      · refine E_const rfl ?_
        refine E_iret rfl (fun _ => by decide) ?_
        exact ⟨by rw [show bB (([] : List PRT).foldl (evP (envK (b : Int) kind v w y u)) st |>.headD false) = bB (st.headD false) from rfl]; cases hh : st.headD false <;> simp_all [bB], rfl⟩
      · refine E_const rfl ?_
        refine E_goto rfl ?_
        refine E_iret rfl (fun _ => by decide) ?_
        exact ⟨by rw [show bB (([] : List PRT).foldl (evP (envK (b : Int) kind v w y u)) st |>.headD false) = bB (st.headD false) from rfl]; cases hh : st.headD false <;> simp_all [bB], rfl⟩
    · exfalso; simp at *
  | cons x l ih =>
    intro j st hj hS hvp hd hst
    rw [List.length_cons] at hj
    have hvx := hvp x List.mem_cons_self
    have hvl : ∀ x ∈ l, vP x := fun z hz => hvp z (List.mem_cons_of_mem _ hz)
    have hlen : ((j + (x :: l).length : Nat) : Int) = ((j + 1 + l.length : Nat) : Int) := by rw [List.length_cons]; omega
    rw [hlen, List.foldl_cons]
    refine E_load rfl rfl rfl ?_
    refine E_load rfl rfl rfl ?_
    refine E_cmp3 rfl (by omega) (fun q1 => ?_) (fun q1 => ?_)
    · exfalso; omega
    · refine E_load rfl rfl rfl ?_
      refine E_getr (c := 2) (r := 32) rfl (hL.lt 28 rfl) (hL.k 28 rfl) rfl (hC.g 28 2 32 (by decide)) ?_
      refine E_load rfl rfl rfl ?_
      refine E_const rfl ?_
      refine E_V2 (q := 32) (c := 8) (y := 60) rfl rfl (hL.lt 32 rfl) (hL.k 32 rfl) rfl rfl rfl rfl (s_atv (sh32 hL hC) (by decide) (by decide) (by omega) (by omega) (by omega) (by omega) (at32 (k := 0) hnp (by omega) (by decide) hS.1.1)) (fun r h2 hq => ?_)
      obtain ⟨rfl, hh⟩ := hq
      subst hh
      rcases dq_cons hvx hd with ⟨h1, h2, h3⟩ | ⟨h1, h2, h3⟩ | ⟨h1, h2, h3⟩
      · obtain ⟨t, r, rfl⟩ : ∃ t r, st = t :: r := by
          cases st with
          | nil => simp at h2
          | cons t r => exact ⟨t, r, rfl⟩
        have e1 : evP (envK (b : Int) kind v w y u) (t :: r) x = (!t) :: r := if_pos h1
        rw [e1]
        refine E_sw (t := 56) rfl (by omega) (by rw [h1]; rfl) ?_
        refine E_load rfl rfl rfl ?_
        refine E_const rfl ?_
        refine E_bit (z := (wB ((!t) :: r) : Int)) rfl rfl (w_not (by simp at *; omega)) ?_
        refine E_store rfl rfl rfl ?_
        refine E_goto rfl ?_
        refine E_iinc rfl rfl rfl ?_
        refine E_goto rfl ?_
        exact ih (j + 1) ((!t) :: r) (by omega) hS.2 hvl (by first | exact h3 | simpa using h3) (by simp at *; omega)
      · obtain ⟨t, a2, r, rfl⟩ : ∃ t a2 r, st = t :: a2 :: r := by
          match st, h2 with
          | t :: a2 :: r, _ => exact ⟨t, a2, r, rfl⟩
        rcases h1 with h1 | h1
        · have e1 : evP (envK (b : Int) kind v w y u) (t :: a2 :: r) x = (a2 && t) :: r := (if_neg (by omega)).trans (if_pos h1)
          rw [e1]
          refine E_sw (t := 65) rfl (by omega) (by rw [h1]; rfl) ?_
          refine E_load rfl rfl rfl ?_
          refine E_const rfl ?_
          refine E_bit (z := (mBit 9 (wB (t :: a2 :: r) : Int) 1)) rfl rfl rfl ?_
          refine E_load rfl rfl rfl ?_
          refine E_const rfl ?_
          refine E_bit (z := (mBit 6 (wB (t :: a2 :: r) : Int) (-2))) rfl rfl rfl ?_
          refine E_bit (z := (wB ((a2 && t) :: r) : Int)) rfl rfl (w_and (by simp at *; omega)) ?_
          refine E_store rfl rfl rfl ?_
          refine E_goto rfl ?_
          refine E_iinc rfl rfl rfl ?_
          refine E_goto rfl ?_
          exact ih (j + 1) ((a2 && t) :: r) (by omega) hS.2 hvl (by first | exact h3 | simpa using h3) (by simp at *; omega)
        · have e1 : evP (envK (b : Int) kind v w y u) (t :: a2 :: r) x = (a2 || t) :: r := (if_neg (by omega)).trans ((if_neg (by omega)).trans (if_pos h1))
          rw [e1]
          refine E_sw (t := 80) rfl (by omega) (by rw [h1]; rfl) ?_
          refine E_load rfl rfl rfl ?_
          refine E_const rfl ?_
          refine E_bit (z := (mBit 9 (wB (t :: a2 :: r) : Int) 1)) rfl rfl rfl ?_
          refine E_load rfl rfl rfl ?_
          refine E_const rfl ?_
          refine E_bit (z := (mBit 5 (wB (t :: a2 :: r) : Int) 1)) rfl rfl rfl ?_
          refine E_bit (z := (wB ((a2 || t) :: r) : Int)) rfl rfl (w_or (by simp at *; omega)) ?_
          refine E_store rfl rfl rfl ?_
          refine E_goto rfl ?_
          refine E_iinc rfl rfl rfl ?_
          refine E_goto rfl ?_
          exact ih (j + 1) ((a2 || t) :: r) (by omega) hS.2 hvl (by first | exact h3 | simpa using h3) (by simp at *; omega)
      · have e1 : evP (envK (b : Int) kind v w y u) st x = tstP (envK (b : Int) kind v w y u) x :: st := (if_neg (by have := h1.1; omega)).trans ((if_neg (by have := h1.1; omega)).trans (if_neg (by have := h1.1; omega)))
        rw [e1]
        refine E_sw (t := 94) rfl (by have := h1.1; omega) (by rcases h1.1 with z | z | z | z | z | z <;> rw [z] <;> rfl) ?_
        refine E_load rfl rfl rfl ?_
        refine E_const rfl ?_
        refine E_bit (z := (mBit 8 (wB st : Int) 1)) rfl rfl rfl ?_
        refine E_load rfl rfl rfl ?_
        refine E_load rfl rfl rfl ?_
        refine E_load rfl rfl rfl ?_
        refine E_load rfl rfl rfl ?_
        refine E_V3 (q := 28) (c := 2) (y := 28) rfl rfl (hL.lt 28 rfl) (hL.k 28 rfl) rfl rfl rfl rfl (c_test hL hC hnp hnp2 hB hQ hV hk hv hw hy hu hb (by omega) hS.1 h1) (fun r h2 hq => ?_)
        obtain ⟨rfl, hh⟩ := hq
        subst hh
        refine E_if0 rfl (bB_R _) (fun z1 => ?_) (fun z1 => ?_)
        · replace z1 := bB_z z1
          refine E_const rfl ?_
          refine E_bit (z := (wB (tstP (envK (b : Int) kind v w y u) x :: st) : Int)) rfl rfl ((congrArg (mBit 6 (mBit 8 (wB st : Int) 1)) (show (0 : Int) = bB (tstP (envK (b : Int) kind v w y u) x) by rw [z1]; rfl)).trans (w_tst (by omega))) ?_
          refine E_store rfl rfl rfl ?_
          refine E_iinc rfl rfl rfl ?_
          refine E_goto rfl ?_
          exact ih (j + 1) (tstP (envK (b : Int) kind v w y u) x :: st) (by omega) hS.2 hvl (by simpa using h3) (by simp; omega)
        · replace z1 := bB_nz z1
          refine E_const rfl ?_
          refine E_goto rfl ?_
          refine E_bit (z := (wB (tstP (envK (b : Int) kind v w y u) x :: st) : Int)) rfl rfl ((congrArg (mBit 6 (mBit 8 (wB st : Int) 1)) (show (1 : Int) = bB (tstP (envK (b : Int) kind v w y u) x) by rw [z1]; rfl)).trans (w_tst (by omega))) ?_
          refine E_store rfl rfl rfl ?_
          refine E_iinc rfl rfl rfl ?_
          refine E_goto rfl ?_
          exact ih (j + 1) (tstP (envK (b : Int) kind v w y u) x :: st) (by omega) hS.2 hvl (by simpa using h3) (by simp; omega)
