set_option maxHeartbeats 4000000 in
set_option maxRecDepth 100000 in
theorem v_k0 {d : Nat} {h : Hp} {c : Nat → Nat → Int} (hL : Lay h) {p b : Nat} {kind v : Int} (hA : ActR h c p b kind v) {L : List Int} (hT : BodR L (c 19 3) (c 20)) (hl : L.length ≤ 15) {x : Int} (hkr : 0 ≤ kind ∧ kind ≤ 6) : Ok (d + 3) 17 [(1, ((p : Nat) : Int)), (0, x)] (wC h c) (fun r h2 => r = some (0, (pkA kind b v x).1) ∧ ∃ c2, h2 = wC h c2 ∧ BodR (L ++ (pkA kind b v x).2) (c2 19 3) (c2 20) ∧ EqP PT9 c c2) := by
  show Ex _ none t_X0_keeps 0 0 _ [] (wC h c) _
  refine E_load rfl rfl rfl ?_
  refine E_getI (v := (1, ((19 : Nat) : Int))) rfl (show p < mN h by have := hA.2.1.1.1; omega) hA.2.1.isB (hA.2.1.isB.ft.2.1) rfl (fv (hA.2.1.2.1.2.2.1)) ?_
  refine E_const rfl ?_
  refine E_const rfl ?_
  refine E_const rfl ?_
  refine E_V3 (q := 19) (c := 8) (y := 59) rfl rfl (hL.lt 19 rfl) (hL.k 19 rfl) rfl rfl rfl rfl (c_addB hL hA hT (by first | omega | (have := uA_len kind b x; have := kA_len kind b v x; have := kA_len kind b v (x - 1); have := uA_len kind b 2; simp only [pkA, ptA, List.length_append, List.length_cons, List.length_nil]; omega))) (fun r h2 hq => ?_)
  obtain ⟨rfl, c_1, hh, hT_1, hE_1⟩ := hq
  subst hh
  have hA_1 := hA.of hE_1
  refine E_pop rfl rfl ?_
  refine E_load rfl rfl rfl ?_
  refine E_load rfl rfl rfl ?_
  obtain ⟨n, hn0, hn1, hm1, hm2, hm3⟩ := v_utters (d := d) (x := x) hL hA_1 hT_1 (by first | omega | (have := uA_len kind b x; have := kA_len kind b v x; have := kA_len kind b v (x - 1); have := uA_len kind b 2; simp only [pkA, ptA, List.length_append, List.length_cons, List.length_nil]; omega)) hkr
  refine E_V1 (q := p) (c := mK h p) (y := n) rfl rfl (show p < mN h by have := hA.2.1.1.1; omega) rfl hn0 hm1 rfl hm2 hm3 (fun r h2 hq => ?_)
  obtain ⟨rfl, c_2, hh, hT_2, hE_2⟩ := hq
  subst hh
  have hA_2 := hA_1.of hE_2
  refine E_load rfl rfl rfl ?_
  refine E_getI (v := (1, (((p + 1) : Nat) : Int))) rfl (show p < mN h by have := hA.2.1.1.1; omega) hA.2.1.isB (hA.2.1.isB.ft.2.1) rfl (fv (hA_2.2.1.2.1.2.2.2.1)) ?_
  refine E_getf (c := 6) (v := (0, v)) rfl (show p + 1 < mN h by have := hA.2.1.1.1; omega) hA.2.1.2.2.1.2.1 rfl (fv (hA_2.2.2.1)) ?_
  refine E_sub rfl ?_
  refine E_iret rfl (fun h => absurd h (by decide)) ?_
  refine ⟨rfl, c_2, rfl, ?_, (hE_1.trans hE_2)⟩
  have e := hT_2
  try simp only [List.append_assoc, List.cons_append, List.nil_append] at e
  exact e
set_option maxHeartbeats 4000000 in
set_option maxRecDepth 100000 in
theorem v_k2 {d : Nat} {h : Hp} {c : Nat → Nat → Int} (hL : Lay h) {p b : Nat} {kind v : Int} (hA : ActR h c p b kind v) {L : List Int} (hT : BodR L (c 19 3) (c 20)) (hl : L.length ≤ 14) {x : Int} (hkr : 0 ≤ kind ∧ kind ≤ 6) (hpc : mK h p = 9 ∨ mK h p = 7) : Ok (d + 4) 69 [(1, ((p : Nat) : Int)), (0, x)] (wC h c) (fun r h2 => r = some (0, -(pkA kind b v x).1) ∧ ∃ c2, h2 = wC h c2 ∧ BodR (L ++ (21 :: (pkA kind b v x).2)) (c2 19 3) (c2 20) ∧ EqP PT9 c c2) := by
  show Ex _ none t_X8_keeps 0 0 _ [] (wC h c) _
  refine E_load rfl rfl rfl ?_
  refine E_getI (v := (1, ((19 : Nat) : Int))) rfl (show p < mN h by have := hA.2.1.1.1; omega) hA.2.1.isB ((show mIsa (mK h p) 9 = true by rcases hpc with e | e <;> rw [e] <;> rfl)) rfl (fv (hA.2.1.2.1.2.2.1)) ?_
  refine E_const rfl ?_
  refine E_const rfl ?_
  refine E_const rfl ?_
  refine E_V3 (q := 19) (c := 8) (y := 59) rfl rfl (hL.lt 19 rfl) (hL.k 19 rfl) rfl rfl rfl rfl (c_addB hL hA hT (by first | omega | (have := uA_len kind b x; have := kA_len kind b v x; have := kA_len kind b v (x - 1); have := uA_len kind b 2; simp only [pkA, ptA, List.length_append, List.length_cons, List.length_nil]; omega))) (fun r h2 hq => ?_)
  obtain ⟨rfl, c_1, hh, hT_1, hE_1⟩ := hq
  subst hh
  have hA_1 := hA.of hE_1
  refine E_pop rfl rfl ?_
  refine E_load rfl rfl rfl ?_
  refine E_load rfl rfl rfl ?_
  refine E_V1 (q := p) (c := (mK h p)) (y := 17) rfl rfl (show p < mN h by have := hA.2.1.1.1; omega) rfl (by rcases hpc with e | e <;> rw [e] <;> rfl) rfl rfl rfl (v_k0 hL hA_1 hT_1 (by first | omega | (have := uA_len kind b x; have := kA_len kind b v x; have := kA_len kind b v (x - 1); have := uA_len kind b 2; simp only [pkA, ptA, List.length_append, List.length_cons, List.length_nil]; omega)) hkr) (fun r h2 hq => ?_)
  obtain ⟨rfl, c_2, hh, hT_2, hE_2⟩ := hq
  subst hh
  have hA_2 := hA_1.of hE_2
  refine E_neg rfl ?_
  refine E_iret rfl (fun h => absurd h (by decide)) ?_
  refine ⟨rfl, c_2, rfl, ?_, (hE_1.trans hE_2)⟩
  have e := hT_2
  try simp only [List.append_assoc, List.cons_append, List.nil_append] at e
  exact e
set_option maxHeartbeats 4000000 in
set_option maxRecDepth 100000 in
theorem v_k6 {d : Nat} {h : Hp} {c : Nat → Nat → Int} (hL : Lay h) {p b : Nat} {kind v : Int} (hA : ActR h c p b kind v) {L : List Int} (hT : BodR L (c 19 3) (c 20)) (hl : L.length ≤ 14) {x : Int} (hkr : 0 ≤ kind ∧ kind ≤ 6) (hpc : mK h p = 10) : Ok (d + 4) 72 [(1, ((p : Nat) : Int)), (0, x)] (wC h c) (fun r h2 => r = some (0, (pkA kind b v x).1 + v) ∧ ∃ c2, h2 = wC h c2 ∧ BodR (L ++ (61 :: (pkA kind b v x).2)) (c2 19 3) (c2 20) ∧ EqP PT9 c c2) := by
  show Ex _ none t_X9_keeps 0 0 _ [] (wC h c) _
  refine E_load rfl rfl rfl ?_
  refine E_getI (v := (1, ((19 : Nat) : Int))) rfl (show p < mN h by have := hA.2.1.1.1; omega) hA.2.1.isB ((show mIsa (mK h p) 10 = true by rw [hpc]; rfl)) rfl (fv (hA.2.1.2.1.2.2.1)) ?_
  refine E_const rfl ?_
  refine E_const rfl ?_
  refine E_const rfl ?_
  refine E_V3 (q := 19) (c := 8) (y := 59) rfl rfl (hL.lt 19 rfl) (hL.k 19 rfl) rfl rfl rfl rfl (c_addB hL hA hT (by first | omega | (have := uA_len kind b x; have := kA_len kind b v x; have := kA_len kind b v (x - 1); have := uA_len kind b 2; simp only [pkA, ptA, List.length_append, List.length_cons, List.length_nil]; omega))) (fun r h2 hq => ?_)
  obtain ⟨rfl, c_1, hh, hT_1, hE_1⟩ := hq
  subst hh
  have hA_1 := hA.of hE_1
  refine E_pop rfl rfl ?_
  refine E_load rfl rfl rfl ?_
  refine E_load rfl rfl rfl ?_
  refine E_V1 (q := p) (c := (mK h p)) (y := 17) rfl rfl (show p < mN h by have := hA.2.1.1.1; omega) rfl (by rw [hpc]; rfl) rfl rfl rfl (v_k0 hL hA_1 hT_1 (by first | omega | (have := uA_len kind b x; have := kA_len kind b v x; have := kA_len kind b v (x - 1); have := uA_len kind b 2; simp only [pkA, ptA, List.length_append, List.length_cons, List.length_nil]; omega)) hkr) (fun r h2 hq => ?_)
  obtain ⟨rfl, c_2, hh, hT_2, hE_2⟩ := hq
  subst hh
  have hA_2 := hA_1.of hE_2
  refine E_load rfl rfl rfl ?_
  refine E_getI (v := (1, (((p + 1) : Nat) : Int))) rfl (show p < mN h by have := hA.2.1.1.1; omega) hA.2.1.isB ((show mIsa (mK h p) 10 = true by rw [hpc]; rfl)) rfl (fv (hA_2.2.1.2.1.2.2.2.1)) ?_
  refine E_getf (c := 6) (v := (0, v)) rfl (show p + 1 < mN h by have := hA.2.1.1.1; omega) hA.2.1.2.2.1.2.1 rfl (fv (hA_2.2.2.1)) ?_
  refine E_add rfl ?_
  refine E_iret rfl (fun h => absurd h (by decide)) ?_
  refine ⟨rfl, c_2, rfl, ?_, (hE_1.trans hE_2)⟩
  have e := hT_2
  try simp only [List.append_assoc, List.cons_append, List.nil_append] at e
  exact e
theorem v_keeps {d : Nat} {h : Hp} {c : Nat → Nat → Int} (hL : Lay h) {p b : Nat} {kind v : Int} (hA : ActR h c p b kind v) {L : List Int} (hT : BodR L (c 19 3) (c 20)) (hl : L.length ≤ 14) {x : Int} (hkr : 0 ≤ kind ∧ kind ≤ 6) : ∃ n, (vt 11).lookup (mK h p) = some n ∧ (vt 89).lookup (mK h p) = some n ∧ (mt n).2.2.1 = 2 ∧ Nat.ble 2 (mt n).2.1 = true ∧ Ok (d + 4) n [(1, ((p : Nat) : Int)), (0, x)] (wC h c) (fun r h2 => r = some (0, (kA kind b v x).1) ∧ ∃ c2, h2 = wC h c2 ∧ BodR (L ++ (kA kind b v x).2) (c2 19 3) (c2 20) ∧ EqP PT9 c c2) := by
  have hkc := hA.2.1.1.2
  rcases (show kind = 0 ∨ kind = 1 ∨ kind = 2 ∨ kind = 3 ∨ kind = 4 ∨ kind = 5 ∨ kind = 6 by omega) with rfl | rfl | rfl | rfl | rfl | rfl | rfl
  · exact ⟨17, by rw [hkc]; rfl, by rw [hkc]; rfl, rfl, rfl, v_k0 (d := d + 1) hL hA hT (by omega) hkr⟩
  · exact ⟨17, by rw [hkc]; rfl, by rw [hkc]; rfl, rfl, rfl, v_k0 (d := d + 1) hL hA hT (by omega) hkr⟩
  · exact ⟨69, by rw [hkc]; rfl, by rw [hkc]; rfl, rfl, rfl, v_k2 hL hA hT (by omega) hkr (Or.inl hkc)⟩
  · exact ⟨17, by rw [hkc]; rfl, by rw [hkc]; rfl, rfl, rfl, v_k0 (d := d + 1) hL hA hT (by omega) hkr⟩
  · exact ⟨17, by rw [hkc]; rfl, by rw [hkc]; rfl, rfl, rfl, v_k0 (d := d + 1) hL hA hT (by omega) hkr⟩
  · exact ⟨69, by rw [hkc]; rfl, by rw [hkc]; rfl, rfl, rfl, v_k2 hL hA hT (by omega) hkr (Or.inr hkc)⟩
  · exact ⟨72, by rw [hkc]; rfl, by rw [hkc]; rfl, rfl, rfl, v_k6 hL hA hT (by omega) hkr hkc⟩
set_option maxHeartbeats 4000000 in
set_option maxRecDepth 100000 in
theorem v_t0 {d : Nat} {h : Hp} {c : Nat → Nat → Int} (hL : Lay h) {p b : Nat} {kind v : Int} (hA : ActR h c p b kind v) {L : List Int} (hT : BodR L (c 19 3) (c 20)) (hl : L.length ≤ 13) {x : Int} (hkr : 0 ≤ kind ∧ kind ≤ 6) : Ok (d + 5) 18 [(1, ((p : Nat) : Int)), (0, x)] (wC h c) (fun r h2 => r = some (0, (ptA kind b v x).1) ∧ ∃ c2, h2 = wC h c2 ∧ BodR (L ++ (ptA kind b v x).2) (c2 19 3) (c2 20) ∧ EqP PT9 c c2) := by
  show Ex _ none t_X0_tells 0 0 _ [] (wC h c) _
  refine E_load rfl rfl rfl ?_
  refine E_getI (v := (1, ((19 : Nat) : Int))) rfl (show p < mN h by have := hA.2.1.1.1; omega) hA.2.1.isB (hA.2.1.isB.ft.2.1) rfl (fv (hA.2.1.2.1.2.2.1)) ?_
  refine E_const rfl ?_
  refine E_const rfl ?_
  refine E_const rfl ?_
  refine E_V3 (q := 19) (c := 8) (y := 59) rfl rfl (hL.lt 19 rfl) (hL.k 19 rfl) rfl rfl rfl rfl (c_addB hL hA hT (by first | omega | (have := uA_len kind b x; have := kA_len kind b v x; have := kA_len kind b v (x - 1); have := uA_len kind b 2; simp only [pkA, ptA, List.length_append, List.length_cons, List.length_nil]; omega))) (fun r h2 hq => ?_)
  obtain ⟨rfl, c_1, hh, hT_1, hE_1⟩ := hq
  subst hh
  have hA_1 := hA.of hE_1
  refine E_pop rfl rfl ?_
  refine E_load rfl rfl rfl ?_
  refine E_load rfl rfl rfl ?_
  obtain ⟨n, hn0, hn1, hm1, hm2, hm3⟩ := v_keeps (d := d) (x := x) hL hA_1 hT_1 (by first | omega | (have := uA_len kind b x; have := kA_len kind b v x; have := kA_len kind b v (x - 1); have := uA_len kind b 2; simp only [pkA, ptA, List.length_append, List.length_cons, List.length_nil]; omega)) hkr
  refine E_V1 (q := p) (c := mK h p) (y := n) rfl rfl (show p < mN h by have := hA.2.1.1.1; omega) rfl hn0 hm1 rfl hm2 hm3 (fun r h2 hq => ?_)
  obtain ⟨rfl, c_2, hh, hT_2, hE_2⟩ := hq
  subst hh
  have hA_2 := hA_1.of hE_2
  refine E_const rfl ?_
  refine E_mul rfl ?_
  refine E_iret rfl (fun h => absurd h (by decide)) ?_
  refine ⟨rfl, c_2, rfl, ?_, (hE_1.trans hE_2)⟩
  have e := hT_2
  try simp only [List.append_assoc, List.cons_append, List.nil_append] at e
  exact e
set_option maxHeartbeats 4000000 in
set_option maxRecDepth 100000 in
theorem v_t3 {d : Nat} {h : Hp} {c : Nat → Nat → Int} (hL : Lay h) {p b : Nat} {kind v : Int} (hA : ActR h c p b kind v) {L : List Int} (hT : BodR L (c 19 3) (c 20)) (hl : L.length ≤ 12) {x : Int} (hkr : 0 ≤ kind ∧ kind ≤ 6) (hpc : mK h p = 3 ∨ mK h p = 10) : Ok (d + 6) 43 [(1, ((p : Nat) : Int)), (0, x)] (wC h c) (fun r h2 => r = some (0, mBit 7 (ptA kind b v x).1 7) ∧ ∃ c2, h2 = wC h c2 ∧ BodR (L ++ (31 :: (ptA kind b v x).2)) (c2 19 3) (c2 20) ∧ EqP PT9 c c2) := by
  show Ex _ none t_X2_tells 0 0 _ [] (wC h c) _
  refine E_load rfl rfl rfl ?_
  refine E_getI (v := (1, ((19 : Nat) : Int))) rfl (show p < mN h by have := hA.2.1.1.1; omega) hA.2.1.isB ((show mIsa (mK h p) 3 = true by rcases hpc with e | e <;> rw [e] <;> rfl)) rfl (fv (hA.2.1.2.1.2.2.1)) ?_
  refine E_const rfl ?_
  refine E_const rfl ?_
  refine E_const rfl ?_
  refine E_V3 (q := 19) (c := 8) (y := 59) rfl rfl (hL.lt 19 rfl) (hL.k 19 rfl) rfl rfl rfl rfl (c_addB hL hA hT (by first | omega | (have := uA_len kind b x; have := kA_len kind b v x; have := kA_len kind b v (x - 1); have := uA_len kind b 2; simp only [pkA, ptA, List.length_append, List.length_cons, List.length_nil]; omega))) (fun r h2 hq => ?_)
  obtain ⟨rfl, c_1, hh, hT_1, hE_1⟩ := hq
  subst hh
  have hA_1 := hA.of hE_1
  refine E_pop rfl rfl ?_
  refine E_load rfl rfl rfl ?_
  refine E_load rfl rfl rfl ?_
  refine E_V1 (q := p) (c := (mK h p)) (y := 18) rfl rfl (show p < mN h by have := hA.2.1.1.1; omega) rfl (by rcases hpc with e | e <;> rw [e] <;> rfl) rfl rfl rfl (v_t0 hL hA_1 hT_1 (by first | omega | (have := uA_len kind b x; have := kA_len kind b v x; have := kA_len kind b v (x - 1); have := uA_len kind b 2; simp only [pkA, ptA, List.length_append, List.length_cons, List.length_nil]; omega)) hkr) (fun r h2 hq => ?_)
  obtain ⟨rfl, c_2, hh, hT_2, hE_2⟩ := hq
  subst hh
  have hA_2 := hA_1.of hE_2
  refine E_const rfl ?_
  refine E_bit (z := (mBit 7 (ptA kind b v x).1 7)) rfl rfl rfl ?_
  refine E_iret rfl (fun h => absurd h (by decide)) ?_
  refine ⟨rfl, c_2, rfl, ?_, (hE_1.trans hE_2)⟩
  have e := hT_2
  try simp only [List.append_assoc, List.cons_append, List.nil_append] at e
  exact e
set_option maxHeartbeats 4000000 in
set_option maxRecDepth 100000 in
theorem v_t4 {d : Nat} {h : Hp} {c : Nat → Nat → Int} (hL : Lay h) {p b : Nat} {kind v : Int} (hA : ActR h c p b kind v) {L : List Int} (hT : BodR L (c 19 3) (c 20)) (hl : L.length ≤ 8) {x : Int} (hkr : 0 ≤ kind ∧ kind ≤ 6) (hpc : mK h p = 4) : Ok (d + 6) 46 [(1, ((p : Nat) : Int)), (0, x)] (wC h c) (fun r h2 => r = some (0, (ptA kind b v (x - 1)).1 + (2 * 3 + (b : Int))) ∧ ∃ c2, h2 = wC h c2 ∧ BodR (L ++ (41 :: ((ptA kind b v (x - 1)).2 ++ [11, 1]))) (c2 19 3) (c2 20) ∧ EqP PT9 c c2) := by
  show Ex _ none t_X3_tells 0 0 _ [] (wC h c) _
  refine E_load rfl rfl rfl ?_
  refine E_getI (v := (1, ((19 : Nat) : Int))) rfl (show p < mN h by have := hA.2.1.1.1; omega) hA.2.1.isB ((show mIsa (mK h p) 4 = true by rw [hpc]; rfl)) rfl (fv (hA.2.1.2.1.2.2.1)) ?_
  refine E_const rfl ?_
  refine E_const rfl ?_
  refine E_const rfl ?_
  refine E_V3 (q := 19) (c := 8) (y := 59) rfl rfl (hL.lt 19 rfl) (hL.k 19 rfl) rfl rfl rfl rfl (c_addB hL hA hT (by first | omega | (have := uA_len kind b x; have := kA_len kind b v x; have := kA_len kind b v (x - 1); have := uA_len kind b 2; simp only [pkA, ptA, List.length_append, List.length_cons, List.length_nil]; omega))) (fun r h2 hq => ?_)
  obtain ⟨rfl, c_1, hh, hT_1, hE_1⟩ := hq
  subst hh
  have hA_1 := hA.of hE_1
  refine E_pop rfl rfl ?_
  refine E_load rfl rfl rfl ?_
  refine E_load rfl rfl rfl ?_
  refine E_const rfl ?_
  refine E_sub rfl ?_
  refine E_V1 (q := p) (c := (mK h p)) (y := 18) rfl rfl (show p < mN h by have := hA.2.1.1.1; omega) rfl (by rw [hpc]; rfl) rfl rfl rfl (v_t0 hL hA_1 hT_1 (by first | omega | (have := uA_len kind b x; have := kA_len kind b v x; have := kA_len kind b v (x - 1); have := uA_len kind b 2; simp only [pkA, ptA, List.length_append, List.length_cons, List.length_nil]; omega)) hkr) (fun r h2 hq => ?_)
  obtain ⟨rfl, c_2, hh, hT_2, hE_2⟩ := hq
  subst hh
  have hA_2 := hA_1.of hE_2
  refine E_load rfl rfl rfl ?_
  refine E_const rfl ?_
  refine E_V1 (q := p) (c := (mK h p)) (y := 49) rfl rfl (show p < mN h by have := hA.2.1.1.1; omega) rfl (by rw [hpc]; rfl) rfl rfl rfl (v_u1 (d := d + 3) hL hA_2 hT_2 (by first | omega | (have := uA_len kind b x; have := kA_len kind b v x; have := kA_len kind b v (x - 1); have := uA_len kind b 2; simp only [pkA, ptA, List.length_append, List.length_cons, List.length_nil]; omega)) (Or.inr hpc)) (fun r h2 hq => ?_)
  obtain ⟨rfl, c_3, hh, hT_3, hE_3⟩ := hq
  subst hh
  have hA_3 := hA_2.of hE_3
  refine E_add rfl ?_
  refine E_iret rfl (fun h => absurd h (by decide)) ?_
  refine ⟨rfl, c_3, rfl, ?_, (hE_1.trans (hE_2.trans hE_3))⟩
  have e := hT_3
  try simp only [List.append_assoc, List.cons_append, List.nil_append] at e
  exact e
theorem v_tells {d : Nat} {h : Hp} {c : Nat → Nat → Int} (hL : Lay h) {p b : Nat} {kind v : Int} (hA : ActR h c p b kind v) {L : List Int} (hT : BodR L (c 19 3) (c 20)) (hl : L.length ≤ 8) {x : Int} (hkr : 0 ≤ kind ∧ kind ≤ 6) : ∃ n, (vt 90).lookup (mK h p) = some n ∧ (mt n).2.2.1 = 2 ∧ Nat.ble 2 (mt n).2.1 = true ∧ Ok (d + 6) n [(1, ((p : Nat) : Int)), (0, x)] (wC h c) (fun r h2 => r = some (0, (tA kind b v x).1) ∧ ∃ c2, h2 = wC h c2 ∧ BodR (L ++ (tA kind b v x).2) (c2 19 3) (c2 20) ∧ EqP PT9 c c2) := by
  have hkc := hA.2.1.1.2
  rcases (show kind = 0 ∨ kind = 1 ∨ kind = 2 ∨ kind = 3 ∨ kind = 4 ∨ kind = 5 ∨ kind = 6 by omega) with rfl | rfl | rfl | rfl | rfl | rfl | rfl
  · exact ⟨18, by rw [hkc]; rfl, rfl, rfl, v_t0 (d := d + 1) hL hA hT (by omega) hkr⟩
  · exact ⟨18, by rw [hkc]; rfl, rfl, rfl, v_t0 (d := d + 1) hL hA hT (by omega) hkr⟩
  · exact ⟨18, by rw [hkc]; rfl, rfl, rfl, v_t0 (d := d + 1) hL hA hT (by omega) hkr⟩
  · exact ⟨43, by rw [hkc]; rfl, rfl, rfl, v_t3 hL hA hT (by omega) hkr (Or.inl hkc)⟩
  · exact ⟨46, by rw [hkc]; rfl, rfl, rfl, v_t4 hL hA hT (by omega) hkr hkc⟩
  · exact ⟨18, by rw [hkc]; rfl, rfl, rfl, v_t0 (d := d + 1) hL hA hT (by omega) hkr⟩
  · exact ⟨43, by rw [hkc]; rfl, rfl, rfl, v_t3 hL hA hT (by omega) hkr (Or.inr hkc)⟩
