theorem E_getI {d : Nat} {sc : Option (Nat × (Nat → Int))} {tb : List ME} {rk pc nx : Nat} {a b : Int} {l : List (Int × Int)} {lv st : List AV} {h : Hp} {Q : Option AV → Hp → Prop} {q : Nat} {v : AV} (hat : mAt tb pc = some (nx, 16, a, b, l)) (hq : q < mN h) (hk : IsB (mK h q)) (hi : mIsa (mK h q) b.toNat = true) (hc : Nat.blt a.toNat 6 = true) (hv : (mTag ([0, 0, 1, 1, 1, 1].getD a.toNat 0), mC h q a.toNat) = v) (k : Ex d sc tb rk nx lv (v :: st) h Q) : Ex d sc tb rk pc lv ((1, (q : Int)) :: st) h Q := by
  obtain ⟨f1, f2, f3⟩ := hk.ft
  have h6 : a.toNat < 6 := Nat.le_of_ble_eq_true hc
  refine k.step hat rfl ?_
  simp only [mStep, mAd_of hq]
  rw [if_pos ⟨f3, hi, by rw [f1]; exact h6⟩, f1, hv]
def PT9 (a k : Nat) : Prop := a = 20 ∨ (a = 19 ∧ k = 3)
/-- an act runs over bottle p -/
def ActR (h : Hp) (c : Nat → Nat → Int) (p b : Nat) (kind v : Int) : Prop := Cc c ∧ Bot h c p b kind ∧ c (p + 1) 1 = v ∧ 55 ≤ p
theorem ActR.of {h : Hp} {c c2 : Nat → Nat → Int} {p b : Nat} {kind v : Int} (hA : ActR h c p b kind v) (hE : EqP PT9 c c2) : ActR h c2 p b kind v := by
  obtain ⟨a1, a2, a3, a4⟩ := hA
  have hb : ∀ a k, 55 ≤ a → c2 a k = c a k := fun a k ha => hE a k (by unfold PT9; omega)
  refine ⟨a1.of fun e he => hE _ _ ?_, a2.ofE (fun k => hb _ k (by omega)) (hb _ 0 (by omega)) (hb _ 0 (by omega)) (hb _ 0 (by omega)), (hb _ 1 (by omega)).trans a3, a4⟩
  have : ∀ e ∈ CT, e.1 ≠ 20 ∧ (e.1 ≠ 19 ∨ e.2.1 ≠ 3) := by decide
  have := this e he
  unfold PT9
  omega
theorem c_addB {d : Nat} {h : Hp} {c : Nat → Nat → Int} {p b : Nat} {kind v : Int} (hL : Lay h) (hA : ActR h c p b kind v) {L : List Int} (hT : BodR L (c 19 3) (c 20)) (hl : L.length ≤ 19) {x : Int} : Ok (d) 59 [(1, ((19 : Nat) : Int)), (0, x), (0, 0), (0, 0)] (wC h c) (fun r h2 => r = some (0, 1) ∧ ∃ c2, h2 = wC h c2 ∧ BodR (L ++ [x]) (c2 19 3) (c2 20) ∧ EqP PT9 c c2) := by
  refine (s_add1 (sh19 hL hA.1) (by decide) (by rw [hT.1]; omega) (by rw [hT.1]; omega)).mono ?_
  rintro r hE ⟨h1, c2, h2, h3⟩
  have hlim : c 19 3 * 1 + 1 ≤ ((20 : Nat) : Int) := by rw [hT.1]; omega
  rw [if_pos hlim] at h3
  have hc : c2 = up2 (up2 c 20 L.length x) 19 3 ((L.length : Int) + 1) := by
    rw [h3]
    unfold adS
    rw [hT.1, show ((L.length : Int) * ((1 : Nat) : Int)).toNat = L.length by omega]
    rfl
  refine ⟨by rw [h1, bI_t hlim], c2, h2, ⟨?_, fun j hj => ?_⟩, ?_⟩
  · rw [hc, List.length_append]; exact up2_same
  · rw [hc, up2_fldN (by omega)]
    rw [List.length_append] at hj
    simp only [List.length_cons, List.length_nil] at hj
    by_cases e : j = L.length
    · rw [e, up2_same, List.getD_eq_getElem?_getD, List.getElem?_append_right (Nat.le_refl _), Nat.sub_self]; rfl
    · rw [up2_fldN (by omega), hT.2 j (by omega), List.getD_eq_getElem?_getD, List.getD_eq_getElem?_getD, List.getElem?_append_left (by omega)]
  · rw [hc]; exact (EqP.up (Or.inl rfl)).trans (EqP.up (Or.inr ⟨rfl, rfl⟩))
set_option maxHeartbeats 4000000 in
set_option maxRecDepth 100000 in
theorem v_u0 {d : Nat} {h : Hp} {c : Nat → Nat → Int} (hL : Lay h) {p b : Nat} {kind v : Int} (hA : ActR h c p b kind v) {L : List Int} (hT : BodR L (c 19 3) (c 20)) (hl : L.length ≤ 18) {x : Int} : Ok (d + 1) 16 [(1, ((p : Nat) : Int)), (0, x)] (wC h c) (fun r h2 => r = some (0, x + (b : Int)) ∧ ∃ c2, h2 = wC h c2 ∧ BodR (L ++ [1]) (c2 19 3) (c2 20) ∧ EqP PT9 c c2) := by
  show Ex _ none t_X0_utters 0 0 _ [] (wC h c) _
  refine E_load rfl rfl rfl ?_
  refine E_getI (v := (1, ((19 : Nat) : Int))) rfl (show p < mN h by have := hA.2.1.1.1; omega) hA.2.1.isB (hA.2.1.isB.ft.2.1) rfl (fv (hA.2.1.2.1.2.2.1)) ?_
  refine E_const rfl ?_
  refine E_const rfl ?_
  refine E_const rfl ?_
  refine E_V3 (q := 19) (c := 8) (y := 59) rfl rfl (hL.lt 19 rfl) (hL.k 19 rfl) rfl rfl rfl rfl (c_addB hL hA hT (by first | omega | (have := uA_len kind b x; have := kA_len kind b v x; have := kA_len kind b v (x - 1); have := uA_len kind b 2; simp only [pkA, ptA, List.length_append, List.length_cons, List.length_nil]; omega))) (fun r h2 hq => ?_)
  obtain ⟨rfl, c_1, hh, hT_1, hE_1⟩ := hq
  subst hh
  have hA_1 := hA.of hE_1
  refine E_pop rfl rfl ?_
  refine E_load rfl rfl rfl ?_
  refine E_load rfl rfl rfl ?_
  refine E_getI (v := (0, ((b : Nat) : Int))) rfl (show p < mN h by have := hA.2.1.1.1; omega) hA.2.1.isB (hA.2.1.isB.ft.2.1) rfl (fv (hA_1.2.1.2.1.2.1)) ?_
  refine E_add rfl ?_
  refine E_iret rfl (fun h => absurd h (by decide)) ?_
  refine ⟨rfl, c_1, rfl, ?_, hE_1⟩
  have e := hT_1
  try simp only [List.append_assoc, List.cons_append, List.nil_append] at e
  exact e
set_option maxHeartbeats 4000000 in
set_option maxRecDepth 100000 in
theorem v_u1 {d : Nat} {h : Hp} {c : Nat → Nat → Int} (hL : Lay h) {p b : Nat} {kind v : Int} (hA : ActR h c p b kind v) {L : List Int} (hT : BodR L (c 19 3) (c 20)) (hl : L.length ≤ 17) {x : Int} (hpc : mK h p = 5 ∨ mK h p = 4) : Ok (d + 2) 49 [(1, ((p : Nat) : Int)), (0, x)] (wC h c) (fun r h2 => r = some (0, x * 3 + (b : Int)) ∧ ∃ c2, h2 = wC h c2 ∧ BodR (L ++ [11, 1]) (c2 19 3) (c2 20) ∧ EqP PT9 c c2) := by
  show Ex _ none t_X4_utters 0 0 _ [] (wC h c) _
  refine E_load rfl rfl rfl ?_
  refine E_getI (v := (1, ((19 : Nat) : Int))) rfl (show p < mN h by have := hA.2.1.1.1; omega) hA.2.1.isB ((show mIsa (mK h p) 5 = true by rcases hpc with e | e <;> rw [e] <;> rfl)) rfl (fv (hA.2.1.2.1.2.2.1)) ?_
  refine E_const rfl ?_
  refine E_const rfl ?_
  refine E_const rfl ?_
  refine E_V3 (q := 19) (c := 8) (y := 59) rfl rfl (hL.lt 19 rfl) (hL.k 19 rfl) rfl rfl rfl rfl (c_addB hL hA hT (by first | omega | (have := uA_len kind b x; have := kA_len kind b v x; have := kA_len kind b v (x - 1); have := uA_len kind b 2; simp only [pkA, ptA, List.length_append, List.length_cons, List.length_nil]; omega))) (fun r h2 hq => ?_)
  obtain ⟨rfl, c_1, hh, hT_1, hE_1⟩ := hq
  subst hh
  have hA_1 := hA.of hE_1
  refine E_pop rfl rfl ?_
  refine E_load rfl rfl rfl ?_
  refine E_load rfl rfl rfl ?_
  refine E_const rfl ?_
  refine E_mul rfl ?_
  refine E_V1 (q := p) (c := (mK h p)) (y := 16) rfl rfl (show p < mN h by have := hA.2.1.1.1; omega) rfl (by rcases hpc with e | e <;> rw [e] <;> rfl) rfl rfl rfl (v_u0 hL hA_1 hT_1 (by first | omega | (have := uA_len kind b x; have := kA_len kind b v x; have := kA_len kind b v (x - 1); have := uA_len kind b 2; simp only [pkA, ptA, List.length_append, List.length_cons, List.length_nil]; omega))) (fun r h2 hq => ?_)
  obtain ⟨rfl, c_2, hh, hT_2, hE_2⟩ := hq
  subst hh
  have hA_2 := hA_1.of hE_2
  refine E_iret rfl (fun h => absurd h (by decide)) ?_
  refine ⟨rfl, c_2, rfl, ?_, (hE_1.trans hE_2)⟩
  have e := hT_2
  try simp only [List.append_assoc, List.cons_append, List.nil_append] at e
  exact e
set_option maxHeartbeats 4000000 in
set_option maxRecDepth 100000 in
theorem v_u5 {d : Nat} {h : Hp} {c : Nat → Nat → Int} (hL : Lay h) {p b : Nat} {kind v : Int} (hA : ActR h c p b kind v) {L : List Int} (hT : BodR L (c 19 3) (c 20)) (hl : L.length ≤ 17) {x : Int} (hpc : mK h p = 7) : Ok (d + 2) 57 [(1, ((p : Nat) : Int)), (0, x)] (wC h c) (fun r h2 => r = some (0, mBit 7 (x + (b : Int)) (b : Int)) ∧ ∃ c2, h2 = wC h c2 ∧ BodR (L ++ [51, 1]) (c2 19 3) (c2 20) ∧ EqP PT9 c c2) := by
  show Ex _ none t_X6_utters 0 0 _ [] (wC h c) _
  refine E_load rfl rfl rfl ?_
  refine E_getI (v := (1, ((19 : Nat) : Int))) rfl (show p < mN h by have := hA.2.1.1.1; omega) hA.2.1.isB ((show mIsa (mK h p) 7 = true by rw [hpc]; rfl)) rfl (fv (hA.2.1.2.1.2.2.1)) ?_
  refine E_const rfl ?_
  refine E_const rfl ?_
  refine E_const rfl ?_
  refine E_V3 (q := 19) (c := 8) (y := 59) rfl rfl (hL.lt 19 rfl) (hL.k 19 rfl) rfl rfl rfl rfl (c_addB hL hA hT (by first | omega | (have := uA_len kind b x; have := kA_len kind b v x; have := kA_len kind b v (x - 1); have := uA_len kind b 2; simp only [pkA, ptA, List.length_append, List.length_cons, List.length_nil]; omega))) (fun r h2 hq => ?_)
  obtain ⟨rfl, c_1, hh, hT_1, hE_1⟩ := hq
  subst hh
  have hA_1 := hA.of hE_1
  refine E_pop rfl rfl ?_
  refine E_load rfl rfl rfl ?_
  refine E_load rfl rfl rfl ?_
  refine E_V1 (q := p) (c := (mK h p)) (y := 16) rfl rfl (show p < mN h by have := hA.2.1.1.1; omega) rfl (by rw [hpc]; rfl) rfl rfl rfl (v_u0 hL hA_1 hT_1 (by first | omega | (have := uA_len kind b x; have := kA_len kind b v x; have := kA_len kind b v (x - 1); have := uA_len kind b 2; simp only [pkA, ptA, List.length_append, List.length_cons, List.length_nil]; omega))) (fun r h2 hq => ?_)
  obtain ⟨rfl, c_2, hh, hT_2, hE_2⟩ := hq
  subst hh
  have hA_2 := hA_1.of hE_2
  refine E_load rfl rfl rfl ?_
  refine E_getI (v := (0, ((b : Nat) : Int))) rfl (show p < mN h by have := hA.2.1.1.1; omega) hA.2.1.isB ((show mIsa (mK h p) 7 = true by rw [hpc]; rfl)) rfl (fv (hA_2.2.1.2.1.2.1)) ?_
  refine E_bit (z := (mBit 7 (x + (b : Int)) ((b : Nat) : Int))) rfl rfl rfl ?_
  refine E_iret rfl (fun h => absurd h (by decide)) ?_
  refine ⟨rfl, c_2, rfl, ?_, (hE_1.trans hE_2)⟩
  have e := hT_2
  try simp only [List.append_assoc, List.cons_append, List.nil_append] at e
  exact e
theorem v_utters {d : Nat} {h : Hp} {c : Nat → Nat → Int} (hL : Lay h) {p b : Nat} {kind v : Int} (hA : ActR h c p b kind v) {L : List Int} (hT : BodR L (c 19 3) (c 20)) (hl : L.length ≤ 16) {x : Int} (hkr : 0 ≤ kind ∧ kind ≤ 6) : ∃ n, (vt 10).lookup (mK h p) = some n ∧ (vt 88).lookup (mK h p) = some n ∧ (mt n).2.2.1 = 2 ∧ Nat.ble 2 (mt n).2.1 = true ∧ Ok (d + 2) n [(1, ((p : Nat) : Int)), (0, x)] (wC h c) (fun r h2 => r = some (0, (uA kind b x).1) ∧ ∃ c2, h2 = wC h c2 ∧ BodR (L ++ (uA kind b x).2) (c2 19 3) (c2 20) ∧ EqP PT9 c c2) := by
  have hkc := hA.2.1.1.2
  rcases (show kind = 0 ∨ kind = 1 ∨ kind = 2 ∨ kind = 3 ∨ kind = 4 ∨ kind = 5 ∨ kind = 6 by omega) with rfl | rfl | rfl | rfl | rfl | rfl | rfl
  · exact ⟨16, by rw [hkc]; rfl, by rw [hkc]; rfl, rfl, rfl, v_u0 hL hA hT (by omega)⟩
  · exact ⟨49, by rw [hkc]; rfl, by rw [hkc]; rfl, rfl, rfl, v_u1 hL hA hT (by omega) (Or.inl hkc)⟩
  · exact ⟨16, by rw [hkc]; rfl, by rw [hkc]; rfl, rfl, rfl, v_u0 hL hA hT (by omega)⟩
  · exact ⟨16, by rw [hkc]; rfl, by rw [hkc]; rfl, rfl, rfl, v_u0 hL hA hT (by omega)⟩
  · exact ⟨49, by rw [hkc]; rfl, by rw [hkc]; rfl, rfl, rfl, v_u1 hL hA hT (by omega) (Or.inr hkc)⟩
  · exact ⟨57, by rw [hkc]; rfl, by rw [hkc]; rfl, rfl, rfl, v_u5 hL hA hT (by omega) hkc⟩
  · exact ⟨16, by rw [hkc]; rfl, by rw [hkc]; rfl, rfl, rfl, v_u0 hL hA hT (by omega)⟩
