theorem set47 (h : Hp) (f : Nat → Int) : setC h 47 f = scr h f (mC h 48) := by
  refine Prod.ext rfl (Prod.ext rfl (Prod.ext rfl (Prod.ext rfl ?_)))
  funext b j
  show (if b = 47 then f j else mC h b j) = if b = 48 then mC h 48 j else if b = 47 then f j else mC h b j
  by_cases h8 : b = 48
  · subst h8
    simp
  · simp [h8]
theorem mPut47 (h : Hp) (k : Nat) (x : Int) : mPut h 47 k x = scr h (upd1 (mC h 47) k x) (mC h 48) := by
  rw [mPut_setC, set47]
theorem InvH.h35 {s : Nat → Int} (hH : InvH s) : -1 ≤ s 35 ∧ s 35 ≤ 4 := by
  rcases hH with h | ⟨h, -⟩ <;> omega
theorem envS_in {s : Nat → Int} {b : Nat} (hb : b < 6) (hI : InvB s) : ∀ k, k < 6 → -1000 ≤ envS s b k ∧ envS s b k ≤ 1000 := by
  intro k hk
  obtain ⟨h1, h2, h3, h4, h5, h6, -⟩ := hI b hb
  have e1 : (s (7 + b)).tdiv 10 = s (7 + b) / 10 := Int.tdiv_eq_ediv_of_nonneg h2.1
  have hz : 0 ≤ szI (s (1 + b)) ∧ szI (s (1 + b)) ≤ 99 := by unfold szI; split <;> omega
  have e2 : (szI (s (1 + b))).tdiv 10 = szI (s (1 + b)) / 10 := Int.tdiv_eq_ediv_of_nonneg hz.1
  match k, hk with
  | 0, _ => show -1000 ≤ (b : Int) ∧ (b : Int) ≤ 1000; omega
  | 1, _ => show -1000 ≤ s (37 + b) ∧ s (37 + b) ≤ 1000; omega
  | 2, _ => show -1000 ≤ s (43 + b) ∧ s (43 + b) ≤ 1000; omega
  | 3, _ => show -1000 ≤ (s (7 + b)).tdiv 10 ∧ (s (7 + b)).tdiv 10 ≤ 1000; omega
  | 4, _ => show -1000 ≤ s (13 + b) ∧ s (13 + b) ≤ 1000; omega
  | 5, _ => show -1000 ≤ (szI (s (1 + b))).tdiv 10 ∧ (szI (s (1 + b))).tdiv 10 ≤ 1000; omega
theorem lkS_in {s : Nat → Int} {b : Nat} (hH : InvH s) : -14000 ≤ lkS s b ∧ lkS s b ≤ 14000 := by
  have hd : (dpL (stL s)).isSome = true ∧ (stL s).length ≤ 140 := by
    rcases hH with h | ⟨h1, -, -, h4, h5⟩
    · unfold stL
      rw [if_pos h]
      exact ⟨rfl, by decide⟩
    · refine ⟨h5, ?_⟩
      unfold stL
      rw [if_neg (by omega), List.length_map, List.length_range]
      omega
  have := lk_in (e := envS s b) (stL s) [] 0 hd.1
  unfold lkS lkL
  omega
theorem sfS_in {s : Nat → Int} {b : Nat} (hb : b < 6) (hI : InvB s) (hH : InvH s) : 0 ≤ sfS s b ∧ sfS s b ≤ 2786000 := by
  obtain ⟨-, h2, -⟩ := hI b hb
  have h3 := lkS_in (b := b) hH
  unfold sfS softK
  split
  · omega
  · have h4 : 0 ≤ s (7 + b) * (10 + lkS s b) := Int.mul_nonneg h2.1 (by omega)
    have h5 : s (7 + b) * (10 + lkS s b) ≤ 199 * 14010 := Int.le_trans (Int.mul_le_mul_of_nonneg_right h2.2 (by omega)) (Int.mul_le_mul_of_nonneg_left (by omega) (by omega))
    rw [Int.tdiv_eq_ediv_of_nonneg h4]
    omega
set_option maxHeartbeats 6000000 in
set_option maxRecDepth 100000 in
theorem m_looks {d : Nat} {h : Hp} (hL : Lay h) (hM : MC h) {b : Nat} (hb : b < 6) (hI : InvB (mC h 44)) (hH : InvH (mC h 44)) : Ok (d + 1) 165 [(1, ((43 : Nat) : Int)), (0, (b : Int))] h (fun r h2 => r = some (0, lkS (mC h 44) b) ∧ ∃ f g, h2 = scr h f g) := by
  show Ex _ none t_X11_looks 0 0 _ [] _ _
  obtain ⟨i1, i2, i3, i4, i5, i6, -⟩ := hI b hb
  have hz : 0 ≤ szI (mC h 44 (1 + b)) ∧ szI (mC h 44 (1 + b)) ≤ 99 := by unfold szI; split <;> omega
  refine E_load rfl rfl rfl ?_
  refine E_getr (c := 12) (r := 47) rfl (hL.lt 43 rfl) (hL.k 43 rfl) rfl (hM.c10) ?_
  refine E_const rfl ?_
  refine E_load rfl rfl rfl ?_
  refine E_iasj (n := 6) (j := 0) rfl (hL.lt 47 rfl) (hL.k 47 rfl) (hL.l 47 rfl) (by omega) (rfl) ?_
  rw [mPut47]
  refine E_load rfl rfl rfl ?_
  refine E_getr (c := 12) (r := 47) rfl (hL.lt 43 rfl) (hL.k 43 rfl) rfl (hM.c10) ?_
  refine E_const rfl ?_
  refine E_load rfl rfl rfl ?_
  refine E_getr (c := 12) (r := 44) rfl (hL.lt 43 rfl) (hL.k 43 rfl) rfl (hM.c1) ?_
  refine E_const rfl ?_
  refine E_load rfl rfl rfl ?_
  refine E_add rfl ?_
  refine E_ialn (n := 943) (v := mC h 44 (37 + b)) rfl (hL.lt 44 rfl) (hL.k 44 rfl) (hL.l 44 rfl) (by omega) (show mC h 44 (((37 : Int) + (b : Int)).toNat) = mC h 44 (37 + b) from congrArg _ (by omega)) ?_
  refine E_iasj (n := 6) (j := 1) rfl (hL.lt 47 rfl) (hL.k 47 rfl) (hL.l 47 rfl) (by omega) (rfl) ?_
  rw [mPut_scr47]
  refine E_load rfl rfl rfl ?_
  refine E_getr (c := 12) (r := 47) rfl (hL.lt 43 rfl) (hL.k 43 rfl) rfl (hM.c10) ?_
  refine E_const rfl ?_
  refine E_load rfl rfl rfl ?_
  refine E_getr (c := 12) (r := 44) rfl (hL.lt 43 rfl) (hL.k 43 rfl) rfl (hM.c1) ?_
  refine E_const rfl ?_
  refine E_load rfl rfl rfl ?_
  refine E_add rfl ?_
  refine E_ialn (n := 943) (v := mC h 44 (43 + b)) rfl (hL.lt 44 rfl) (hL.k 44 rfl) (hL.l 44 rfl) (by omega) (show mC h 44 (((43 : Int) + (b : Int)).toNat) = mC h 44 (43 + b) from congrArg _ (by omega)) ?_
  refine E_iasj (n := 6) (j := 2) rfl (hL.lt 47 rfl) (hL.k 47 rfl) (hL.l 47 rfl) (by omega) (rfl) ?_
  rw [mPut_scr47]
  refine E_load rfl rfl rfl ?_
  refine E_getr (c := 12) (r := 47) rfl (hL.lt 43 rfl) (hL.k 43 rfl) rfl (hM.c10) ?_
  refine E_const rfl ?_
  refine E_load rfl rfl rfl ?_
  refine E_getr (c := 12) (r := 44) rfl (hL.lt 43 rfl) (hL.k 43 rfl) rfl (hM.c1) ?_
  refine E_const rfl ?_
  refine E_load rfl rfl rfl ?_
  refine E_add rfl ?_
  refine E_ialn (n := 943) (v := mC h 44 (7 + b)) rfl (hL.lt 44 rfl) (hL.k 44 rfl) (hL.l 44 rfl) (by omega) (show mC h 44 (((7 : Int) + (b : Int)).toNat) = mC h 44 (7 + b) from congrArg _ (by omega)) ?_
  refine E_const rfl ?_
  refine E_div rfl (by omega) (by omega) (by omega) ?_
  refine E_iasj (n := 6) (j := 3) rfl (hL.lt 47 rfl) (hL.k 47 rfl) (hL.l 47 rfl) (by omega) (rfl) ?_
  rw [mPut_scr47]
  refine E_load rfl rfl rfl ?_
  refine E_getr (c := 12) (r := 47) rfl (hL.lt 43 rfl) (hL.k 43 rfl) rfl (hM.c10) ?_
  refine E_const rfl ?_
  refine E_load rfl rfl rfl ?_
  refine E_getr (c := 12) (r := 44) rfl (hL.lt 43 rfl) (hL.k 43 rfl) rfl (hM.c1) ?_
  refine E_const rfl ?_
  refine E_load rfl rfl rfl ?_
  refine E_add rfl ?_
  refine E_ialn (n := 943) (v := mC h 44 (13 + b)) rfl (hL.lt 44 rfl) (hL.k 44 rfl) (hL.l 44 rfl) (by omega) (show mC h 44 (((13 : Int) + (b : Int)).toNat) = mC h 44 (13 + b) from congrArg _ (by omega)) ?_
  refine E_iasj (n := 6) (j := 4) rfl (hL.lt 47 rfl) (hL.k 47 rfl) (hL.l 47 rfl) (by omega) (rfl) ?_
  rw [mPut_scr47]
  refine E_load rfl rfl rfl ?_
  refine E_getr (c := 12) (r := 47) rfl (hL.lt 43 rfl) (hL.k 43 rfl) rfl (hM.c10) ?_
  refine E_const rfl ?_
  refine E_load rfl rfl rfl ?_
  refine E_getr (c := 12) (r := 44) rfl (hL.lt 43 rfl) (hL.k 43 rfl) rfl (hM.c1) ?_
  refine E_const rfl ?_
  refine E_load rfl rfl rfl ?_
  refine E_add rfl ?_
  refine E_ialn (n := 943) (v := mC h 44 (1 + b)) rfl (hL.lt 44 rfl) (hL.k 44 rfl) (hL.l 44 rfl) (by omega) (show mC h 44 (((1 : Int) + (b : Int)).toNat) = mC h 44 (1 + b) from congrArg _ (by omega)) ?_
  refine E_cS (as := [(0, mC h 44 (1 + b))]) (rest := [(0, 5), (1, ((47 : Nat) : Int))]) rfl rfl rfl rfl rfl rfl (m_size (by omega)) (fun r h2 hq => ?_)
  obtain ⟨rfl, rfl⟩ := hq
  refine E_const rfl ?_
  refine E_div rfl (by omega) (by omega) (by omega) ?_
  refine E_iasj (n := 6) (j := 5) rfl (hL.lt 47 rfl) (hL.k 47 rfl) (hL.l 47 rfl) (by omega) (rfl) ?_
  rw [mPut_scr47]
  refine E_const rfl ?_
  refine E_store rfl rfl rfl ?_
  refine E_load rfl rfl rfl ?_
  refine E_const rfl ?_
  refine E_const rfl ?_
  refine E_cV (q := 43) (c := 12) (y := 164) (as := [(0, 238), (0, 0)]) (rest := []) rfl rfl rfl (hL.lt 43 rfl) (hL.k 43 rfl) rfl rfl rfl rfl (m_tellsOf (h := scr h _ _) hL hM (by omega) hH.h35) (fun r h2 hq => ?_)
  obtain ⟨rfl, rfl⟩ := hq
  refine E_store rfl rfl rfl ?_
  refine E_const rfl ?_
  refine E_const rfl ?_
  refine E_load rfl rfl rfl ?_
  refine E_getr (c := 12) (r := 44) rfl (hL.lt 43 rfl) (hL.k 43 rfl) rfl (hM.c1) ?_
  refine E_const rfl ?_
  refine E_ialj (n := 943) (j := 35) rfl (hL.lt 44 rfl) (hL.k 44 rfl) (hL.l 44 rfl) (by omega) (rfl) ?_
  refine E_mul rfl ?_
  refine E_add rfl ?_
  refine E_store rfl rfl rfl ?_
  refine E_const rfl ?_
  refine E_store rfl rfl rfl ?_
  refine E_load rfl rfl rfl ?_
  refine E_store rfl rfl rfl ?_
  generalize hF : upd1 _ 5 _ = F
  have hf : ∀ k, k < 6 → F k = envS (mC h 44) b k := by
    intro k hk
    subst hF
    match k, hk with
    | 0, _ => rfl
    | 1, _ => rfl
    | 2, _ => rfl
    | 3, _ => rfl
    | 4, _ => rfl
    | 5, _ => rfl
  have fin : ∀ many : Int, many = tlI (mC h 44) 238 0 → Ex (d + 1) none t_X11_looks 0 125 [(1, ((43 : Nat) : Int)), (0, (b : Int)), (0, 0), (0, many), (0, 243 + 140 * mC h 44 35), (0, 0), (0, 243 + 140 * mC h 44 35), (9, 0), (9, 0), (9, 0), (9, 0)] [] (scr h F (mC h 48)) (fun r h2 => r = some (0, lkS (mC h 44) b) ∧ ∃ f g, h2 = scr h f g) := by
    intro many hmany
    have hlen : ((stL (mC h 44)).length : Int) = many ∧ 0 ≤ many ∧ many ≤ 140 ∧ (dpL (stL (mC h 44))).isSome = true ∧ ∀ j : Nat, (hj : j < (stL (mC h 44)).length) → mC h 44 (243 + 140 * mC h 44 35 + (j : Int)).toNat = (stL (mC h 44))[j] := by
      rcases hH with hc | ⟨h1, -, -, h4, h5⟩
      · have e1 : stL (mC h 44) = [] := by unfold stL; rw [if_pos hc]
        have e2 : many = 0 := by rw [hmany]; unfold tlI; rw [if_pos hc]
        rw [e1, e2]
        exact ⟨rfl, by omega, by omega, rfl, fun j hj => absurd hj (Nat.not_lt_zero j)⟩
      · have e2 : many = mC h 44 (238 + mC h 44 35).toNat := by rw [hmany]; unfold tlI; rw [if_neg (by omega)]
        refine ⟨?_, by omega, by omega, h5, ?_⟩
        · unfold stL
          rw [if_neg (by omega), List.length_map, List.length_range]
          omega
        · intro j hj
          simp only [stL, if_neg (show ¬ mC h 44 35 = -1 by omega), List.getElem_map, List.getElem_range]
    have h35 := hH.h35
    refine (m_looks_loop (d := d + 1) hL hM hf (envS_in hb hI) (by omega) ⟨hlen.2.1, hlen.2.2.1⟩ (stL (mC h 44)) _ (by omega) hlen.2.2.2.2 [] 0 (mC h 48) _ _ _ _ trivial hlen.2.2.2.1 0 rfl (by simp)).mono ?_
    rintro r hE ⟨q1, g', q2⟩
    exact ⟨q1, _, _, q2⟩
  exact fin _ rfl
set_option maxHeartbeats 6000000 in
set_option maxRecDepth 100000 in
theorem m_softOf {d : Nat} {h : Hp} (hL : Lay h) (hM : MC h) {b : Nat} (hb : b < 6) (hI : InvB (mC h 44)) (hH : InvH (mC h 44)) : Ok (d + 2) 166 [(1, ((43 : Nat) : Int)), (0, (b : Int))] h (fun r h2 => r = some (0, sfS (mC h 44) b) ∧ ∃ f g, h2 = scr h f g) := by
  show Ex _ none t_X11_softOf 0 0 _ [] _ _
  obtain ⟨i1, i2, i3, i4, i5, i6, -⟩ := hI b hb
  have hk := lkS_in (b := b) hH
  have hm : 0 ≤ 10 + lkS (mC h 44) b → 0 ≤ mC h 44 (7 + b) * (10 + lkS (mC h 44) b) ∧ mC h 44 (7 + b) * (10 + lkS (mC h 44) b) ≤ 199 * 14010 := fun q => ⟨Int.mul_nonneg i2.1 q, Int.le_trans (Int.mul_le_mul_of_nonneg_right i2.2 q) (Int.mul_le_mul_of_nonneg_left (by omega) (by omega))⟩
  refine E_const rfl ?_
  refine E_load rfl rfl rfl ?_
  refine E_load rfl rfl rfl ?_
  refine E_cV (q := 43) (c := 12) (y := 165) (as := [(0, (b : Int))]) (rest := [(0, 10)]) rfl rfl rfl (hL.lt 43 rfl) (hL.k 43 rfl) rfl rfl rfl rfl (m_looks hL hM hb hI hH) (fun r h2 hq => ?_)
  obtain ⟨rfl, f, g, rfl⟩ := hq
  refine E_add rfl ?_
  refine E_store rfl rfl rfl ?_
  refine E_load rfl rfl rfl ?_
  refine E_if3 rfl (by omega) (fun c1 => ?_) (fun c1 => ?_)
  · refine E_load rfl rfl rfl ?_
    refine E_getr (c := 12) (r := 44) rfl (hL.lt 43 rfl) (hL.k 43 rfl) rfl (hM.c1) ?_
    refine E_const rfl ?_
    refine E_load rfl rfl rfl ?_
    refine E_add rfl ?_
    refine E_ialn (n := 943) (v := mC h 44 (7 + b)) rfl (hL.lt 44 rfl) (hL.k 44 rfl) (hL.l 44 rfl) (by omega) (show mC h 44 (((7 : Int) + (b : Int)).toNat) = mC h 44 (7 + b) from congrArg _ (by omega)) ?_
    refine E_load rfl rfl rfl ?_
    refine E_mul rfl ?_
    refine E_const rfl ?_
    refine E_div rfl (by omega) (by omega) (by omega) ?_
    refine E_iret rfl (fun h => absurd h (by decide)) ?_
    have hm2 := hm c1
    exact ⟨by unfold sfS softK; rw [if_neg (by omega)], _, _, rfl⟩
  · refine E_const rfl ?_
    refine E_goto rfl ?_
    refine E_iret rfl (fun h => absurd h (by decide)) ?_
    exact ⟨by unfold sfS softK; rw [if_pos c1], _, _, rfl⟩
