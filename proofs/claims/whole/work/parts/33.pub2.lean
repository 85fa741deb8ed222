theorem mBit_0 {x : Int} (h : inR x) : mBit 6 x 0 = x := by
  show (Int32.ofInt x ||| Int32.ofInt 0).toInt = x
  rw [show (Int32.ofInt 0 : Int32) = 0 from rfl, Int32.or_zero]
  exact Int32.toInt_ofInt_of_le (by omega) (by omega)
theorem mBit_R (o : Nat) (x y : Int) : inR (mBit o x y) := by
  have : ∀ z : Int32, inR z.toInt := fun z => ⟨Int32.le_toInt z, Int32.toInt_lt z⟩
  unfold mBit
  repeat' split
  all_goals exact this _
theorem orL_R (p : Nat → Bool) : ∀ n, inR (orL p n)
  | 0 => by show inR 0; omega
  | n + 1 => by
    unfold orL
    split
    · exact mBit_R _ _ _
    · exact orL_R p n
theorem orL_t {p : Nat → Bool} {n : Nat} (h : p n = true) : mBit 6 (orL p n) (mBit 8 1 n) = orL p (n + 1) := by
  rw [orL, if_pos h]
theorem orL_f {p : Nat → Bool} {n : Nat} (h : p n = false) : mBit 6 (orL p n) 0 = orL p (n + 1) := by
  rw [orL, if_neg (by rw [h]; decide)]
  exact mBit_0 (orL_R _ _)
set_option maxHeartbeats 4000000 in
set_option maxRecDepth 100000 in
theorem l_full {d : Nat} {h : Hp} {s : Nat → Int} (hL : Lay h) (n29 : 0 ≤ s 29 ∧ s 29 ≤ 6) (hE : ∀ b : Nat, b < 6 → s (19 + b) = 0 ∨ s (19 + b) = 1) : ∀ (n i : Nat), i + n = (s 29).toNat → ∀ (a : Int), a = orL (fun b => decide (s (19 + b) = 0)) i → ∀ c, Mc c → c 44 = s → Ex (d) none t_X11_fullOnes 0 4 [(1, ((43 : Nat) : Int)), (0, a), (0, (i : Int))] [] (wC h c) (fun r h2 => r = some (0, fuS s) ∧ h2 = wC h c) := by
  intro n
  induction n with
  | zero =>
    intro i hi a ha c hM hs 
    refine E_load rfl rfl rfl ?_
    refine E_load rfl rfl rfl ?_
    refine E_getr (c := 12) (r := 44) rfl (hL.lt 43 rfl) (hL.k 43 rfl) rfl hM.c1 ?_
    refine E_const rfl ?_
    refine E_ialn (n := 943) (v := (s 29)) rfl (hL.lt 44 rfl) (hL.k 44 rfl) (hL.l 44 rfl) (by omega) (rdS hs (by omega)) ?_
    refine E_cmp3 rfl (by omega) (fun q1 => ?_) (fun q1 => ?_)
    · refine E_load rfl rfl rfl ?_
      refine E_iret rfl (fun h => absurd h (by decide)) ?_
      exact ⟨by rw [ha]; unfold fuS; rw [show i = (s 29).toNat by omega], rfl⟩
    · exfalso; omega
  | succ n ih =>
    intro i hi a ha c hM hs 
    refine E_load rfl rfl rfl ?_
    refine E_load rfl rfl rfl ?_
    refine E_getr (c := 12) (r := 44) rfl (hL.lt 43 rfl) (hL.k 43 rfl) rfl hM.c1 ?_
    refine E_const rfl ?_
    refine E_ialn (n := 943) (v := (s 29)) rfl (hL.lt 44 rfl) (hL.k 44 rfl) (hL.l 44 rfl) (by omega) (rdS hs (by omega)) ?_
    refine E_cmp3 rfl (by omega) (fun q1 => ?_) (fun q1 => ?_)
    · exfalso; omega
    · refine E_load rfl rfl rfl ?_
      refine E_load rfl rfl rfl ?_
      refine E_getr (c := 12) (r := 44) rfl (hL.lt 43 rfl) (hL.k 43 rfl) rfl hM.c1 ?_
      refine E_const rfl ?_
      refine E_load rfl rfl rfl ?_
      refine E_add rfl ?_
      refine E_ialn (n := 943) (v := (s ((19 + i)))) rfl (hL.lt 44 rfl) (hL.k 44 rfl) (hL.l 44 rfl) (by omega) (rdS hs (by omega)) ?_
      refine E_if1 rfl (by have := hE i (by omega); omega) (fun q2 => ?_) (fun q2 => ?_)
      · refine E_const rfl ?_
        refine E_bit (z := (mBit 6 a 0)) rfl rfl rfl ?_
        refine E_store rfl rfl rfl ?_
        refine E_iinc rfl rfl rfl ?_
        refine E_goto rfl ?_
        exact ih (i + 1) (by omega) _ (by rw [ha]; exact orL_f (decide_eq_false (by omega))) c hM hs
      · refine E_const rfl ?_
        refine E_load rfl rfl rfl ?_
        refine E_bit (z := (mBit 8 1 ((i : Nat) : Int))) rfl rfl rfl ?_
        refine E_goto rfl ?_
        refine E_bit (z := (mBit 6 a (mBit 8 1 ((i : Nat) : Int)))) rfl rfl rfl ?_
        refine E_store rfl rfl rfl ?_
        refine E_iinc rfl rfl rfl ?_
        refine E_goto rfl ?_
        exact ih (i + 1) (by omega) _ (by rw [ha]; exact orL_t (decide_eq_true (by omega))) c hM hs
set_option maxHeartbeats 4000000 in
set_option maxRecDepth 100000 in
theorem n_fullOnes {d : Nat} {h : Hp} {c : Nat → Nat → Int} {s : Nat → Int} (hL : Lay h) (hM : Mc c) (hs : c 44 = s) (hG : InvG s) : Ok (d) 174 [(1, ((43 : Nat) : Int))] (wC h c) (fun r h2 => r = some (0, fuS s) ∧ h2 = wC h c) := by
  show Ex _ none t_X11_fullOnes 0 0 _ [] (wC h c) _
  obtain ⟨hI, hH, ⟨n29, n30, n31, n32, n33, n34, n36⟩, nM⟩ := hG
  refine E_const rfl ?_
  refine E_store rfl rfl rfl ?_
  refine E_const rfl ?_
  refine E_store rfl rfl rfl ?_
  exact l_full hL n29 (fun b hb => (hI b hb).2.2.2.1) _ 0 (Nat.zero_add _) 0 rfl c hM hs
set_option maxHeartbeats 4000000 in
set_option maxRecDepth 100000 in
theorem l_amood {d : Nat} {h : Hp} {s : Nat → Int} (hL : Lay h) (n36 : 0 ≤ s 36 ∧ s 36 ≤ 4) : ∀ (n i : Nat), i + n = (s 36).toNat → ∀ (a : Int), a = sm (fun b => s (25 + b)) i → ∀ c, Mc c → c 44 = s → Ex (d) none t_X11_allMoods 0 4 [(1, ((43 : Nat) : Int)), (0, a), (0, (i : Int))] [] (wC h c) (fun r h2 => r = some (0, amS s) ∧ h2 = wC h c) := by
  intro n
  induction n with
  | zero =>
    intro i hi a ha c hM hs 
    refine E_load rfl rfl rfl ?_
    refine E_load rfl rfl rfl ?_
    refine E_getr (c := 12) (r := 44) rfl (hL.lt 43 rfl) (hL.k 43 rfl) rfl hM.c1 ?_
    refine E_const rfl ?_
    refine E_ialn (n := 943) (v := (s 36)) rfl (hL.lt 44 rfl) (hL.k 44 rfl) (hL.l 44 rfl) (by omega) (rdS hs (by omega)) ?_
    refine E_cmp3 rfl (by omega) (fun q1 => ?_) (fun q1 => ?_)
    · refine E_load rfl rfl rfl ?_
      refine E_iret rfl (fun h => absurd h (by decide)) ?_
      exact ⟨by rw [ha]; unfold amS; rw [show i = (s 36).toNat by omega], rfl⟩
    · exfalso; omega
  | succ n ih =>
    intro i hi a ha c hM hs 
    refine E_load rfl rfl rfl ?_
    refine E_load rfl rfl rfl ?_
    refine E_getr (c := 12) (r := 44) rfl (hL.lt 43 rfl) (hL.k 43 rfl) rfl hM.c1 ?_
    refine E_const rfl ?_
    refine E_ialn (n := 943) (v := (s 36)) rfl (hL.lt 44 rfl) (hL.k 44 rfl) (hL.l 44 rfl) (by omega) (rdS hs (by omega)) ?_
    refine E_cmp3 rfl (by omega) (fun q1 => ?_) (fun q1 => ?_)
    · exfalso; omega
    · refine E_load rfl rfl rfl ?_
      refine E_load rfl rfl rfl ?_
      refine E_getr (c := 12) (r := 44) rfl (hL.lt 43 rfl) (hL.k 43 rfl) rfl hM.c1 ?_
      refine E_const rfl ?_
      refine E_load rfl rfl rfl ?_
      refine E_add rfl ?_
      refine E_ialn (n := 943) (v := (s ((25 + i)))) rfl (hL.lt 44 rfl) (hL.k 44 rfl) (hL.l 44 rfl) (by omega) (rdS hs (by omega)) ?_
      refine E_add rfl ?_
      refine E_store rfl rfl rfl ?_
      refine E_iinc rfl rfl rfl ?_
      refine E_goto rfl ?_
      exact ih (i + 1) (by omega) _ (by rw [ha]; rfl) c hM hs
set_option maxHeartbeats 4000000 in
set_option maxRecDepth 100000 in
theorem n_allMoods {d : Nat} {h : Hp} {c : Nat → Nat → Int} {s : Nat → Int} (hL : Lay h) (hM : Mc c) (hs : c 44 = s) (hG : InvG s) : Ok (d) 176 [(1, ((43 : Nat) : Int))] (wC h c) (fun r h2 => r = some (0, amS s) ∧ h2 = wC h c) := by
  show Ex _ none t_X11_allMoods 0 0 _ [] (wC h c) _
  obtain ⟨hI, hH, ⟨n29, n30, n31, n32, n33, n34, n36⟩, nM⟩ := hG
  refine E_const rfl ?_
  refine E_store rfl rfl rfl ?_
  refine E_const rfl ?_
  refine E_store rfl rfl rfl ?_
  exact l_amood hL n36 _ 0 (Nat.zero_add _) 0 rfl c hM hs
set_option maxHeartbeats 4000000 in
set_option maxRecDepth 100000 in
theorem l_asay {d : Nat} {h : Hp} {s : Nat → Int} (hL : Lay h) (hI : InvB s) (hH : InvH s) (n29 : 0 ≤ s 29 ∧ s 29 ≤ 6) : ∀ (n i : Nat), i + n = (s 29).toNat → ∀ (a : Int), a = sm (fun b => if s (19 + b) = 0 then syS s b else 0) i → ∀ c, Mc c → c 44 = s → Ex (d + 4) none t_X11_allSay 0 4 [(1, ((43 : Nat) : Int)), (0, a), (0, (i : Int))] [] (wC h c) (fun r h2 => r = some (0, alS s) ∧ ∃ c2, h2 = wC h c2 ∧ Eqk P47 c c2) := by
  intro n
  induction n with
  | zero =>
    intro i hi a ha c hM hs 
    refine E_load rfl rfl rfl ?_
    refine E_load rfl rfl rfl ?_
    refine E_getr (c := 12) (r := 44) rfl (hL.lt 43 rfl) (hL.k 43 rfl) rfl hM.c1 ?_
    refine E_const rfl ?_
    refine E_ialn (n := 943) (v := (s 29)) rfl (hL.lt 44 rfl) (hL.k 44 rfl) (hL.l 44 rfl) (by omega) (rdS hs (by omega)) ?_
    refine E_cmp3 rfl (by omega) (fun q1 => ?_) (fun q1 => ?_)
    · refine E_load rfl rfl rfl ?_
      refine E_iret rfl (fun h => absurd h (by decide)) ?_
      exact ⟨by rw [ha]; unfold alS; rw [show i = (s 29).toNat by omega], c, rfl, Eqk.nil⟩
    · exfalso; omega
  | succ n ih =>
    intro i hi a ha c hM hs 
    refine E_load rfl rfl rfl ?_
    refine E_load rfl rfl rfl ?_
    refine E_getr (c := 12) (r := 44) rfl (hL.lt 43 rfl) (hL.k 43 rfl) rfl hM.c1 ?_
    refine E_const rfl ?_
    refine E_ialn (n := 943) (v := (s 29)) rfl (hL.lt 44 rfl) (hL.k 44 rfl) (hL.l 44 rfl) (by omega) (rdS hs (by omega)) ?_
    refine E_cmp3 rfl (by omega) (fun q1 => ?_) (fun q1 => ?_)
    · exfalso; omega
    · refine E_load rfl rfl rfl ?_
      refine E_load rfl rfl rfl ?_
      refine E_getr (c := 12) (r := 44) rfl (hL.lt 43 rfl) (hL.k 43 rfl) rfl hM.c1 ?_
      refine E_const rfl ?_
      refine E_load rfl rfl rfl ?_
      refine E_add rfl ?_
      refine E_ialn (n := 943) (v := (s ((19 + i)))) rfl (hL.lt 44 rfl) (hL.k 44 rfl) (hL.l 44 rfl) (by omega) (rdS hs (by omega)) ?_
      refine E_if1 rfl (by have := (hI i (by omega)).2.2.2.1; omega) (fun q2 => ?_) (fun q2 => ?_)
      · refine E_const rfl ?_
        refine E_add rfl ?_
        refine E_store rfl rfl rfl ?_
        refine E_iinc rfl rfl rfl ?_
        refine E_goto rfl ?_
        refine (ih (i + 1) (by omega) _ (by rw [ha]; show _ = sm _ i + (if _ = _ then _ else _); rw [if_neg (by omega)]) c hM hs).mono ?_
        rintro r hE ⟨e1, c9, e2, e3⟩
        exact ⟨e1, c9, e2, Eqk.trans Eqk.nil e3⟩
      · refine E_load rfl rfl rfl ?_
        refine E_load rfl rfl rfl ?_
        refine E_V1 (q := 43) (c := 12) (y := 167) rfl rfl (hL.lt 43 rfl) (hL.k 43 rfl) rfl rfl rfl rfl (n_saysOf hL hM hs (by omega) hI hH) (fun r h2 hq => ?_)
        obtain ⟨rfl, c_1, hh, hE0_1⟩ := hq
        subst hh
        have hE_1 : Eqk P47 c c_1 := hE0_1
        have hM_1 : Mc c_1 := hM.of (hE0_1.row 43 (fun _ => rfl))
        have hs_1 : c_1 44 = s := (hE0_1.row 44 (fun _ => rfl)).trans hs
        refine E_goto rfl ?_
        refine E_add rfl ?_
        refine E_store rfl rfl rfl ?_
        refine E_iinc rfl rfl rfl ?_
        refine E_goto rfl ?_
        refine (ih (i + 1) (by omega) _ (by rw [ha]; show _ = sm _ i + (if _ = _ then _ else _); rw [if_pos (by omega)]) c_1 hM_1 hs_1).mono ?_
        rintro r hE ⟨e1, c9, e2, e3⟩
        exact ⟨e1, c9, e2, Eqk.trans hE_1 e3⟩
set_option maxHeartbeats 4000000 in
set_option maxRecDepth 100000 in
theorem n_allSay {d : Nat} {h : Hp} {c : Nat → Nat → Int} {s : Nat → Int} (hL : Lay h) (hM : Mc c) (hs : c 44 = s) (hG : InvG s) : Ok (d + 4) 175 [(1, ((43 : Nat) : Int))] (wC h c) (fun r h2 => r = some (0, alS s) ∧ ∃ c2, h2 = wC h c2 ∧ Eqk P47 c c2) := by
  show Ex _ none t_X11_allSay 0 0 _ [] (wC h c) _
  obtain ⟨hI, hH, ⟨n29, n30, n31, n32, n33, n34, n36⟩, nM⟩ := hG
  refine E_const rfl ?_
  refine E_store rfl rfl rfl ?_
  refine E_const rfl ?_
  refine E_store rfl rfl rfl ?_
  exact l_asay hL hI hH n29 _ 0 (Nat.zero_add _) 0 rfl c hM hs
set_option maxHeartbeats 4000000 in
set_option maxRecDepth 100000 in
theorem n_told {d : Nat} {h : Hp} {c : Nat → Nat → Int} {s : Nat → Int} (hL : Lay h) (hM : Mc c) (hs : c 44 = s) (hA : Inv s) {w : Int} (hw : inR w) : Ok (d + 6) 177 [(1, ((43 : Nat) : Int)), (0, w)] (wC h c) (fun r h2 => r = some (0, a_told s w) ∧ ∃ c2, h2 = wC h c2 ∧ Eqk PQ c c2) := by
  show Ex _ none t_X11_told 0 0 _ [] (wC h c) _
  have hG := hA.G
  obtain ⟨hI, hH, ⟨⟨n29, n30, n31, n32, n33, n34, n36⟩, nM⟩, hX⟩ := hA
  refine E_load rfl rfl rfl ?_
  rcases (show w = 0 ∨ w = 1 ∨ w = 2 ∨ w = 3 ∨ w = 4 ∨ w = 5 ∨ (w ≠ 0 ∧ w ≠ 1 ∧ w ≠ 2 ∧ w ≠ 3 ∧ w ≠ 4 ∧ w ≠ 5) by omega) with rfl | rfl | rfl | rfl | rfl | rfl | hno
  · refine E_sw (t := 40) rfl (by omega) (rfl) ?_
    refine E_load rfl rfl rfl ?_
    refine E_getr (c := 12) (r := 44) rfl (hL.lt 43 rfl) (hL.k 43 rfl) rfl hM.c1 ?_
    refine E_const rfl ?_
    refine E_ialn (n := 943) (v := (s 0)) rfl (hL.lt 44 rfl) (hL.k 44 rfl) (hL.l 44 rfl) (by omega) (rdS hs (by omega)) ?_
    refine E_iret rfl (fun h => absurd h (by decide)) ?_
    refine qryl ?_ Eqk.nil
    unfold a_told
    first | rfl | (rw [if_neg (by omega), if_neg (by omega), if_neg (by omega), if_neg (by omega), if_neg (by omega), if_neg (by omega)])
  · refine E_sw (t := 47) rfl (by omega) (rfl) ?_
    refine E_load rfl rfl rfl ?_
    refine E_const rfl ?_
    refine E_const rfl ?_
    refine E_V2 (q := 43) (c := 12) (y := 164) rfl rfl (hL.lt 43 rfl) (hL.k 43 rfl) rfl rfl rfl rfl (n_tellsOf hL hM hs (by omega) hH) (fun r h2 hq => ?_)
    obtain ⟨rfl, hh⟩ := hq
    subst hh
    refine E_iret rfl (fun h => absurd h (by decide)) ?_
    refine qryl ?_ Eqk.nil
    unfold a_told
    first | rfl | (rw [if_neg (by omega), if_neg (by omega), if_neg (by omega), if_neg (by omega), if_neg (by omega), if_neg (by omega)])
  · refine E_sw (t := 56) rfl (by omega) (rfl) ?_
    refine E_load rfl rfl rfl ?_
    refine E_const rfl ?_
    refine E_const rfl ?_
    refine E_V2 (q := 43) (c := 12) (y := 164) rfl rfl (hL.lt 43 rfl) (hL.k 43 rfl) rfl rfl rfl rfl (n_tellsOf hL hM hs (by omega) hH) (fun r h2 hq => ?_)
    obtain ⟨rfl, hh⟩ := hq
    subst hh
    refine E_iret rfl (fun h => absurd h (by decide)) ?_
    refine qryl ?_ Eqk.nil
    unfold a_told
    first | rfl | (rw [if_neg (by omega), if_neg (by omega), if_neg (by omega), if_neg (by omega), if_neg (by omega), if_neg (by omega)])
  · refine E_sw (t := 65) rfl (by omega) (rfl) ?_
    refine E_load rfl rfl rfl ?_
    refine E_V0 (q := 43) (c := 12) (y := 174) rfl rfl (hL.lt 43 rfl) (hL.k 43 rfl) rfl rfl rfl rfl (n_fullOnes hL hM hs hG) (fun r h2 hq => ?_)
    obtain ⟨rfl, hh⟩ := hq
    subst hh
    refine E_iret rfl (fun h => absurd h (by decide)) ?_
    refine qryl ?_ Eqk.nil
    unfold a_told
    first | rfl | (rw [if_neg (by omega), if_neg (by omega), if_neg (by omega), if_neg (by omega), if_neg (by omega), if_neg (by omega)])
  · refine E_sw (t := 70) rfl (by omega) (rfl) ?_
    refine E_load rfl rfl rfl ?_
    refine E_V0 (q := 43) (c := 12) (y := 175) rfl rfl (hL.lt 43 rfl) (hL.k 43 rfl) rfl rfl rfl rfl (n_allSay hL hM hs hG) (fun r h2 hq => ?_)
    obtain ⟨rfl, c_1, hh, hE0_1⟩ := hq
    subst hh
    have hE_1 : Eqk PQ c c_1 := hE0_1.mono P47_PQ
    have hM_1 : Mc c_1 := hM.of (hE0_1.row 43 (fun _ => rfl))
    have hs_1 : c_1 44 = s := (hE0_1.row 44 (fun _ => rfl)).trans hs
    refine E_iret rfl (fun h => absurd h (by decide)) ?_
    refine qryl ?_ hE_1
    unfold a_told
    first | rfl | (rw [if_neg (by omega), if_neg (by omega), if_neg (by omega), if_neg (by omega), if_neg (by omega), if_neg (by omega)])
  · refine E_sw (t := 75) rfl (by omega) (rfl) ?_
    refine E_load rfl rfl rfl ?_
    refine E_V0 (q := 43) (c := 12) (y := 176) rfl rfl (hL.lt 43 rfl) (hL.k 43 rfl) rfl rfl rfl rfl (n_allMoods hL hM hs hG) (fun r h2 hq => ?_)
    obtain ⟨rfl, hh⟩ := hq
    subst hh
    refine E_iret rfl (fun h => absurd h (by decide)) ?_
    refine qryl ?_ Eqk.nil
    unfold a_told
    first | rfl | (rw [if_neg (by omega), if_neg (by omega), if_neg (by omega), if_neg (by omega), if_neg (by omega), if_neg (by omega)])
  · refine E_sw (t := 80) rfl (by omega) (by simp only [List.lookup]; (repeat' split) <;> first | rfl | (exfalso; simp at *; omega)) ?_
    refine E_const rfl ?_
    refine E_iret rfl (fun h => absurd h (by decide)) ?_
    refine qryl ?_ Eqk.nil
    unfold a_told
    first | rfl | (rw [if_neg (by omega), if_neg (by omega), if_neg (by omega), if_neg (by omega), if_neg (by omega), if_neg (by omega)])
set_option maxHeartbeats 4000000 in
set_option maxRecDepth 100000 in
theorem n_brings {d : Nat} {h : Hp} {c : Nat → Nat → Int} {s : Nat → Int} (hL : Lay h) (hM : Mc c) (hs : c 44 = s) (hG : InvG s) {b : Nat} (hb : b < 4) {x : Int} (hx : -1000 ≤ x ∧ x ≤ 1000) : Ok (d + 1) 178 [(1, ((43 : Nat) : Int)), (0, (b : Int)), (0, x)] (wC h c) (fun r h2 => r = none ∧ ∃ c2, h2 = wC h c2 ∧ c2 44 = brS s b x ∧ Eqk P44 c c2) := by
  show Ex _ none t_X11_brings 0 0 _ [] (wC h c) _
  obtain ⟨hI, hH, ⟨n29, n30, n31, n32, n33, n34, n36⟩, nM⟩ := hG
  have hm := nM b hb
  refine E_load rfl rfl rfl ?_
  refine E_getr (c := 12) (r := 44) rfl (hL.lt 43 rfl) (hL.k 43 rfl) rfl hM.c1 ?_
  refine E_const rfl ?_
  refine E_load rfl rfl rfl ?_
  refine E_add rfl ?_
  refine E_load rfl rfl rfl ?_
  refine E_getr (c := 12) (r := 44) rfl (hL.lt 43 rfl) (hL.k 43 rfl) rfl hM.c1 ?_
  refine E_const rfl ?_
  refine E_load rfl rfl rfl ?_
  refine E_add rfl ?_
  refine E_ialn (n := 943) (v := (s ((25 + b)))) rfl (hL.lt 44 rfl) (hL.k 44 rfl) (hL.l 44 rfl) (by omega) (rdS hs (by omega)) ?_
  refine E_load rfl rfl rfl ?_
  refine E_add rfl ?_
  refine E_const rfl ?_
  refine E_const rfl ?_
  refine E_S3 (y := 140) rfl rfl rfl rfl rfl (m_within (by omega) (by omega) (by omega)) (fun r h2 hq => ?_)
  obtain ⟨rfl, hh⟩ := hq
  subst hh
  refine E_iasg (n := 943) (j := (25 + b)) rfl (hL.lt 44 rfl) (hL.k 44 rfl) (hL.l 44 rfl) (by omega) (by omega) (fun c_1 hc_1 => ?_)
  have hE_1 : Eqk P44 c c_1 := by rw [hc_1]; exact Eqk.up rfl
  have hM_1 : Mc c_1 := by rw [hc_1]; exact hM.upo rfl
  have hs_1 : c_1 44 = upd1 s (25 + b) (clI ((s ((25 + b))) + x) (-99) 99) := by rw [hc_1]; exact up2_rowS hs
  refine E_vret rfl ?_
  exact ⟨rfl, c_1, rfl, hs_1, hE_1⟩
set_option maxHeartbeats 4000000 in
set_option maxRecDepth 100000 in
theorem n_pours {d : Nat} {h : Hp} {c : Nat → Nat → Int} {s : Nat → Int} (hL : Lay h) (hM : Mc c) (hs : c 44 = s) (hG : InvG s) {b k : Nat} (hb : b < 6) (hk : k < 4) : Ok (d + 4) 179 [(1, ((43 : Nat) : Int)), (0, (b : Int)), (0, (k : Int))] (wC h c) (fun r h2 => r = none ∧ ∃ c2, h2 = wC h c2 ∧ c2 44 = poS s b k ∧ Eqk P44 c c2) := by
  show Ex _ none t_X11_pours 0 0 _ [] (wC h c) _
  have hy := hG.bs hb
  have hG0 := hG
  obtain ⟨hI, hH, ⟨n29, n30, n31, n32, n33, n34, n36⟩, nM⟩ := hG
  have hG := hG0
  refine E_load rfl rfl rfl ?_
  refine E_load rfl rfl rfl ?_
  refine E_load rfl rfl rfl ?_
  refine E_load rfl rfl rfl ?_
  refine E_V1 (q := 43) (c := 12) (y := 167) rfl rfl (hL.lt 43 rfl) (hL.k 43 rfl) rfl rfl rfl rfl (n_saysOf hL hM hs (by omega) hI hH) (fun r h2 hq => ?_)
  obtain ⟨rfl, c_1, hh, hE0_1⟩ := hq
  subst hh
  have hE_1 : Eqk P44 c c_1 := hE0_1.mono P47_P44
  have hM_1 : Mc c_1 := hM.of (hE0_1.row 43 (fun _ => rfl))
  have hs_1 : c_1 44 = s := (hE0_1.row 44 (fun _ => rfl)).trans hs
  refine E_V2 (q := 43) (c := 12) (y := 178) rfl rfl (hL.lt 43 rfl) (hL.k 43 rfl) rfl rfl rfl rfl (n_brings hL hM_1 hs_1 hG (by omega) (by omega)) (fun r h2 hq => ?_)
  obtain ⟨rfl, c_2, hh, hs_2, hE0_2⟩ := hq
  subst hh
  have hE_2 : Eqk P44 c_1 c_2 := hE0_2
  have hM_2 : Mc c_2 := hM_1.of (hE0_2.row 43 (fun _ => rfl))
  refine E_load rfl rfl rfl ?_
  refine E_getr (c := 12) (r := 44) rfl (hL.lt 43 rfl) (hL.k 43 rfl) rfl hM_2.c1 ?_
  refine E_const rfl ?_
  refine E_load rfl rfl rfl ?_
  refine E_add rfl ?_
  refine E_const rfl ?_
  refine E_iasg (n := 943) (j := (19 + b)) rfl (hL.lt 44 rfl) (hL.k 44 rfl) (hL.l 44 rfl) (by omega) (by omega) (fun c_3 hc_3 => ?_)
  have hE_3 : Eqk P44 c_2 c_3 := by rw [hc_3]; exact Eqk.up rfl
  have hM_3 : Mc c_3 := by rw [hc_3]; exact hM_2.upo rfl
  have hs_3 : c_3 44 = upd1 (brS s k (syS s b)) (19 + b) 1 := by rw [hc_3]; exact up2_rowS hs_2
  refine E_vret rfl ?_
  exact ⟨rfl, c_3, rfl, hs_3, (hE_1.trans (hE_2.trans hE_3))⟩
