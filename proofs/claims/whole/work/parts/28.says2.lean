theorem say_3 (v w y q t s : Int) : sayK 3 v w y q t s = nrI w s * (if q.tmod 2 = 1 then -1 else 1) := rfl
theorem say_4 (v w y q t s : Int) : sayK 4 v w y q t s = nrI w (s.tdiv 2) - (if 40 < y then v else 0) := rfl
theorem say_5 (v w y q t s : Int) : sayK 5 v w y q t s = nrI w (2 * s) - (if 0 < w ∧ 30 < y then v else 0) := rfl
theorem say_6 (v w y q t s : Int) : sayK 6 v w y q t s = nrI w s * (if q.tmod 2 = 1 then -1 else 1) + t := rfl
set_option maxHeartbeats 6000000 in
set_option maxRecDepth 100000 in
theorem m_says_tail {d : Nat} {h : Hp} (hL : Lay h) (hM : MC h) {b : Nat} (hb : b < 6) (hI : InvB (mC h 44)) (hH : InvH (mC h 44)) {soft sg : Int} (hs : 0 ≤ soft ∧ soft ≤ 2786000) (hg : sg = if (mC h 44 (13 + b)).tmod 2 = 1 then -1 else 1) : Ex (d + 3) none t_X11_saysOf 0 51 [(1, ((43 : Nat) : Int)), (0, (b : Int)), (0, soft), (0, mC h 44 (1 + b)), (0, mC h 44 (43 + b)), (9, 0)] [(0, sg), (0, nrI (mC h 44 (1 + b)) soft)] h (fun r h2 => r = some (0, sayK (mC h 44 (37 + b)) (mC h 44 (43 + b)) (mC h 44 (1 + b)) (mC h 44 (7 + b)) (mC h 44 (13 + b)) (mC h 44 (49 + 4 * b + (mC h 44 (13 + b)).toNat)) soft) ∧ h2 = h) := by
  obtain ⟨i1, i2, i3, i4, i5, i6, i7⟩ := hI b hb
  have e1 : soft.tdiv 2 = soft / 2 := Int.tdiv_eq_ediv_of_nonneg hs.1
  refine E_mul rfl ?_
  refine E_store rfl rfl rfl ?_
  refine E_load rfl rfl rfl ?_
  refine E_getr (c := 12) (r := 44) rfl (hL.lt 43 rfl) (hL.k 43 rfl) rfl (hM.c1) ?_
  refine E_const rfl ?_
  refine E_load rfl rfl rfl ?_
  refine E_add rfl ?_
  refine E_ialn (n := 943) (v := mC h 44 (37 + b)) rfl (hL.lt 44 rfl) (hL.k 44 rfl) (hL.l 44 rfl) (by omega) (show mC h 44 (((37 : Int) + (b : Int)).toNat) = mC h 44 (37 + b) from congrArg _ (by omega)) ?_
  have hk : mC h 44 (37 + b) = 0 ∨ mC h 44 (37 + b) = 1 ∨ mC h 44 (37 + b) = 2 ∨ mC h 44 (37 + b) = 3 ∨ mC h 44 (37 + b) = 4 ∨ mC h 44 (37 + b) = 5 ∨ mC h 44 (37 + b) = 6 := by omega
  rcases hk with e | e | e | e | e | e | e
  · refine E_sw (t := 206) rfl (by omega) (by rw [e]; rfl) ?_
    refine E_load rfl rfl rfl ?_
    refine E_load rfl rfl rfl ?_
    refine E_cS (as := [(0, mC h 44 (1 + b)), (0, soft)]) (rest := []) rfl rfl rfl rfl rfl rfl (m_nearer (by omega) (by omega) (by omega)) (fun r h2 hq => ?_)
    obtain ⟨rfl, hh⟩ := hq
    subst h2
    refine E_iret rfl (fun h => absurd h (by decide)) ?_
    exact ⟨by rw [e]; rfl, rfl⟩
  · refine E_sw (t := 100) rfl (by omega) (by rw [e]; rfl) ?_
    refine E_load rfl rfl rfl ?_
    refine E_load rfl rfl rfl ?_
    refine E_const rfl ?_
    refine E_div rfl (by omega) (by omega) (by omega) ?_
    refine E_cS (as := [(0, mC h 44 (1 + b)), (0, soft.tdiv 2)]) (rest := []) rfl rfl rfl rfl rfl rfl (m_nearer (by omega) (by omega) (by omega)) (fun r h2 hq => ?_)
    obtain ⟨rfl, hh⟩ := hq
    subst h2
    refine E_iret rfl (fun h => absurd h (by decide)) ?_
    exact ⟨by rw [e]; rfl, rfl⟩
  · refine E_sw (t := 108) rfl (by omega) (by rw [e]; rfl) ?_
    refine E_load rfl rfl rfl ?_
    refine E_const rfl ?_
    refine E_load rfl rfl rfl ?_
    refine E_mul rfl ?_
    refine E_cS (as := [(0, mC h 44 (1 + b)), (0, 2 * soft)]) (rest := []) rfl rfl rfl rfl rfl rfl (m_nearer (by omega) (by omega) (by omega)) (fun r h2 hq => ?_)
    obtain ⟨rfl, hh⟩ := hq
    subst h2
    refine E_iret rfl (fun h => absurd h (by decide)) ?_
    exact ⟨by rw [e]; rfl, rfl⟩
  · refine E_sw (t := 116) rfl (by omega) (by rw [e]; rfl) ?_
    refine E_load rfl rfl rfl ?_
    refine E_iret rfl (fun h => absurd h (by decide)) ?_
    exact ⟨by rw [e, say_3, hg], rfl⟩
  · refine E_sw (t := 119) rfl (by omega) (by rw [e]; rfl) ?_
    refine E_load rfl rfl rfl ?_
    refine E_load rfl rfl rfl ?_
    refine E_const rfl ?_
    refine E_div rfl (by omega) (by omega) (by omega) ?_
    refine E_cS (as := [(0, mC h 44 (1 + b)), (0, soft.tdiv 2)]) (rest := []) rfl rfl rfl rfl rfl rfl (m_nearer (by omega) (by omega) (by omega)) (fun r h2 hq => ?_)
    obtain ⟨rfl, hh⟩ := hq
    subst h2
    refine E_load rfl rfl rfl ?_
    refine E_getr (c := 12) (r := 44) rfl (hL.lt 43 rfl) (hL.k 43 rfl) rfl (hM.c1) ?_
    refine E_const rfl ?_
    refine E_load rfl rfl rfl ?_
    refine E_add rfl ?_
    refine E_ialn (n := 943) (v := mC h 44 (7 + b)) rfl (hL.lt 44 rfl) (hL.k 44 rfl) (hL.l 44 rfl) (by omega) (show mC h 44 (((7 : Int) + (b : Int)).toNat) = mC h 44 (7 + b) from congrArg _ (by omega)) ?_
    refine E_const rfl ?_
    refine E_cmp5 rfl (by omega) (fun c1 => ?_) (fun c1 => ?_)
    · refine E_const rfl ?_
      refine E_sub rfl ?_
      refine E_iret rfl (fun h => absurd h (by decide)) ?_
      exact ⟨by rw [e, say_4, if_neg (by omega)], rfl⟩
    · refine E_load rfl rfl rfl ?_
      refine E_goto rfl ?_
      refine E_sub rfl ?_
      refine E_iret rfl (fun h => absurd h (by decide)) ?_
      exact ⟨by rw [e, say_4, if_pos (by omega)], rfl⟩
  · refine E_sw (t := 148) rfl (by omega) (by rw [e]; rfl) ?_
    refine E_load rfl rfl rfl ?_
    refine E_const rfl ?_
    refine E_load rfl rfl rfl ?_
    refine E_mul rfl ?_
    refine E_cS (as := [(0, mC h 44 (1 + b)), (0, 2 * soft)]) (rest := []) rfl rfl rfl rfl rfl rfl (m_nearer (by omega) (by omega) (by omega)) (fun r h2 hq => ?_)
    obtain ⟨rfl, hh⟩ := hq
    subst h2
    refine E_load rfl rfl rfl ?_
    refine E_if5 rfl (by omega) (fun c1 => ?_) (fun c1 => ?_)
    · refine E_const rfl ?_
      refine E_sub rfl ?_
      refine E_iret rfl (fun h => absurd h (by decide)) ?_
      exact ⟨by rw [e, say_5, if_neg (by omega)], rfl⟩
    · refine E_load rfl rfl rfl ?_
      refine E_getr (c := 12) (r := 44) rfl (hL.lt 43 rfl) (hL.k 43 rfl) rfl (hM.c1) ?_
      refine E_const rfl ?_
      refine E_load rfl rfl rfl ?_
      refine E_add rfl ?_
      refine E_ialn (n := 943) (v := mC h 44 (7 + b)) rfl (hL.lt 44 rfl) (hL.k 44 rfl) (hL.l 44 rfl) (by omega) (show mC h 44 (((7 : Int) + (b : Int)).toNat) = mC h 44 (7 + b) from congrArg _ (by omega)) ?_
      refine E_const rfl ?_
      refine E_cmp5 rfl (by omega) (fun c2 => ?_) (fun c2 => ?_)
      · refine E_const rfl ?_
        refine E_sub rfl ?_
        refine E_iret rfl (fun h => absurd h (by decide)) ?_
        exact ⟨by rw [e, say_5, if_neg (by omega)], rfl⟩
      · refine E_load rfl rfl rfl ?_
        refine E_goto rfl ?_
        refine E_sub rfl ?_
        refine E_iret rfl (fun h => absurd h (by decide)) ?_
        exact ⟨by rw [e, say_5, if_pos (by omega)], rfl⟩
  · refine E_sw (t := 181) rfl (by omega) (by rw [e]; rfl) ?_
    refine E_load rfl rfl rfl ?_
    refine E_load rfl rfl rfl ?_
    refine E_getr (c := 12) (r := 44) rfl (hL.lt 43 rfl) (hL.k 43 rfl) rfl (hM.c1) ?_
    refine E_const rfl ?_
    refine E_const rfl ?_
    refine E_load rfl rfl rfl ?_
    refine E_mul rfl ?_
    refine E_add rfl ?_
    refine E_load rfl rfl rfl ?_
    refine E_getr (c := 12) (r := 44) rfl (hL.lt 43 rfl) (hL.k 43 rfl) rfl (hM.c1) ?_
    refine E_const rfl ?_
    refine E_load rfl rfl rfl ?_
    refine E_add rfl ?_
    refine E_ialn (n := 943) (v := mC h 44 (13 + b)) rfl (hL.lt 44 rfl) (hL.k 44 rfl) (hL.l 44 rfl) (by omega) (show mC h 44 (((13 : Int) + (b : Int)).toNat) = mC h 44 (13 + b) from congrArg _ (by omega)) ?_
    refine E_add rfl ?_
    refine E_ialn (n := 943) (v := mC h 44 (49 + 4 * b + (mC h 44 (13 + b)).toNat)) rfl (hL.lt 44 rfl) (hL.k 44 rfl) (hL.l 44 rfl) (by omega) (show mC h 44 ((49 + 4 * (b : Int) + mC h 44 (13 + b)).toNat) = _ from congrArg _ (by omega)) ?_
    refine E_add rfl ?_
    refine E_iret rfl (fun h => absurd h (by decide)) ?_
    exact ⟨by rw [e, say_6, hg], rfl⟩
set_option maxHeartbeats 6000000 in
set_option maxRecDepth 100000 in
theorem m_saysOf {d : Nat} {h : Hp} (hL : Lay h) (hM : MC h) {b : Nat} (hb : b < 6) (hI : InvB (mC h 44)) (hH : InvH (mC h 44)) : Ok (d + 3) 167 [(1, ((43 : Nat) : Int)), (0, (b : Int))] h (fun r h2 => r = some (0, syS (mC h 44) b) ∧ ∃ f g, h2 = scr h f g) := by
  show Ex _ none t_X11_saysOf 0 0 _ [] _ _
  obtain ⟨i1, i2, i3, i4, i5, i6, i7⟩ := hI b hb
  have hsf := sfS_in hb hI hH
  have e3 : (mC h 44 (13 + b)).tmod 2 = mC h 44 (13 + b) % 2 := Int.tmod_eq_emod_of_nonneg i3.1
  refine E_load rfl rfl rfl ?_
  refine E_load rfl rfl rfl ?_
  refine E_cV (q := 43) (c := 12) (y := 166) (as := [(0, (b : Int))]) (rest := []) rfl rfl rfl (hL.lt 43 rfl) (hL.k 43 rfl) rfl rfl rfl rfl (m_softOf hL hM hb hI hH) (fun r h2 hq => ?_)
  obtain ⟨rfl, f, g, rfl⟩ := hq
  refine E_store rfl rfl rfl ?_
  refine E_load rfl rfl rfl ?_
  refine E_getr (c := 12) (r := 44) rfl (hL.lt 43 rfl) (hL.k 43 rfl) rfl (hM.c1) ?_
  refine E_const rfl ?_
  refine E_load rfl rfl rfl ?_
  refine E_add rfl ?_
  refine E_ialn (n := 943) (v := mC h 44 (1 + b)) rfl (hL.lt 44 rfl) (hL.k 44 rfl) (hL.l 44 rfl) (by omega) (show mC h 44 (((1 : Int) + (b : Int)).toNat) = mC h 44 (1 + b) from congrArg _ (by omega)) ?_
  refine E_store rfl rfl rfl ?_
  refine E_load rfl rfl rfl ?_
  refine E_getr (c := 12) (r := 44) rfl (hL.lt 43 rfl) (hL.k 43 rfl) rfl (hM.c1) ?_
  refine E_const rfl ?_
  refine E_load rfl rfl rfl ?_
  refine E_add rfl ?_
  refine E_ialn (n := 943) (v := mC h 44 (43 + b)) rfl (hL.lt 44 rfl) (hL.k 44 rfl) (hL.l 44 rfl) (by omega) (show mC h 44 (((43 : Int) + (b : Int)).toNat) = mC h 44 (43 + b) from congrArg _ (by omega)) ?_
  refine E_store rfl rfl rfl ?_
  refine E_load rfl rfl rfl ?_
  refine E_load rfl rfl rfl ?_
  refine E_cS (as := [(0, mC h 44 (1 + b)), (0, sfS (mC h 44) b)]) (rest := []) rfl rfl rfl rfl rfl rfl (m_nearer (by omega) (by omega) (by omega)) (fun r h2 hq => ?_)
  obtain ⟨rfl, rfl⟩ := hq
  refine E_load rfl rfl rfl ?_
  refine E_getr (c := 12) (r := 44) rfl (hL.lt 43 rfl) (hL.k 43 rfl) rfl (hM.c1) ?_
  refine E_const rfl ?_
  refine E_load rfl rfl rfl ?_
  refine E_add rfl ?_
  refine E_ialn (n := 943) (v := mC h 44 (13 + b)) rfl (hL.lt 44 rfl) (hL.k 44 rfl) (hL.l 44 rfl) (by omega) (show mC h 44 (((13 : Int) + (b : Int)).toNat) = mC h 44 (13 + b) from congrArg _ (by omega)) ?_
  refine E_const rfl ?_
  refine E_rem rfl (by omega) (by omega) (by omega) ?_
  refine E_const rfl ?_
  refine E_cmp1 rfl (by omega) (fun c1 => ?_) (fun c1 => ?_)
  · refine E_const rfl ?_
    exact (m_says_tail (d := d) (h := scr h f g) hL hM hb hI hH hsf (if_neg c1).symm).mono (fun r hE hq => ⟨hq.1, f, g, hq.2⟩)
  · refine E_const rfl ?_
    refine E_goto rfl ?_
    exact (m_says_tail (d := d) (h := scr h f g) hL hM hb hI hH hsf (if_pos c1).symm).mono (fun r hE hq => ⟨hq.1, f, g, hq.2⟩)
def sm (g : Nat → Int) : Nat → Int
  | 0 => 0
  | n + 1 => sm g n + g n
def InvN (s : Nat → Int) : Prop := (0 ≤ s 29 ∧ s 29 ≤ 6) ∧ (0 ≤ s 30 ∧ s 30 ≤ 5) ∧ (0 ≤ s 31 ∧ s 31 ≤ 5) ∧ (0 ≤ s 32 ∧ s 32 ≤ 8) ∧ (0 ≤ s 33 ∧ s 33 ≤ 8) ∧ (0 ≤ s 34 ∧ s 34 ≤ 100) ∧ (0 ≤ s 36 ∧ s 36 ≤ 4) ∧ ∀ k : Nat, k < 4 → -99 ≤ s (25 + k) ∧ s (25 + k) ≤ 99
def alS (s : Nat → Int) : Int := sm (fun b => if s (19 + b) = 0 then syS s b else 0) (s 29).toNat
def amS (s : Nat → Int) : Int := sm (fun b => s (25 + b)) (s 36).toNat
set_option maxHeartbeats 6000000 in
set_option maxRecDepth 100000 in
theorem m_allMoods_loop {d : Nat} {h : Hp} (hL : Lay h) (hM : MC h) (hN : InvN (mC h 44)) : ∀ (n i : Nat), i + n = (mC h 44 36).toNat → ∀ (x a : Int), x = i → a = sm (fun b => mC h 44 (25 + b)) i → Ex d none t_X11_allMoods 0 4 [(1, ((43 : Nat) : Int)), (0, a), (0, x)] [] h (fun r h2 => r = some (0, amS (mC h 44)) ∧ h2 = h) := by
  obtain ⟨n1, n2, n3, n4, n5, n6, n7, n8⟩ := hN
  intro n
  induction n with
  | zero =>
    intro i hi x a hx ha
    refine E_load rfl rfl rfl ?_
    refine E_load rfl rfl rfl ?_
    refine E_getr (c := 12) (r := 44) rfl (hL.lt 43 rfl) (hL.k 43 rfl) rfl (hM.c1) ?_
    refine E_const rfl ?_
    refine E_ialj (n := 943) (j := 36) rfl (hL.lt 44 rfl) (hL.k 44 rfl) (hL.l 44 rfl) (by omega) (rfl) ?_
    refine E_cmp3 rfl (by omega) (fun c1 => ?_) (fun c1 => ?_)
    · refine E_load rfl rfl rfl ?_
      refine E_iret rfl (fun h => absurd h (by decide)) ?_
      exact ⟨by rw [ha]; unfold amS; rw [show i = (mC h 44 36).toNat by omega], rfl⟩
    · exfalso; omega
  | succ n ih =>
    intro i hi x a hx ha
    refine E_load rfl rfl rfl ?_
    refine E_load rfl rfl rfl ?_
    refine E_getr (c := 12) (r := 44) rfl (hL.lt 43 rfl) (hL.k 43 rfl) rfl (hM.c1) ?_
    refine E_const rfl ?_
    refine E_ialj (n := 943) (j := 36) rfl (hL.lt 44 rfl) (hL.k 44 rfl) (hL.l 44 rfl) (by omega) (rfl) ?_
    refine E_cmp3 rfl (by omega) (fun c1 => ?_) (fun c1 => ?_)
    · exfalso; omega
    · refine E_load rfl rfl rfl ?_
      refine E_load rfl rfl rfl ?_
      refine E_getr (c := 12) (r := 44) rfl (hL.lt 43 rfl) (hL.k 43 rfl) rfl (hM.c1) ?_
      subst hx
      refine E_const rfl ?_
      refine E_load rfl rfl rfl ?_
      refine E_add rfl ?_
      refine E_ialn (n := 943) (v := mC h 44 (25 + i)) rfl (hL.lt 44 rfl) (hL.k 44 rfl) (hL.l 44 rfl) (by omega) (show mC h 44 (((25 : Int) + (i : Int)).toNat) = mC h 44 (25 + i) from congrArg _ (by omega)) ?_
      refine E_add rfl ?_
      refine E_store rfl rfl rfl ?_
      refine E_iinc rfl rfl rfl ?_
      refine E_goto rfl ?_
      exact ih (i + 1) (by omega) _ _ (by omega) (by rw [ha]; rfl)
set_option maxHeartbeats 6000000 in
set_option maxRecDepth 100000 in
theorem m_allMoods {d : Nat} {h : Hp} (hL : Lay h) (hM : MC h) (hN : InvN (mC h 44)) : Ok (d) 176 [(1, ((43 : Nat) : Int))] h (fun r h2 => r = some (0, amS (mC h 44)) ∧ h2 = h) := by
  show Ex _ none t_X11_allMoods 0 0 _ [] _ _
  refine E_const rfl ?_
  refine E_store rfl rfl rfl ?_
  refine E_const rfl ?_
  refine E_store rfl rfl rfl ?_
  exact m_allMoods_loop hL hM hN _ 0 (Nat.zero_add _) 0 0 rfl rfl
set_option maxHeartbeats 6000000 in
set_option maxRecDepth 100000 in
theorem m_allSay_loop {d : Nat} {h : Hp} (hL : Lay h) (hM : MC h) (hI : InvB (mC h 44)) (hH : InvH (mC h 44)) (hN : InvN (mC h 44)) : ∀ (n i : Nat), i + n = (mC h 44 29).toNat → ∀ (x a : Int), x = i → a = sm (fun b => if mC h 44 (19 + b) = 0 then syS (mC h 44) b else 0) i → ∀ f g, Ex (d + 4) none t_X11_allSay 0 4 [(1, ((43 : Nat) : Int)), (0, a), (0, x)] [] (scr h f g) (fun r h2 => r = some (0, alS (mC h 44)) ∧ ∃ f g, h2 = scr h f g) := by
  obtain ⟨n1, n2, n3, n4, n5, n6, n7, n8⟩ := hN
  intro n
  induction n with
  | zero =>
    intro i hi x a hx ha f g
    refine E_load rfl rfl rfl ?_
    refine E_load rfl rfl rfl ?_
    refine E_getr (c := 12) (r := 44) rfl (hL.lt 43 rfl) (hL.k 43 rfl) rfl (hM.c1) ?_
    refine E_const rfl ?_
    refine E_ialn (n := 943) (v := mC h 44 29) rfl (hL.lt 44 rfl) (hL.k 44 rfl) (hL.l 44 rfl) (by omega) (rfl) ?_
    refine E_cmp3 rfl (by omega) (fun c1 => ?_) (fun c1 => ?_)
    · refine E_load rfl rfl rfl ?_
      refine E_iret rfl (fun h => absurd h (by decide)) ?_
      exact ⟨by rw [ha]; unfold alS; rw [show i = (mC h 44 29).toNat by omega], f, g, rfl⟩
    · exfalso; omega
  | succ n ih =>
    intro i hi x a hx ha f g
    have hb : i < 6 := by omega
    obtain ⟨i1, i2, i3, i4, i5, i6, i7⟩ := hI i hb
    refine E_load rfl rfl rfl ?_
    refine E_load rfl rfl rfl ?_
    refine E_getr (c := 12) (r := 44) rfl (hL.lt 43 rfl) (hL.k 43 rfl) rfl (hM.c1) ?_
    refine E_const rfl ?_
    refine E_ialn (n := 943) (v := mC h 44 29) rfl (hL.lt 44 rfl) (hL.k 44 rfl) (hL.l 44 rfl) (by omega) (rfl) ?_
    refine E_cmp3 rfl (by omega) (fun c1 => ?_) (fun c1 => ?_)
    · exfalso; omega
    · refine E_load rfl rfl rfl ?_
      refine E_load rfl rfl rfl ?_
      refine E_getr (c := 12) (r := 44) rfl (hL.lt 43 rfl) (hL.k 43 rfl) rfl (hM.c1) ?_
      subst hx
      refine E_const rfl ?_
      refine E_load rfl rfl rfl ?_
      refine E_add rfl ?_
      refine E_ialn (n := 943) (v := mC h 44 (19 + i)) rfl (hL.lt 44 rfl) (hL.k 44 rfl) (hL.l 44 rfl) (by omega) (show mC h 44 (((19 : Int) + (i : Int)).toNat) = mC h 44 (19 + i) from congrArg _ (by omega)) ?_
      refine E_if1 rfl (by omega) (fun c2 => ?_) (fun c2 => ?_)
      · refine E_const rfl ?_
        refine E_add rfl ?_
        refine E_store rfl rfl rfl ?_
        refine E_iinc rfl rfl rfl ?_
        refine E_goto rfl ?_
        exact ih (i + 1) (by omega) _ _ (by omega) (by rw [ha]; show _ = sm _ i + (if _ = _ then _ else _); rw [if_neg c2]) f g
      · refine E_load rfl rfl rfl ?_
        refine E_load rfl rfl rfl ?_
        refine E_cV (q := 43) (c := 12) (y := 167) (as := [(0, (i : Int))]) (rest := [(0, a)]) rfl rfl rfl (hL.lt 43 rfl) (hL.k 43 rfl) rfl rfl rfl rfl (m_saysOf (h := scr h f g) (b := i) hL hM hb hI hH) (fun r h2 hq => ?_)
        obtain ⟨rfl, f2, g2, rfl⟩ := hq
        rw [scr_scr]
        refine E_goto rfl ?_
        refine E_add rfl ?_
        refine E_store rfl rfl rfl ?_
        refine E_iinc rfl rfl rfl ?_
        refine E_goto rfl ?_
        exact ih (i + 1) (by omega) _ _ (by omega) (by rw [ha]; show _ = sm _ i + (if _ = _ then _ else _); rw [if_pos c2]; rfl) f2 g2
set_option maxHeartbeats 6000000 in
set_option maxRecDepth 100000 in
theorem m_allSay {d : Nat} {h : Hp} (hL : Lay h) (hM : MC h) (hI : InvB (mC h 44)) (hH : InvH (mC h 44)) (hN : InvN (mC h 44)) : Ok (d + 4) 175 [(1, ((43 : Nat) : Int))] h (fun r h2 => r = some (0, alS (mC h 44)) ∧ ∃ f g, h2 = scr h f g) := by
  show Ex _ none t_X11_allSay 0 0 _ [] _ _
  refine E_const rfl ?_
  refine E_store rfl rfl rfl ?_
  refine E_const rfl ?_
  refine E_store rfl rfl rfl ?_
  have k := m_allSay_loop (d := d) hL hM hI hH hN _ 0 (Nat.zero_add _) 0 0 rfl rfl (mC h 47) (mC h 48)
  rw [scr_self] at k
  exact k
