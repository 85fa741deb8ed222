theorem say_3 (v w y q t s : Int) : sayK 3 v w y q t s = nrI w s * (if q.tmod 2 = 1 then -1 else 1) := rfl
theorem say_4 (v w y q t s : Int) : sayK 4 v w y q t s = nrI w (s.tdiv 2) - (if 40 < y then v else 0) := rfl
theorem say_5 (v w y q t s : Int) : sayK 5 v w y q t s = nrI w (2 * s) - (if 0 < w ∧ 30 < y then v else 0) := rfl
theorem say_6 (v w y q t s : Int) : sayK 6 v w y q t s = nrI w s * (if q.tmod 2 = 1 then -1 else 1) + t := rfl
set_option maxHeartbeats 6000000 in
set_option maxRecDepth 100000 in
theorem m_says_tail {d : Nat} {h : Hp} (hL : Lay h) (hM : MC h) {b : Nat} (hb : b < 6) (hI : InvB (mC h 44)) (hH : InvH (mC h 44)) {soft sg : Int} (hs : 0 ≤ soft ∧ soft ≤ 2786000) (hg : sg = if (mC h 44 (13 + b)).tmod 2 = 1 then -1 else 1) : Ex (d + 3) none t_X11_saysOf 0 51 [(1, ((43 : Nat) : Int)), (0, (b : Int)), (0, soft), (0, mC h 44 (1 + b)), (0, mC h 44 (43 + b)), (9, 0)] [(0, sg), (0, nrI (mC h 44 (1 + b)) soft)] h (fun r h2 => r = some (0, sayK (mC h 44 (37 + b)) (mC h 44 (43 + b)) (mC h 44 (1 + b)) (mC h 44 (7 + b)) (mC h 44 (13 + b)) (mC h 44 (49 + 4 * b + (mC h 44 (13 + b)).toNat)) soft) ∧ h2 = h) := by
  obtain ⟨i1, i2, i3, i4, i5, i6, i7⟩ := hI b hb
  have e1 : soft.tdiv 2 = soft / 2 := Int.tdiv_eq_ediv_of_nonneg hs.1
  refine E_mul rfl ?_
  refine E_store rfl rfl rfl ?_
  refine E_load rfl rfl rfl ?_
  refine E_getr (c := 12) (r := 44) rfl (hL.lt 43 rfl) (hL.k 43 rfl) rfl (hM.c1) ?_
  refine E_const rfl ?_
  refine E_load rfl rfl rfl ?_
  refine E_add rfl ?_
  refine E_ialn (n := 943) (v := mC h 44 (37 + b)) rfl (hL.lt 44 rfl) (hL.k 44 rfl) (hL.l 44 rfl) (by omega) (show mC h 44 (((37 : Int) + (b : Int)).toNat) = mC h 44 (37 + b) from congrArg _ (by omega)) ?_
  have hk : mC h 44 (37 + b) = 0 ∨ mC h 44 (37 + b) = 1 ∨ mC h 44 (37 + b) = 2 ∨ mC h 44 (37 + b) = 3 ∨ mC h 44 (37 + b) = 4 ∨ mC h 44 (37 + b) = 5 ∨ mC h 44 (37 + b) = 6 := by omega
  rcases hk with e | e | e | e | e | e | e
  · refine E_sw (t := 206) rfl (by omega) (by rw [e]; rfl) ?_
    refine E_load rfl rfl rfl ?_
    refine E_load rfl rfl rfl ?_
    refine E_cS (as := [(0, mC h 44 (1 + b)), (0, soft)]) (rest := []) rfl rfl rfl rfl rfl rfl (m_nearer (by omega) (by omega) (by omega)) (fun r h2 hq => ?_)
    obtain ⟨rfl, hh⟩ := hq
    subst h2
    refine E_iret rfl (fun h => absurd h (by decide)) ?_
    exact ⟨by rw [e]; rfl, rfl⟩
  · refine E_sw (t := 100) rfl (by omega) (by rw [e]; rfl) ?_
    refine E_load rfl rfl rfl ?_
    refine E_load rfl rfl rfl ?_
    refine E_const rfl ?_
    refine E_div rfl (by omega) (by omega) (by omega) ?_
    refine E_cS (as := [(0, mC h 44 (1 + b)), (0, soft.tdiv 2)]) (rest := []) rfl rfl rfl rfl rfl rfl (m_nearer (by omega) (by omega) (by omega)) (fun r h2 hq => ?_)
    obtain ⟨rfl, hh⟩ := hq
    subst h2
    refine E_iret rfl (fun h => absurd h (by decide)) ?_
    exact ⟨by rw [e]; rfl, rfl⟩
  · refine E_sw (t := 108) rfl (by omega) (by rw [e]; rfl) ?_
    refine E_load rfl rfl rfl ?_
    refine E_const rfl ?_
    refine E_load rfl rfl rfl ?_
    refine E_mul rfl ?_
    refine E_cS (as := [(0, mC h 44 (1 + b)), (0, 2 * soft)]) (rest := []) rfl rfl rfl rfl rfl rfl (m_nearer (by omega) (by omega) (by omega)) (fun r h2 hq => ?_)
    obtain ⟨rfl, hh⟩ := hq
    subst h2
    refine E_iret rfl (fun h => absurd h (by decide)) ?_
    exact ⟨by rw [e]; rfl, rfl⟩
  · refine E_sw (t := 116) rfl (by omega) (by rw [e]; rfl) ?_
    refine E_load rfl rfl rfl ?_
    refine E_iret rfl (fun h => absurd h (by decide)) ?_
    exact ⟨by rw [e, say_3, hg], rfl⟩
  · refine E_sw (t := 119) rfl (by omega) (by rw [e]; rfl) ?_
    refine E_load rfl rfl rfl ?_
    refine E_load rfl rfl rfl ?_
    refine E_const rfl ?_
    refine E_div rfl (by omega) (by omega) (by omega) ?_
    refine E_cS (as := [(0, mC h 44 (1 + b)), (0, soft.tdiv 2)]) (rest := []) rfl rfl rfl rfl rfl rfl (m_nearer (by omega) (by omega) (by omega)) (fun r h2 hq => ?_)
    obtain ⟨rfl, hh⟩ := hq
    subst h2
    refine E_load rfl rfl rfl ?_
    refine E_getr (c := 12) (r := 44) rfl (hL.lt 43 rfl) (hL.k 43 rfl) rfl (hM.c1) ?_
    refine E_const rfl ?_
    refine E_load rfl rfl rfl ?_
    refine E_add rfl ?_
    refine E_ialn (n := 943) (v := mC h 44 (7 + b)) rfl (hL.lt 44 rfl) (hL.k 44 rfl) (hL.l 44 rfl) (by omega) (show mC h 44 (((7 : Int) + (b : Int)).toNat) = mC h 44 (7 + b) from congrArg _ (by omega)) ?_
    refine E_const rfl ?_
    refine E_cmp5 rfl (by omega) (fun c1 => ?_) (fun c1 => ?_)
    · refine E_const rfl ?_
      refine E_sub rfl ?_
      refine E_iret rfl (fun h => absurd h (by decide)) ?_
      exact ⟨by rw [e, say_4, if_neg (by omega)], rfl⟩
    · refine E_load rfl rfl rfl ?_
      refine E_goto rfl ?_
      refine E_sub rfl ?_
      refine E_iret rfl (fun h => absurd h (by decide)) ?_
      exact ⟨by rw [e, say_4, if_pos (by omega)], rfl⟩
  · refine E_sw (t := 148) rfl (by omega) (by rw [e]; rfl) ?_
    refine E_load rfl rfl rfl ?_
    refine E_const rfl ?_
    refine E_load rfl rfl rfl ?_
    refine E_mul rfl ?_
    refine E_cS (as := [(0, mC h 44 (1 + b)), (0, 2 * soft)]) (rest := []) rfl rfl rfl rfl rfl rfl (m_nearer (by omega) (by omega) (by omega)) (fun r h2 hq => ?_)
    obtain ⟨rfl, hh⟩ := hq
    subst h2
    refine E_load rfl rfl rfl ?_
    refine E_if5 rfl (by omega) (fun c1 => ?_) (fun c1 => ?_)
    · refine E_const rfl ?_
      refine E_sub rfl ?_
      refine E_iret rfl (fun h => absurd h (by decide)) ?_
      exact ⟨by rw [e, say_5, if_neg (by omega)], rfl⟩
    · refine E_load rfl rfl rfl ?_
      refine E_getr (c := 12) (r := 44) rfl (hL.lt 43 rfl) (hL.k 43 rfl) rfl (hM.c1) ?_
      refine E_const rfl ?_
      refine E_load rfl rfl rfl ?_
      refine E_add rfl ?_
      refine E_ialn (n := 943) (v := mC h 44 (7 + b)) rfl (hL.lt 44 rfl) (hL.k 44 rfl) (hL.l 44 rfl) (by omega) (show mC h 44 (((7 : Int) + (b : Int)).toNat) = mC h 44 (7 + b) from congrArg _ (by omega)) ?_
      refine E_const rfl ?_
      refine E_cmp5 rfl (by omega) (fun c2 => ?_) (fun c2 => ?_)
      · refine E_const rfl ?_
        refine E_sub rfl ?_
        refine E_iret rfl (fun h => absurd h (by decide)) ?_
        exact ⟨by rw [e, say_5, if_neg (by omega)], rfl⟩
      · refine E_load rfl rfl rfl ?_
        refine E_goto rfl ?_
        refine E_sub rfl ?_
        refine E_iret rfl (fun h => absurd h (by decide)) ?_
        exact ⟨by rw [e, say_5, if_pos (by omega)], rfl⟩
  · refine E_sw (t := 181) rfl (by omega) (by rw [e]; rfl) ?_
    refine E_load rfl rfl rfl ?_
    refine E_load rfl rfl rfl ?_
    refine E_getr (c := 12) (r := 44) rfl (hL.lt 43 rfl) (hL.k 43 rfl) rfl (hM.c1) ?_
    refine E_const rfl ?_
    refine E_const rfl ?_
    refine E_load rfl rfl rfl ?_
    refine E_mul rfl ?_
    refine E_add rfl ?_
    refine E_load rfl rfl rfl ?_
    refine E_getr (c := 12) (r := 44) rfl (hL.lt 43 rfl) (hL.k 43 rfl) rfl (hM.c1) ?_
    refine E_const rfl ?_
    refine E_load rfl rfl rfl ?_
    refine E_add rfl ?_
    refine E_ialn (n := 943) (v := mC h 44 (13 + b)) rfl (hL.lt 44 rfl) (hL.k 44 rfl) (hL.l 44 rfl) (by omega) (show mC h 44 (((13 : Int) + (b : Int)).toNat) = mC h 44 (13 + b) from congrArg _ (by omega)) ?_
    refine E_add rfl ?_
    refine E_ialn (n := 943) (v := mC h 44 (49 + 4 * b + (mC h 44 (13 + b)).toNat)) rfl (hL.lt 44 rfl) (hL.k 44 rfl) (hL.l 44 rfl) (by omega) (show mC h 44 ((49 + 4 * (b : Int) + mC h 44 (13 + b)).toNat) = _ from congrArg _ (by omega)) ?_
    refine E_add rfl ?_
    refine E_iret rfl (fun h => absurd h (by decide)) ?_
    exact ⟨by rw [e, say_6, hg], rfl⟩
set_option maxHeartbeats 6000000 in
set_option maxRecDepth 100000 in
theorem m_saysOf {d : Nat} {h : Hp} (hL : Lay h) (hM : MC h) {b : Nat} (hb : b < 6) (hI : InvB (mC h 44)) (hH : InvH (mC h 44)) : Ok (d + 3) 167 [(1, ((43 : Nat) : Int)), (0, (b : Int))] h (fun r h2 => r = some (0, syS (mC h 44) b) ∧ ∃ f g, h2 = scr h f g) := by
  show Ex _ none t_X11_saysOf 0 0 _ [] _ _
  obtain ⟨i1, i2, i3, i4, i5, i6, i7⟩ := hI b hb
  have hsf := sfS_in hb hI hH
  have e3 : (mC h 44 (13 + b)).tmod 2 = mC h 44 (13 + b) % 2 := Int.tmod_eq_emod_of_nonneg i3.1
  refine E_load rfl rfl rfl ?_
  refine E_load rfl rfl rfl ?_
  refine E_cV (q := 43) (c := 12) (y := 166) (as := [(0, (b : Int))]) (rest := []) rfl rfl rfl (hL.lt 43 rfl) (hL.k 43 rfl) rfl rfl rfl rfl (m_softOf hL hM hb hI hH) (fun r h2 hq => ?_)
  obtain ⟨rfl, f, g, rfl⟩ := hq
  refine E_store rfl rfl rfl ?_
  refine E_load rfl rfl rfl ?_
  refine E_getr (c := 12) (r := 44) rfl (hL.lt 43 rfl) (hL.k 43 rfl) rfl (hM.c1) ?_
  refine E_const rfl ?_
  refine E_load rfl rfl rfl ?_
  refine E_add rfl ?_
  refine E_ialn (n := 943) (v := mC h 44 (1 + b)) rfl (hL.lt 44 rfl) (hL.k 44 rfl) (hL.l 44 rfl) (by omega) (show mC h 44 (((1 : Int) + (b : Int)).toNat) = mC h 44 (1 + b) from congrArg _ (by omega)) ?_
  refine E_store rfl rfl rfl ?_
  refine E_load rfl rfl rfl ?_
  refine E_getr (c := 12) (r := 44) rfl (hL.lt 43 rfl) (hL.k 43 rfl) rfl (hM.c1) ?_
  refine E_const rfl ?_
  refine E_load rfl rfl rfl ?_
  refine E_add rfl ?_
  refine E_ialn (n := 943) (v := mC h 44 (43 + b)) rfl (hL.lt 44 rfl) (hL.k 44 rfl) (hL.l 44 rfl) (by omega) (show mC h 44 (((43 : Int) + (b : Int)).toNat) = mC h 44 (43 + b) from congrArg _ (by omega)) ?_
  refine E_store rfl rfl rfl ?_
  refine E_load rfl rfl rfl ?_
  refine E_load rfl rfl rfl ?_
  refine E_cS (as := [(0, mC h 44 (1 + b)), (0, sfS (mC h 44) b)]) (rest := []) rfl rfl rfl rfl rfl rfl (m_nearer (by omega) (by omega) (by omega)) (fun r h2 hq => ?_)
  obtain ⟨rfl, rfl⟩ := hq
  refine E_load rfl rfl rfl ?_
  refine E_getr (c := 12) (r := 44) rfl (hL.lt 43 rfl) (hL.k 43 rfl) rfl (hM.c1) ?_
  refine E_const rfl ?_
  refine E_load rfl rfl rfl ?_
  refine E_add rfl ?_
  refine E_ialn (n := 943) (v := mC h 44 (13 + b)) rfl (hL.lt 44 rfl) (hL.k 44 rfl) (hL.l 44 rfl) (by omega) (show mC h 44 (((13 : Int) + (b : Int)).toNat) = mC h 44 (13 + b) from congrArg _ (by omega)) ?_
  refine E_const rfl ?_
  refine E_rem rfl (by omega) (by omega) (by omega) ?_
  refine E_const rfl ?_
  refine E_cmp1 rfl (by omega) (fun c1 => ?_) (fun c1 => ?_)
  · refine E_const rfl ?_
    exact (m_says_tail (d := d) (h := scr h f g) hL hM hb hI hH hsf (if_neg c1).symm).mono (fun r hE hq => ⟨hq.1, f, g, hq.2⟩)
  · refine E_const rfl ?_
    refine E_goto rfl ?_
    exact (m_says_tail (d := d) (h := scr h f g) hL hM hb hI hH hsf (if_pos c1).symm).mono (fun r hE hq => ⟨hq.1, f, g, hq.2⟩)
