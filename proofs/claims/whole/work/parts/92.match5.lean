set_option maxHeartbeats 4000000 in
set_option maxRecDepth 100000 in
theorem C_match {d : Nat} {h : Hp} {c : Nat → Nat → Int} {B : Nat → Nat} {s im : Nat → Int} {hi : Int} {L : List Int} (hL : Lay h) (hR : RepC h c B s im hi L) (hA : Inv s) {w : Int} (hw : inR w) : Ok (d + 14) 93 [(1, ((0 : Nat) : Int)), (0, w)] (wC h c) (fun r h2 => r = some (0, a_match s w) ∧ ∃ c2, h2 = wC h c2 ∧ EqP (ScrP B (s 29)) c c2) := by
  show Ex _ none t_X10_match 0 0 _ [] (wC h c) _
  have hAA := hA
  have hG := hA.G
  obtain ⟨hI, hH, ⟨⟨n29, n30, n31, n32, n33, n34, n36⟩, nM⟩, hX⟩ := hA
  have hfl := fuN_lt n29.2
  refine E_load rfl rfl rfl ?_
  refine E_const rfl ?_
  refine E_cmp2 rfl (by omega) (fun q1 => ?_) (fun q1 => ?_)
  · refine E_const rfl ?_
    refine E_store rfl rfl rfl ?_
    refine E_load rfl rfl rfl ?_
    refine E_if0 rfl (by omega) (fun q2 => ?_) (fun q2 => ?_)
    · refine E_load rfl rfl rfl ?_
      refine E_V0 (q := 0) (c := 11) (y := 125) rfl rfl (hL.lt 0 rfl) (hL.k 0 rfl) rfl rfl rfl rfl (c_hear hL hR hG) (fun r h2 hq => ?_)
      obtain ⟨rfl, c_1, hh, hS_1, hE0_1⟩ := hq
      subst hh
      have hE_1 : EqP (ScrP B (s 29)) c c_1 := hE0_1.mono (fun a k e => Or.inl (by unfold fixS; omega))
      have hR_1 := hR.scr hE_1
      refine E_load rfl rfl rfl ?_
      refine E_V0 (q := 0) (c := 11) (y := 124) rfl rfl (hL.lt 0 rfl) (hL.k 0 rfl) rfl rfl rfl rfl (c_full hL hR_1 hG) (fun r h2 hq => ?_)
      obtain ⟨rfl, hh⟩ := hq
      subst hh
      refine E_store rfl rfl rfl ?_
      refine E_load rfl rfl rfl ?_
      refine E_load rfl rfl rfl ?_
      refine E_V1 (q := 0) (c := 11) (y := 131) rfl rfl (hL.lt 0 rfl) (hL.k 0 rfl) rfl rfl rfl rfl (c_count hL hR_1 hG hS_1) (fun r h2 hq => ?_)
      obtain ⟨rfl, c_2, hh, hT_2, hE0_2⟩ := hq
      subst hh
      have hE_2 : EqP (ScrP B (s 29)) c_1 c_2 := hE0_2.mono (fun a k e => Or.inl (by unfold fixS; omega))
      have hR_2 := hR_1.scr hE_2
      have hS_2 : SaidR c_2 s := hS_1.of (hE0_2 22 3 (by omega)) (funext fun k => hE0_2 23 k (by omega))
      refine E_load rfl rfl rfl ?_
      refine E_if0 rfl (by omega) (fun q3 => ?_) (fun q3 => ?_)
      · refine E_load rfl rfl rfl ?_
        refine E_getr (c := 11) (r := 25) rfl (hL.lt 0 rfl) (hL.k 0 rfl) rfl (hR_2.C.g 0 8 25 (by decide)) ?_
        refine E_load rfl rfl rfl ?_
        refine E_const rfl ?_
        refine E_V2 (q := 25) (c := 8) (y := 60) rfl rfl (hL.lt 25 rfl) (hL.k 25 rfl) rfl rfl rfl rfl (s_atv (v := mpS s (s 29).toNat 0 (fuN s)) (sh25 hL hR_2.C) (by decide) (by decide) (by omega) (by omega) (by rw [hT_2.1]; omega) (by rw [hT_2.1]; omega) (tab_at hT_2 (by omega))) (fun r h2 hq => ?_)
        obtain ⟨rfl, hh⟩ := hq
        subst hh
        refine E_iret rfl (fun h => absurd h (by decide)) ?_
        first
          | (exfalso; omega)
          | (refine qryc ?_ (hE_1.trans hE_2)
             unfold a_match
             rw [if_neg (fun z => z.1 (by omega)), if_pos (by omega), match_many hI n29.2])
      · exfalso; omega
    · refine E_load rfl rfl rfl ?_
      refine E_if1 rfl (by omega) (fun q4 => ?_) (fun q4 => ?_)
      · exfalso; omega
      · refine E_const rfl ?_
        refine E_iret rfl (fun h => absurd h (by decide)) ?_
        refine qryc ?_ EqP.nil
        unfold a_match
        rw [if_pos ⟨by omega, fun z => by have z1 := z.1; have z2 := z.2; omega⟩]
  · refine E_load rfl rfl rfl ?_
    refine E_load rfl rfl rfl ?_
    refine E_const rfl ?_
    refine E_sub rfl ?_
    rcases Classical.em (0 ≤ w - 10 ∧ w - 10 < s 29) with hb | hb
    · obtain ⟨b, hwb⟩ := Int.eq_ofNat_of_zero_le hb.1
      rw [hwb]
      refine E_V1 (q := 0) (c := 11) (y := 120) rfl rfl (hL.lt 0 rfl) (hL.k 0 rfl) rfl rfl rfl rfl (c_bY hL hR (b := b) (by omega)) (fun r h2 hq => ?_)
      obtain ⟨rfl, hh⟩ := hq
      subst hh
      refine E_null0 rfl (fun q5 => ?_) (fun q5 => ?_)
      · exfalso; omega
      · refine E_const rfl ?_
        refine E_goto rfl ?_
        refine E_store rfl rfl rfl ?_
        refine E_load rfl rfl rfl ?_
        refine E_if0 rfl (by omega) (fun q6 => ?_) (fun q6 => ?_)
        · refine E_load rfl rfl rfl ?_
          refine E_V0 (q := 0) (c := 11) (y := 125) rfl rfl (hL.lt 0 rfl) (hL.k 0 rfl) rfl rfl rfl rfl (c_hear hL hR hG) (fun r h2 hq => ?_)
          obtain ⟨rfl, c_3, hh, hS_3, hE0_3⟩ := hq
          subst hh
          have hE_3 : EqP (ScrP B (s 29)) c c_3 := hE0_3.mono (fun a k e => Or.inl (by unfold fixS; omega))
          have hR_3 := hR.scr hE_3
          refine E_load rfl rfl rfl ?_
          refine E_V0 (q := 0) (c := 11) (y := 124) rfl rfl (hL.lt 0 rfl) (hL.k 0 rfl) rfl rfl rfl rfl (c_full hL hR_3 hG) (fun r h2 hq => ?_)
          obtain ⟨rfl, hh⟩ := hq
          subst hh
          refine E_store rfl rfl rfl ?_
          refine E_load rfl rfl rfl ?_
          refine E_load rfl rfl rfl ?_
          refine E_V1 (q := 0) (c := 11) (y := 131) rfl rfl (hL.lt 0 rfl) (hL.k 0 rfl) rfl rfl rfl rfl (c_count hL hR_3 hG hS_3) (fun r h2 hq => ?_)
          obtain ⟨rfl, c_4, hh, hT_4, hE0_4⟩ := hq
          subst hh
          have hE_4 : EqP (ScrP B (s 29)) c_3 c_4 := hE0_4.mono (fun a k e => Or.inl (by unfold fixS; omega))
          have hR_4 := hR_3.scr hE_4
          have hS_4 : SaidR c_4 s := hS_3.of (hE0_4 22 3 (by omega)) (funext fun k => hE0_4 23 k (by omega))
          refine E_load rfl rfl rfl ?_
          refine E_if0 rfl (by omega) (fun q7 => ?_) (fun q7 => ?_)
          · exfalso; omega
          · refine E_load rfl rfl rfl ?_
            refine E_load rfl rfl rfl ?_
            refine E_const rfl ?_
            refine E_sub rfl ?_
            rw [hwb]
            refine E_load rfl rfl rfl ?_
            refine E_V2 (q := 0) (c := 11) (y := 133) rfl rfl (hL.lt 0 rfl) (hL.k 0 rfl) rfl rfl rfl rfl (c_who (w := b) hL hR_4 hG hS_4 hT_4 (by omega)) (fun r h2 hq => ?_)
            obtain ⟨rfl, hh⟩ := hq
            subst hh
            refine E_goto rfl ?_
            refine E_iret rfl (fun h => absurd h (by decide)) ?_
            refine qryc ?_ (hE_3.trans hE_4)
            unfold a_match
            rw [if_neg (fun z => z.2 (by omega)), if_neg (by omega), hwb, Int.toNat_natCast, match_who hI n29.2 (by omega)]
        · refine E_load rfl rfl rfl ?_
          refine E_if1 rfl (by omega) (fun q8 => ?_) (fun q8 => ?_)
          · refine E_load rfl rfl rfl ?_
            refine E_V0 (q := 0) (c := 11) (y := 125) rfl rfl (hL.lt 0 rfl) (hL.k 0 rfl) rfl rfl rfl rfl (c_hear hL hR hG) (fun r h2 hq => ?_)
            obtain ⟨rfl, c_5, hh, hS_5, hE0_5⟩ := hq
            subst hh
            have hE_5 : EqP (ScrP B (s 29)) c c_5 := hE0_5.mono (fun a k e => Or.inl (by unfold fixS; omega))
            have hR_5 := hR.scr hE_5
            refine E_load rfl rfl rfl ?_
            refine E_V0 (q := 0) (c := 11) (y := 124) rfl rfl (hL.lt 0 rfl) (hL.k 0 rfl) rfl rfl rfl rfl (c_full hL hR_5 hG) (fun r h2 hq => ?_)
            obtain ⟨rfl, hh⟩ := hq
            subst hh
            refine E_store rfl rfl rfl ?_
            refine E_load rfl rfl rfl ?_
            refine E_load rfl rfl rfl ?_
            refine E_V1 (q := 0) (c := 11) (y := 131) rfl rfl (hL.lt 0 rfl) (hL.k 0 rfl) rfl rfl rfl rfl (c_count hL hR_5 hG hS_5) (fun r h2 hq => ?_)
            obtain ⟨rfl, c_6, hh, hT_6, hE0_6⟩ := hq
            subst hh
            have hE_6 : EqP (ScrP B (s 29)) c_5 c_6 := hE0_6.mono (fun a k e => Or.inl (by unfold fixS; omega))
            have hR_6 := hR_5.scr hE_6
            have hS_6 : SaidR c_6 s := hS_5.of (hE0_6 22 3 (by omega)) (funext fun k => hE0_6 23 k (by omega))
            refine E_load rfl rfl rfl ?_
            refine E_if0 rfl (by omega) (fun q9 => ?_) (fun q9 => ?_)
            · exfalso; omega
            · refine E_load rfl rfl rfl ?_
              refine E_load rfl rfl rfl ?_
              refine E_const rfl ?_
              refine E_sub rfl ?_
              rw [hwb]
              refine E_load rfl rfl rfl ?_
              refine E_V2 (q := 0) (c := 11) (y := 133) rfl rfl (hL.lt 0 rfl) (hL.k 0 rfl) rfl rfl rfl rfl (c_who (w := b) hL hR_6 hG hS_6 hT_6 (by omega)) (fun r h2 hq => ?_)
              obtain ⟨rfl, hh⟩ := hq
              subst hh
              refine E_goto rfl ?_
              refine E_iret rfl (fun h => absurd h (by decide)) ?_
              refine qryc ?_ (hE_5.trans hE_6)
              unfold a_match
              rw [if_neg (fun z => z.2 (by omega)), if_neg (by omega), hwb, Int.toNat_natCast, match_who hI n29.2 (by omega)]
          · exfalso; omega
    · refine E_V1 (q := 0) (c := 11) (y := 120) rfl rfl (hL.lt 0 rfl) (hL.k 0 rfl) rfl rfl rfl rfl (c_bN hL hR (by omega) n29.1 hb) (fun r h2 hq => ?_)
      obtain ⟨rfl, hh⟩ := hq
      subst hh
      refine E_null0 rfl (fun q10 => ?_) (fun q10 => ?_)
      · refine E_const rfl ?_
        refine E_store rfl rfl rfl ?_
        refine E_load rfl rfl rfl ?_
        refine E_if0 rfl (by omega) (fun q11 => ?_) (fun q11 => ?_)
        · refine E_load rfl rfl rfl ?_
          refine E_V0 (q := 0) (c := 11) (y := 125) rfl rfl (hL.lt 0 rfl) (hL.k 0 rfl) rfl rfl rfl rfl (c_hear hL hR hG) (fun r h2 hq => ?_)
          obtain ⟨rfl, c_7, hh, hS_7, hE0_7⟩ := hq
          subst hh
          have hE_7 : EqP (ScrP B (s 29)) c c_7 := hE0_7.mono (fun a k e => Or.inl (by unfold fixS; omega))
          have hR_7 := hR.scr hE_7
          refine E_load rfl rfl rfl ?_
          refine E_V0 (q := 0) (c := 11) (y := 124) rfl rfl (hL.lt 0 rfl) (hL.k 0 rfl) rfl rfl rfl rfl (c_full hL hR_7 hG) (fun r h2 hq => ?_)
          obtain ⟨rfl, hh⟩ := hq
          subst hh
          refine E_store rfl rfl rfl ?_
          refine E_load rfl rfl rfl ?_
          refine E_load rfl rfl rfl ?_
          refine E_V1 (q := 0) (c := 11) (y := 131) rfl rfl (hL.lt 0 rfl) (hL.k 0 rfl) rfl rfl rfl rfl (c_count hL hR_7 hG hS_7) (fun r h2 hq => ?_)
          obtain ⟨rfl, c_8, hh, hT_8, hE0_8⟩ := hq
          subst hh
          have hE_8 : EqP (ScrP B (s 29)) c_7 c_8 := hE0_8.mono (fun a k e => Or.inl (by unfold fixS; omega))
          have hR_8 := hR_7.scr hE_8
          have hS_8 : SaidR c_8 s := hS_7.of (hE0_8 22 3 (by omega)) (funext fun k => hE0_8 23 k (by omega))
          refine E_load rfl rfl rfl ?_
          refine E_if0 rfl (by omega) (fun q12 => ?_) (fun q12 => ?_)
          · refine E_load rfl rfl rfl ?_
            refine E_getr (c := 11) (r := 25) rfl (hL.lt 0 rfl) (hL.k 0 rfl) rfl (hR_8.C.g 0 8 25 (by decide)) ?_
            refine E_load rfl rfl rfl ?_
            refine E_const rfl ?_
            refine E_V2 (q := 25) (c := 8) (y := 60) rfl rfl (hL.lt 25 rfl) (hL.k 25 rfl) rfl rfl rfl rfl (s_atv (v := mpS s (s 29).toNat 0 (fuN s)) (sh25 hL hR_8.C) (by decide) (by decide) (by omega) (by omega) (by rw [hT_8.1]; omega) (by rw [hT_8.1]; omega) (tab_at hT_8 (by omega))) (fun r h2 hq => ?_)
            obtain ⟨rfl, hh⟩ := hq
            subst hh
            refine E_iret rfl (fun h => absurd h (by decide)) ?_
            first
              | (exfalso; omega)
              | (refine qryc ?_ (hE_7.trans hE_8)
                 unfold a_match
                 rw [if_neg (fun z => z.1 (by omega)), if_pos (by omega), match_many hI n29.2])
          · exfalso; omega
        · refine E_load rfl rfl rfl ?_
          refine E_if1 rfl (by omega) (fun q13 => ?_) (fun q13 => ?_)
          · exfalso; omega
          · refine E_const rfl ?_
            refine E_iret rfl (fun h => absurd h (by decide)) ?_
            refine qryc ?_ EqP.nil
            unfold a_match
            rw [if_pos ⟨by omega, fun z => by have z1 := z.1; have z2 := z.2; omega⟩]
      · exfalso; omega
