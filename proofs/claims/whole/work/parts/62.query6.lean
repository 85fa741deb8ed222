set_option maxHeartbeats 4000000 in
set_option maxRecDepth 100000 in
theorem C_on {d : Nat} {h : Hp} {c : Nat → Nat → Int} {B : Nat → Nat} {s im : Nat → Int} {hi : Int} {L : List Int} (hL : Lay h) (hR : RepC h c B s im hi L) (hA : Inv s) {n : Int} (hn : inR n) {w : Int} (hw : inR w) : Ok (d + 14) 86 [(1, ((0 : Nat) : Int)), (0, n), (0, w)] (wC h c) (fun r h2 => r = some (0, a_on s n w) ∧ ∃ c2, h2 = wC h c2 ∧ EqP (ScrP B (s 29)) c c2) := by
  show Ex _ none t_X10_on 0 0 _ [] (wC h c) _
  have hAA := hA
  have hG := hA.G
  obtain ⟨hI, hH, ⟨⟨n29, n30, n31, n32, n33, n34, n36⟩, nM⟩, hX⟩ := hA
  refine E_load rfl rfl rfl ?_
  refine E_const rfl ?_
  refine E_const rfl ?_
  refine E_S3 (y := 111) rfl rfl rfl rfl rfl (c_within (by omega) (by omega) (by omega)) (fun r h2 hq => ?_)
  obtain ⟨rfl, hh⟩ := hq
  subst hh
  refine E_store rfl rfl rfl ?_
  refine E_load rfl rfl rfl ?_
  refine E_const rfl ?_
  refine E_cmp2 rfl (by omega) (fun q1 => ?_) (fun q1 => ?_)
  · refine E_nul rfl ?_
    refine E_store rfl rfl rfl ?_
    refine E_load rfl rfl rfl ?_
    refine E_const rfl ?_
    refine E_cmp2 rfl (by omega) (fun q2 => ?_) (fun q2 => ?_)
    · refine E_const rfl ?_
      refine E_store rfl rfl rfl ?_
      refine E_load rfl rfl rfl ?_
      refine E_if1 rfl (bI_R _) (fun q3 => ?_) (fun q3 => ?_)
      · replace q3 := bI_nz q3
        refine E_load rfl rfl rfl ?_
        refine E_const rfl ?_
        refine E_const rfl ?_
        refine E_S3 (y := 111) rfl rfl rfl rfl rfl (c_within (by omega) (by omega) (by omega)) (fun r h2 hq => ?_)
        obtain ⟨rfl, hh⟩ := hq
        subst hh
        refine E_if1 rfl (bI_R _) (fun q4 => ?_) (fun q4 => ?_)
        · replace q4 := bI_nz q4
          obtain ⟨m, rfl⟩ := Int.eq_ofNat_of_zero_le q4.1
          have hG2 := hG.goN m
          have h36m := goN_hi hG (k := 36) (by omega) m
          refine E_load rfl rfl rfl ?_
          refine E_null0 rfl (fun q5 => ?_) (fun q5 => ?_)
          · refine E_load rfl rfl rfl ?_
            refine E_if1 rfl (by omega) (fun q6 => ?_) (fun q6 => ?_)
            · refine E_load rfl rfl rfl ?_
              refine E_getr (c := 11) (r := 7) rfl (hL.lt 0 rfl) (hL.k 0 rfl) rfl (hR.C.g 0 2 7 (by decide)) ?_
              refine E_load rfl rfl rfl ?_
              refine E_getr (c := 11) (r := 4) rfl (hL.lt 0 rfl) (hL.k 0 rfl) rfl (hR.C.g 0 1 4 (by decide)) ?_
              refine E_V1 (q := 7) (c := 8) (y := 63) rfl rfl (hL.lt 7 rfl) (hL.k 7 rfl) rfl rfl rfl rfl (s_copyFrom (sh7 hL hR.C) (by decide) (by decide) (sh4 hL hR.C) (by omega)) (fun r h2 hq => ?_)
              obtain ⟨rfl, c_1, hh, hC3_1, hC8_1, hE0_1⟩ := hq
              subst hh
              have hE_1 : EqP (ScrP B (s 29)) c c_1 := hE0_1.mono (fun a k e => Or.inl (by unfold fixS; omega))
              have hR_1 := hR.scr hE_1
              have hM_1 : MoodR (c_1 7 3) (c_1 8) s := ⟨hC3_1.trans hR.mood.1, fun j hj => (hC8_1 j (by omega)).trans (hR.mood.2 j hj)⟩
              refine E_load rfl rfl rfl ?_
              refine E_load rfl rfl rfl ?_
              refine E_getr (c := 11) (r := 7) rfl (hL.lt 0 rfl) (hL.k 0 rfl) rfl (hR_1.C.g 0 2 7 (by decide)) ?_
              refine E_load rfl rfl rfl ?_
              refine E_V2 (q := 0) (c := 11) (y := 128) rfl rfl (hL.lt 0 rfl) (hL.k 0 rfl) rfl rfl rfl rfl (c_calmD (m := m) hL hR_1 hG (sh7 hL hR_1.C) hM_1 (by omega)) (fun r h2 hq => ?_)
              obtain ⟨rfl, c_2, hh, hM_2, hE0_2⟩ := hq
              subst hh
              have hE_2 : EqP (ScrP B (s 29)) c_1 c_2 := hE0_2.mono (fun a k e => Or.inl (by unfold fixS; omega))
              have hR_2 := hR_1.scr hE_2
              refine E_load rfl rfl rfl ?_
              refine E_if0 rfl (by omega) (fun q7 => ?_) (fun q7 => ?_)
              · refine E_load rfl rfl rfl ?_
                refine E_getr (c := 11) (r := 7) rfl (hL.lt 0 rfl) (hL.k 0 rfl) rfl (hR_2.C.g 0 2 7 (by decide)) ?_
                refine E_S1 (y := 117) rfl rfl rfl rfl rfl (c_sum (sh7 hL hR_2.C) hM_2 (by omega)) (fun r h2 hq => ?_)
                obtain ⟨rfl, hh⟩ := hq
                subst hh
                refine E_iret rfl (fun h => absurd h (by decide)) ?_
                refine qryc ?_ (hE_1.trans hE_2)
                unfold a_on
                try simp only [Int.toNat_natCast]
                try rw [hwb, Int.toNat_natCast]
                try rw [hk, Int.toNat_natCast]
                first | (exfalso; omega) | (rw [if_pos (by omega)] <;> rfl) | (rw [if_neg (by omega), if_pos (by omega)] <;> rfl) | (rw [if_neg (by omega)] <;> rfl) | (rw [if_neg (by omega), if_neg (by omega), if_pos (by omega)] <;> rfl) | (rw [if_neg (by omega), if_neg (by omega)] <;> rfl) | (rw [if_neg (by omega), if_neg (by omega), if_neg (by omega), if_pos (by omega)] <;> rfl) | (rw [if_neg (by omega), if_neg (by omega), if_neg (by omega)] <;> rfl) | (rw [if_neg (by omega), if_neg (by omega), if_neg (by omega), if_neg (by omega), if_pos (by omega)] <;> rfl) | (rw [if_neg (by omega), if_neg (by omega), if_neg (by omega), if_neg (by omega)] <;> rfl) | (rw [if_neg (by omega), if_neg (by omega), if_neg (by omega), if_neg (by omega), if_neg (by omega), if_pos (by omega)] <;> rfl) | (rw [if_neg (by omega), if_neg (by omega), if_neg (by omega), if_neg (by omega), if_neg (by omega)] <;> rfl) | (rw [if_neg (by omega), if_neg (by omega), if_neg (by omega), if_neg (by omega), if_neg (by omega), if_neg (by omega), if_pos (by omega)] <;> rfl) | (rw [if_neg (by omega), if_neg (by omega), if_neg (by omega), if_neg (by omega), if_neg (by omega), if_neg (by omega)] <;> rfl)
              · exfalso; omega
            · refine E_load rfl rfl rfl ?_
              refine E_load rfl rfl rfl ?_
              refine E_V1 (q := 0) (c := 11) (y := 123) rfl rfl (hL.lt 0 rfl) (hL.k 0 rfl) rfl rfl rfl rfl (c_allSay hL hR hG (m := m) (by omega)) (fun r h2 hq => ?_)
              obtain ⟨rfl, c_3, hh, hE_3⟩ := hq
              subst hh
              have hR_3 := hR.scr hE_3
              refine E_iret rfl (fun h => absurd h (by decide)) ?_
              refine qryc ?_ hE_3
              unfold a_on
              try simp only [Int.toNat_natCast]
              try rw [hwb, Int.toNat_natCast]
              try rw [hk, Int.toNat_natCast]
              first | (exfalso; omega) | (rw [if_pos (by omega)] <;> rfl) | (rw [if_neg (by omega), if_pos (by omega)] <;> rfl) | (rw [if_neg (by omega)] <;> rfl) | (rw [if_neg (by omega), if_neg (by omega), if_pos (by omega)] <;> rfl) | (rw [if_neg (by omega), if_neg (by omega)] <;> rfl) | (rw [if_neg (by omega), if_neg (by omega), if_neg (by omega), if_pos (by omega)] <;> rfl) | (rw [if_neg (by omega), if_neg (by omega), if_neg (by omega)] <;> rfl) | (rw [if_neg (by omega), if_neg (by omega), if_neg (by omega), if_neg (by omega), if_pos (by omega)] <;> rfl) | (rw [if_neg (by omega), if_neg (by omega), if_neg (by omega), if_neg (by omega)] <;> rfl) | (rw [if_neg (by omega), if_neg (by omega), if_neg (by omega), if_neg (by omega), if_neg (by omega), if_pos (by omega)] <;> rfl) | (rw [if_neg (by omega), if_neg (by omega), if_neg (by omega), if_neg (by omega), if_neg (by omega)] <;> rfl) | (rw [if_neg (by omega), if_neg (by omega), if_neg (by omega), if_neg (by omega), if_neg (by omega), if_neg (by omega), if_pos (by omega)] <;> rfl) | (rw [if_neg (by omega), if_neg (by omega), if_neg (by omega), if_neg (by omega), if_neg (by omega), if_neg (by omega)] <;> rfl)
          · exfalso; omega
        · replace q4 := bI_z q4
          refine E_const rfl ?_
          refine E_iret rfl (fun h => absurd h (by decide)) ?_
          refine qryc ?_ EqP.nil
          unfold a_on
          try simp only [Int.toNat_natCast]
          try rw [hwb, Int.toNat_natCast]
          try rw [hk, Int.toNat_natCast]
          first | (exfalso; omega) | (rw [if_pos (by omega)] <;> rfl) | (rw [if_neg (by omega), if_pos (by omega)] <;> rfl) | (rw [if_neg (by omega)] <;> rfl) | (rw [if_neg (by omega), if_neg (by omega), if_pos (by omega)] <;> rfl) | (rw [if_neg (by omega), if_neg (by omega)] <;> rfl) | (rw [if_neg (by omega), if_neg (by omega), if_neg (by omega), if_pos (by omega)] <;> rfl) | (rw [if_neg (by omega), if_neg (by omega), if_neg (by omega)] <;> rfl) | (rw [if_neg (by omega), if_neg (by omega), if_neg (by omega), if_neg (by omega), if_pos (by omega)] <;> rfl) | (rw [if_neg (by omega), if_neg (by omega), if_neg (by omega), if_neg (by omega)] <;> rfl) | (rw [if_neg (by omega), if_neg (by omega), if_neg (by omega), if_neg (by omega), if_neg (by omega), if_pos (by omega)] <;> rfl) | (rw [if_neg (by omega), if_neg (by omega), if_neg (by omega), if_neg (by omega), if_neg (by omega)] <;> rfl) | (rw [if_neg (by omega), if_neg (by omega), if_neg (by omega), if_neg (by omega), if_neg (by omega), if_neg (by omega), if_pos (by omega)] <;> rfl) | (rw [if_neg (by omega), if_neg (by omega), if_neg (by omega), if_neg (by omega), if_neg (by omega), if_neg (by omega)] <;> rfl)
      · replace q3 := bI_z q3
        refine E_load rfl rfl rfl ?_
        refine E_null1 rfl (fun q8 => ?_) (fun q8 => ?_)
        · exfalso; omega
        · refine E_load rfl rfl rfl ?_
          refine E_if1 rfl (by omega) (fun q9 => ?_) (fun q9 => ?_)
          · exfalso; omega
          · refine E_const rfl ?_
            refine E_iret rfl (fun h => absurd h (by decide)) ?_
            refine qryc ?_ EqP.nil
            unfold a_on
            try simp only [Int.toNat_natCast]
            try rw [hwb, Int.toNat_natCast]
            try rw [hk, Int.toNat_natCast]
            first | (exfalso; omega) | (rw [if_pos (by omega)] <;> rfl) | (rw [if_neg (by omega), if_pos (by omega)] <;> rfl) | (rw [if_neg (by omega)] <;> rfl) | (rw [if_neg (by omega), if_neg (by omega), if_pos (by omega)] <;> rfl) | (rw [if_neg (by omega), if_neg (by omega)] <;> rfl) | (rw [if_neg (by omega), if_neg (by omega), if_neg (by omega), if_pos (by omega)] <;> rfl) | (rw [if_neg (by omega), if_neg (by omega), if_neg (by omega)] <;> rfl) | (rw [if_neg (by omega), if_neg (by omega), if_neg (by omega), if_neg (by omega), if_pos (by omega)] <;> rfl) | (rw [if_neg (by omega), if_neg (by omega), if_neg (by omega), if_neg (by omega)] <;> rfl) | (rw [if_neg (by omega), if_neg (by omega), if_neg (by omega), if_neg (by omega), if_neg (by omega), if_pos (by omega)] <;> rfl) | (rw [if_neg (by omega), if_neg (by omega), if_neg (by omega), if_neg (by omega), if_neg (by omega)] <;> rfl) | (rw [if_neg (by omega), if_neg (by omega), if_neg (by omega), if_neg (by omega), if_neg (by omega), if_neg (by omega), if_pos (by omega)] <;> rfl) | (rw [if_neg (by omega), if_neg (by omega), if_neg (by omega), if_neg (by omega), if_neg (by omega), if_neg (by omega)] <;> rfl)
    · refine E_load rfl rfl rfl ?_
      refine E_load rfl rfl rfl ?_
      refine E_const rfl ?_
      refine E_sub rfl ?_
      refine E_V1 (q := 0) (c := 11) (y := 119) rfl rfl (hL.lt 0 rfl) (hL.k 0 rfl) rfl rfl rfl rfl (c_isG hL hR hG (by omega)) (fun r h2 hq => ?_)
      obtain ⟨rfl, hh⟩ := hq
      subst hh
      refine E_if0 rfl (bI_R _) (fun q10 => ?_) (fun q10 => ?_)
      · replace q10 := bI_z q10
        refine E_const rfl ?_
        refine E_store rfl rfl rfl ?_
        refine E_load rfl rfl rfl ?_
        refine E_if1 rfl (bI_R _) (fun q11 => ?_) (fun q11 => ?_)
        · replace q11 := bI_nz q11
          refine E_load rfl rfl rfl ?_
          refine E_const rfl ?_
          refine E_const rfl ?_
          refine E_S3 (y := 111) rfl rfl rfl rfl rfl (c_within (by omega) (by omega) (by omega)) (fun r h2 hq => ?_)
          obtain ⟨rfl, hh⟩ := hq
          subst hh
          refine E_if1 rfl (bI_R _) (fun q12 => ?_) (fun q12 => ?_)
          · replace q12 := bI_nz q12
            obtain ⟨m, rfl⟩ := Int.eq_ofNat_of_zero_le q12.1
            have hG2 := hG.goN m
            have h36m := goN_hi hG (k := 36) (by omega) m
            refine E_load rfl rfl rfl ?_
            refine E_null0 rfl (fun q13 => ?_) (fun q13 => ?_)
            · refine E_load rfl rfl rfl ?_
              refine E_if1 rfl (by omega) (fun q14 => ?_) (fun q14 => ?_)
              · refine E_load rfl rfl rfl ?_
                refine E_getr (c := 11) (r := 7) rfl (hL.lt 0 rfl) (hL.k 0 rfl) rfl (hR.C.g 0 2 7 (by decide)) ?_
                refine E_load rfl rfl rfl ?_
                refine E_getr (c := 11) (r := 4) rfl (hL.lt 0 rfl) (hL.k 0 rfl) rfl (hR.C.g 0 1 4 (by decide)) ?_
                refine E_V1 (q := 7) (c := 8) (y := 63) rfl rfl (hL.lt 7 rfl) (hL.k 7 rfl) rfl rfl rfl rfl (s_copyFrom (sh7 hL hR.C) (by decide) (by decide) (sh4 hL hR.C) (by omega)) (fun r h2 hq => ?_)
                obtain ⟨rfl, c_4, hh, hC3_4, hC8_4, hE0_4⟩ := hq
                subst hh
                have hE_4 : EqP (ScrP B (s 29)) c c_4 := hE0_4.mono (fun a k e => Or.inl (by unfold fixS; omega))
                have hR_4 := hR.scr hE_4
                have hM_4 : MoodR (c_4 7 3) (c_4 8) s := ⟨hC3_4.trans hR.mood.1, fun j hj => (hC8_4 j (by omega)).trans (hR.mood.2 j hj)⟩
                refine E_load rfl rfl rfl ?_
                refine E_load rfl rfl rfl ?_
                refine E_getr (c := 11) (r := 7) rfl (hL.lt 0 rfl) (hL.k 0 rfl) rfl (hR_4.C.g 0 2 7 (by decide)) ?_
                refine E_load rfl rfl rfl ?_
                refine E_V2 (q := 0) (c := 11) (y := 128) rfl rfl (hL.lt 0 rfl) (hL.k 0 rfl) rfl rfl rfl rfl (c_calmD (m := m) hL hR_4 hG (sh7 hL hR_4.C) hM_4 (by omega)) (fun r h2 hq => ?_)
                obtain ⟨rfl, c_5, hh, hM_5, hE0_5⟩ := hq
                subst hh
                have hE_5 : EqP (ScrP B (s 29)) c_4 c_5 := hE0_5.mono (fun a k e => Or.inl (by unfold fixS; omega))
                have hR_5 := hR_4.scr hE_5
                refine E_load rfl rfl rfl ?_
                refine E_if0 rfl (by omega) (fun q15 => ?_) (fun q15 => ?_)
                · refine E_load rfl rfl rfl ?_
                  refine E_getr (c := 11) (r := 7) rfl (hL.lt 0 rfl) (hL.k 0 rfl) rfl (hR_5.C.g 0 2 7 (by decide)) ?_
                  refine E_S1 (y := 117) rfl rfl rfl rfl rfl (c_sum (sh7 hL hR_5.C) hM_5 (by omega)) (fun r h2 hq => ?_)
                  obtain ⟨rfl, hh⟩ := hq
                  subst hh
                  refine E_iret rfl (fun h => absurd h (by decide)) ?_
                  refine qryc ?_ (hE_4.trans hE_5)
                  unfold a_on
                  try simp only [Int.toNat_natCast]
                  try rw [hwb, Int.toNat_natCast]
                  try rw [hk, Int.toNat_natCast]
                  first | (exfalso; omega) | (rw [if_pos (by omega)] <;> rfl) | (rw [if_neg (by omega), if_pos (by omega)] <;> rfl) | (rw [if_neg (by omega)] <;> rfl) | (rw [if_neg (by omega), if_neg (by omega), if_pos (by omega)] <;> rfl) | (rw [if_neg (by omega), if_neg (by omega)] <;> rfl) | (rw [if_neg (by omega), if_neg (by omega), if_neg (by omega), if_pos (by omega)] <;> rfl) | (rw [if_neg (by omega), if_neg (by omega), if_neg (by omega)] <;> rfl) | (rw [if_neg (by omega), if_neg (by omega), if_neg (by omega), if_neg (by omega), if_pos (by omega)] <;> rfl) | (rw [if_neg (by omega), if_neg (by omega), if_neg (by omega), if_neg (by omega)] <;> rfl) | (rw [if_neg (by omega), if_neg (by omega), if_neg (by omega), if_neg (by omega), if_neg (by omega), if_pos (by omega)] <;> rfl) | (rw [if_neg (by omega), if_neg (by omega), if_neg (by omega), if_neg (by omega), if_neg (by omega)] <;> rfl) | (rw [if_neg (by omega), if_neg (by omega), if_neg (by omega), if_neg (by omega), if_neg (by omega), if_neg (by omega), if_pos (by omega)] <;> rfl) | (rw [if_neg (by omega), if_neg (by omega), if_neg (by omega), if_neg (by omega), if_neg (by omega), if_neg (by omega)] <;> rfl)
                · exfalso; omega
              · refine E_load rfl rfl rfl ?_
                refine E_load rfl rfl rfl ?_
                refine E_V1 (q := 0) (c := 11) (y := 123) rfl rfl (hL.lt 0 rfl) (hL.k 0 rfl) rfl rfl rfl rfl (c_allSay hL hR hG (m := m) (by omega)) (fun r h2 hq => ?_)
                obtain ⟨rfl, c_6, hh, hE_6⟩ := hq
                subst hh
                have hR_6 := hR.scr hE_6
                refine E_iret rfl (fun h => absurd h (by decide)) ?_
                refine qryc ?_ hE_6
                unfold a_on
                try simp only [Int.toNat_natCast]
                try rw [hwb, Int.toNat_natCast]
                try rw [hk, Int.toNat_natCast]
                first | (exfalso; omega) | (rw [if_pos (by omega)] <;> rfl) | (rw [if_neg (by omega), if_pos (by omega)] <;> rfl) | (rw [if_neg (by omega)] <;> rfl) | (rw [if_neg (by omega), if_neg (by omega), if_pos (by omega)] <;> rfl) | (rw [if_neg (by omega), if_neg (by omega)] <;> rfl) | (rw [if_neg (by omega), if_neg (by omega), if_neg (by omega), if_pos (by omega)] <;> rfl) | (rw [if_neg (by omega), if_neg (by omega), if_neg (by omega)] <;> rfl) | (rw [if_neg (by omega), if_neg (by omega), if_neg (by omega), if_neg (by omega), if_pos (by omega)] <;> rfl) | (rw [if_neg (by omega), if_neg (by omega), if_neg (by omega), if_neg (by omega)] <;> rfl) | (rw [if_neg (by omega), if_neg (by omega), if_neg (by omega), if_neg (by omega), if_neg (by omega), if_pos (by omega)] <;> rfl) | (rw [if_neg (by omega), if_neg (by omega), if_neg (by omega), if_neg (by omega), if_neg (by omega)] <;> rfl) | (rw [if_neg (by omega), if_neg (by omega), if_neg (by omega), if_neg (by omega), if_neg (by omega), if_neg (by omega), if_pos (by omega)] <;> rfl) | (rw [if_neg (by omega), if_neg (by omega), if_neg (by omega), if_neg (by omega), if_neg (by omega), if_neg (by omega)] <;> rfl)
            · exfalso; omega
          · replace q12 := bI_z q12
            refine E_const rfl ?_
            refine E_iret rfl (fun h => absurd h (by decide)) ?_
            refine qryc ?_ EqP.nil
            unfold a_on
            try simp only [Int.toNat_natCast]
            try rw [hwb, Int.toNat_natCast]
            try rw [hk, Int.toNat_natCast]
            first | (exfalso; omega) | (rw [if_pos (by omega)] <;> rfl) | (rw [if_neg (by omega), if_pos (by omega)] <;> rfl) | (rw [if_neg (by omega)] <;> rfl) | (rw [if_neg (by omega), if_neg (by omega), if_pos (by omega)] <;> rfl) | (rw [if_neg (by omega), if_neg (by omega)] <;> rfl) | (rw [if_neg (by omega), if_neg (by omega), if_neg (by omega), if_pos (by omega)] <;> rfl) | (rw [if_neg (by omega), if_neg (by omega), if_neg (by omega)] <;> rfl) | (rw [if_neg (by omega), if_neg (by omega), if_neg (by omega), if_neg (by omega), if_pos (by omega)] <;> rfl) | (rw [if_neg (by omega), if_neg (by omega), if_neg (by omega), if_neg (by omega)] <;> rfl) | (rw [if_neg (by omega), if_neg (by omega), if_neg (by omega), if_neg (by omega), if_neg (by omega), if_pos (by omega)] <;> rfl) | (rw [if_neg (by omega), if_neg (by omega), if_neg (by omega), if_neg (by omega), if_neg (by omega)] <;> rfl) | (rw [if_neg (by omega), if_neg (by omega), if_neg (by omega), if_neg (by omega), if_neg (by omega), if_neg (by omega), if_pos (by omega)] <;> rfl) | (rw [if_neg (by omega), if_neg (by omega), if_neg (by omega), if_neg (by omega), if_neg (by omega), if_neg (by omega)] <;> rfl)
        · replace q11 := bI_z q11
          refine E_load rfl rfl rfl ?_
          refine E_null1 rfl (fun q16 => ?_) (fun q16 => ?_)
          · exfalso; omega
          · refine E_load rfl rfl rfl ?_
            refine E_if1 rfl (by omega) (fun q17 => ?_) (fun q17 => ?_)
            · exfalso; omega
            · refine E_const rfl ?_
              refine E_iret rfl (fun h => absurd h (by decide)) ?_
              refine qryc ?_ EqP.nil
              unfold a_on
              try simp only [Int.toNat_natCast]
              try rw [hwb, Int.toNat_natCast]
              try rw [hk, Int.toNat_natCast]
              first | (exfalso; omega) | (rw [if_pos (by omega)] <;> rfl) | (rw [if_neg (by omega), if_pos (by omega)] <;> rfl) | (rw [if_neg (by omega)] <;> rfl) | (rw [if_neg (by omega), if_neg (by omega), if_pos (by omega)] <;> rfl) | (rw [if_neg (by omega), if_neg (by omega)] <;> rfl) | (rw [if_neg (by omega), if_neg (by omega), if_neg (by omega), if_pos (by omega)] <;> rfl) | (rw [if_neg (by omega), if_neg (by omega), if_neg (by omega)] <;> rfl) | (rw [if_neg (by omega), if_neg (by omega), if_neg (by omega), if_neg (by omega), if_pos (by omega)] <;> rfl) | (rw [if_neg (by omega), if_neg (by omega), if_neg (by omega), if_neg (by omega)] <;> rfl) | (rw [if_neg (by omega), if_neg (by omega), if_neg (by omega), if_neg (by omega), if_neg (by omega), if_pos (by omega)] <;> rfl) | (rw [if_neg (by omega), if_neg (by omega), if_neg (by omega), if_neg (by omega), if_neg (by omega)] <;> rfl) | (rw [if_neg (by omega), if_neg (by omega), if_neg (by omega), if_neg (by omega), if_neg (by omega), if_neg (by omega), if_pos (by omega)] <;> rfl) | (rw [if_neg (by omega), if_neg (by omega), if_neg (by omega), if_neg (by omega), if_neg (by omega), if_neg (by omega)] <;> rfl)
      · replace q10 := bI_nz q10
        refine E_const rfl ?_
        refine E_goto rfl ?_
        refine E_store rfl rfl rfl ?_
        refine E_load rfl rfl rfl ?_
        refine E_if1 rfl (bI_R _) (fun q18 => ?_) (fun q18 => ?_)
        · replace q18 := bI_nz q18
          refine E_load rfl rfl rfl ?_
          refine E_const rfl ?_
          refine E_const rfl ?_
          refine E_S3 (y := 111) rfl rfl rfl rfl rfl (c_within (by omega) (by omega) (by omega)) (fun r h2 hq => ?_)
          obtain ⟨rfl, hh⟩ := hq
          subst hh
          refine E_if1 rfl (bI_R _) (fun q19 => ?_) (fun q19 => ?_)
          · replace q19 := bI_nz q19
            obtain ⟨m, rfl⟩ := Int.eq_ofNat_of_zero_le q19.1
            have hG2 := hG.goN m
            have h36m := goN_hi hG (k := 36) (by omega) m
            refine E_load rfl rfl rfl ?_
            refine E_null0 rfl (fun q20 => ?_) (fun q20 => ?_)
            · refine E_load rfl rfl rfl ?_
              refine E_if1 rfl (by omega) (fun q21 => ?_) (fun q21 => ?_)
              · refine E_load rfl rfl rfl ?_
                refine E_getr (c := 11) (r := 7) rfl (hL.lt 0 rfl) (hL.k 0 rfl) rfl (hR.C.g 0 2 7 (by decide)) ?_
                refine E_load rfl rfl rfl ?_
                refine E_getr (c := 11) (r := 4) rfl (hL.lt 0 rfl) (hL.k 0 rfl) rfl (hR.C.g 0 1 4 (by decide)) ?_
                refine E_V1 (q := 7) (c := 8) (y := 63) rfl rfl (hL.lt 7 rfl) (hL.k 7 rfl) rfl rfl rfl rfl (s_copyFrom (sh7 hL hR.C) (by decide) (by decide) (sh4 hL hR.C) (by omega)) (fun r h2 hq => ?_)
                obtain ⟨rfl, c_7, hh, hC3_7, hC8_7, hE0_7⟩ := hq
                subst hh
                have hE_7 : EqP (ScrP B (s 29)) c c_7 := hE0_7.mono (fun a k e => Or.inl (by unfold fixS; omega))
                have hR_7 := hR.scr hE_7
                have hM_7 : MoodR (c_7 7 3) (c_7 8) s := ⟨hC3_7.trans hR.mood.1, fun j hj => (hC8_7 j (by omega)).trans (hR.mood.2 j hj)⟩
                refine E_load rfl rfl rfl ?_
                refine E_load rfl rfl rfl ?_
                refine E_getr (c := 11) (r := 7) rfl (hL.lt 0 rfl) (hL.k 0 rfl) rfl (hR_7.C.g 0 2 7 (by decide)) ?_
                refine E_load rfl rfl rfl ?_
                refine E_V2 (q := 0) (c := 11) (y := 128) rfl rfl (hL.lt 0 rfl) (hL.k 0 rfl) rfl rfl rfl rfl (c_calmD (m := m) hL hR_7 hG (sh7 hL hR_7.C) hM_7 (by omega)) (fun r h2 hq => ?_)
                obtain ⟨rfl, c_8, hh, hM_8, hE0_8⟩ := hq
                subst hh
                have hE_8 : EqP (ScrP B (s 29)) c_7 c_8 := hE0_8.mono (fun a k e => Or.inl (by unfold fixS; omega))
                have hR_8 := hR_7.scr hE_8
                refine E_load rfl rfl rfl ?_
                refine E_if0 rfl (by omega) (fun q22 => ?_) (fun q22 => ?_)
                · exfalso; omega
                · refine E_load rfl rfl rfl ?_
                  refine E_getr (c := 11) (r := 7) rfl (hL.lt 0 rfl) (hL.k 0 rfl) rfl (hR_8.C.g 0 2 7 (by decide)) ?_
                  refine E_load rfl rfl rfl ?_
                  refine E_const rfl ?_
                  obtain ⟨k, hk⟩ := Int.eq_ofNat_of_zero_le (show 0 ≤ w - 20 by omega)
                  refine E_sub rfl ?_
                  rw [hk]
                  refine E_const rfl ?_
                  refine E_V2 (q := 7) (c := 8) (y := 60) rfl rfl (hL.lt 7 rfl) (hL.k 7 rfl) rfl rfl rfl rfl (s_atv (v := goN s m (25 + k)) (sh7 hL hR_8.C) (by decide) (by decide) (by omega) (by omega) (by rw [hM_8.1]; omega) (by rw [hM_8.1]; omega) (atM (by rw [hM_8.1]; omega) (hM_8.2 k (by omega)))) (fun r h2 hq => ?_)
                  obtain ⟨rfl, hh⟩ := hq
                  subst hh
                  refine E_goto rfl ?_
                  refine E_iret rfl (fun h => absurd h (by decide)) ?_
                  refine qryc ?_ (hE_7.trans hE_8)
                  unfold a_on
                  try simp only [Int.toNat_natCast]
                  try rw [hwb, Int.toNat_natCast]
                  try rw [hk, Int.toNat_natCast]
                  first | (exfalso; omega) | (rw [if_pos (by omega)] <;> rfl) | (rw [if_neg (by omega), if_pos (by omega)] <;> rfl) | (rw [if_neg (by omega)] <;> rfl) | (rw [if_neg (by omega), if_neg (by omega), if_pos (by omega)] <;> rfl) | (rw [if_neg (by omega), if_neg (by omega)] <;> rfl) | (rw [if_neg (by omega), if_neg (by omega), if_neg (by omega), if_pos (by omega)] <;> rfl) | (rw [if_neg (by omega), if_neg (by omega), if_neg (by omega)] <;> rfl) | (rw [if_neg (by omega), if_neg (by omega), if_neg (by omega), if_neg (by omega), if_pos (by omega)] <;> rfl) | (rw [if_neg (by omega), if_neg (by omega), if_neg (by omega), if_neg (by omega)] <;> rfl) | (rw [if_neg (by omega), if_neg (by omega), if_neg (by omega), if_neg (by omega), if_neg (by omega), if_pos (by omega)] <;> rfl) | (rw [if_neg (by omega), if_neg (by omega), if_neg (by omega), if_neg (by omega), if_neg (by omega)] <;> rfl) | (rw [if_neg (by omega), if_neg (by omega), if_neg (by omega), if_neg (by omega), if_neg (by omega), if_neg (by omega), if_pos (by omega)] <;> rfl) | (rw [if_neg (by omega), if_neg (by omega), if_neg (by omega), if_neg (by omega), if_neg (by omega), if_neg (by omega)] <;> rfl)
              · refine E_load rfl rfl rfl ?_
                refine E_load rfl rfl rfl ?_
                refine E_V1 (q := 0) (c := 11) (y := 123) rfl rfl (hL.lt 0 rfl) (hL.k 0 rfl) rfl rfl rfl rfl (c_allSay hL hR hG (m := m) (by omega)) (fun r h2 hq => ?_)
                obtain ⟨rfl, c_9, hh, hE_9⟩ := hq
                subst hh
                have hR_9 := hR.scr hE_9
                refine E_iret rfl (fun h => absurd h (by decide)) ?_
                refine qryc ?_ hE_9
                unfold a_on
                try simp only [Int.toNat_natCast]
                try rw [hwb, Int.toNat_natCast]
                try rw [hk, Int.toNat_natCast]
                first | (exfalso; omega) | (rw [if_pos (by omega)] <;> rfl) | (rw [if_neg (by omega), if_pos (by omega)] <;> rfl) | (rw [if_neg (by omega)] <;> rfl) | (rw [if_neg (by omega), if_neg (by omega), if_pos (by omega)] <;> rfl) | (rw [if_neg (by omega), if_neg (by omega)] <;> rfl) | (rw [if_neg (by omega), if_neg (by omega), if_neg (by omega), if_pos (by omega)] <;> rfl) | (rw [if_neg (by omega), if_neg (by omega), if_neg (by omega)] <;> rfl) | (rw [if_neg (by omega), if_neg (by omega), if_neg (by omega), if_neg (by omega), if_pos (by omega)] <;> rfl) | (rw [if_neg (by omega), if_neg (by omega), if_neg (by omega), if_neg (by omega)] <;> rfl) | (rw [if_neg (by omega), if_neg (by omega), if_neg (by omega), if_neg (by omega), if_neg (by omega), if_pos (by omega)] <;> rfl) | (rw [if_neg (by omega), if_neg (by omega), if_neg (by omega), if_neg (by omega), if_neg (by omega)] <;> rfl) | (rw [if_neg (by omega), if_neg (by omega), if_neg (by omega), if_neg (by omega), if_neg (by omega), if_neg (by omega), if_pos (by omega)] <;> rfl) | (rw [if_neg (by omega), if_neg (by omega), if_neg (by omega), if_neg (by omega), if_neg (by omega), if_neg (by omega)] <;> rfl)
            · exfalso; omega
          · replace q19 := bI_z q19
            refine E_const rfl ?_
            refine E_iret rfl (fun h => absurd h (by decide)) ?_
            refine qryc ?_ EqP.nil
            unfold a_on
            try simp only [Int.toNat_natCast]
            try rw [hwb, Int.toNat_natCast]
            try rw [hk, Int.toNat_natCast]
            first | (exfalso; omega) | (rw [if_pos (by omega)] <;> rfl) | (rw [if_neg (by omega), if_pos (by omega)] <;> rfl) | (rw [if_neg (by omega)] <;> rfl) | (rw [if_neg (by omega), if_neg (by omega), if_pos (by omega)] <;> rfl) | (rw [if_neg (by omega), if_neg (by omega)] <;> rfl) | (rw [if_neg (by omega), if_neg (by omega), if_neg (by omega), if_pos (by omega)] <;> rfl) | (rw [if_neg (by omega), if_neg (by omega), if_neg (by omega)] <;> rfl) | (rw [if_neg (by omega), if_neg (by omega), if_neg (by omega), if_neg (by omega), if_pos (by omega)] <;> rfl) | (rw [if_neg (by omega), if_neg (by omega), if_neg (by omega), if_neg (by omega)] <;> rfl) | (rw [if_neg (by omega), if_neg (by omega), if_neg (by omega), if_neg (by omega), if_neg (by omega), if_pos (by omega)] <;> rfl) | (rw [if_neg (by omega), if_neg (by omega), if_neg (by omega), if_neg (by omega), if_neg (by omega)] <;> rfl) | (rw [if_neg (by omega), if_neg (by omega), if_neg (by omega), if_neg (by omega), if_neg (by omega), if_neg (by omega), if_pos (by omega)] <;> rfl) | (rw [if_neg (by omega), if_neg (by omega), if_neg (by omega), if_neg (by omega), if_neg (by omega), if_neg (by omega)] <;> rfl)
        · replace q18 := bI_z q18
          refine E_load rfl rfl rfl ?_
          refine E_null1 rfl (fun q23 => ?_) (fun q23 => ?_)
          · exfalso; omega
          · refine E_load rfl rfl rfl ?_
            refine E_if1 rfl (by omega) (fun q24 => ?_) (fun q24 => ?_)
            · refine E_load rfl rfl rfl ?_
              refine E_const rfl ?_
              refine E_const rfl ?_
              refine E_S3 (y := 111) rfl rfl rfl rfl rfl (c_within (by omega) (by omega) (by omega)) (fun r h2 hq => ?_)
              obtain ⟨rfl, hh⟩ := hq
              subst hh
              refine E_if1 rfl (bI_R _) (fun q25 => ?_) (fun q25 => ?_)
              · replace q25 := bI_nz q25
                obtain ⟨m, rfl⟩ := Int.eq_ofNat_of_zero_le q25.1
                have hG2 := hG.goN m
                have h36m := goN_hi hG (k := 36) (by omega) m
                refine E_load rfl rfl rfl ?_
                refine E_null0 rfl (fun q26 => ?_) (fun q26 => ?_)
                · refine E_load rfl rfl rfl ?_
                  refine E_if1 rfl (by omega) (fun q27 => ?_) (fun q27 => ?_)
                  · refine E_load rfl rfl rfl ?_
                    refine E_getr (c := 11) (r := 7) rfl (hL.lt 0 rfl) (hL.k 0 rfl) rfl (hR.C.g 0 2 7 (by decide)) ?_
                    refine E_load rfl rfl rfl ?_
                    refine E_getr (c := 11) (r := 4) rfl (hL.lt 0 rfl) (hL.k 0 rfl) rfl (hR.C.g 0 1 4 (by decide)) ?_
                    refine E_V1 (q := 7) (c := 8) (y := 63) rfl rfl (hL.lt 7 rfl) (hL.k 7 rfl) rfl rfl rfl rfl (s_copyFrom (sh7 hL hR.C) (by decide) (by decide) (sh4 hL hR.C) (by omega)) (fun r h2 hq => ?_)
                    obtain ⟨rfl, c_10, hh, hC3_10, hC8_10, hE0_10⟩ := hq
                    subst hh
                    have hE_10 : EqP (ScrP B (s 29)) c c_10 := hE0_10.mono (fun a k e => Or.inl (by unfold fixS; omega))
                    have hR_10 := hR.scr hE_10
                    have hM_10 : MoodR (c_10 7 3) (c_10 8) s := ⟨hC3_10.trans hR.mood.1, fun j hj => (hC8_10 j (by omega)).trans (hR.mood.2 j hj)⟩
                    refine E_load rfl rfl rfl ?_
                    refine E_load rfl rfl rfl ?_
                    refine E_getr (c := 11) (r := 7) rfl (hL.lt 0 rfl) (hL.k 0 rfl) rfl (hR_10.C.g 0 2 7 (by decide)) ?_
                    refine E_load rfl rfl rfl ?_
                    refine E_V2 (q := 0) (c := 11) (y := 128) rfl rfl (hL.lt 0 rfl) (hL.k 0 rfl) rfl rfl rfl rfl (c_calmD (m := m) hL hR_10 hG (sh7 hL hR_10.C) hM_10 (by omega)) (fun r h2 hq => ?_)
                    obtain ⟨rfl, c_11, hh, hM_11, hE0_11⟩ := hq
                    subst hh
                    have hE_11 : EqP (ScrP B (s 29)) c_10 c_11 := hE0_11.mono (fun a k e => Or.inl (by unfold fixS; omega))
                    have hR_11 := hR_10.scr hE_11
                    refine E_load rfl rfl rfl ?_
                    refine E_if0 rfl (by omega) (fun q28 => ?_) (fun q28 => ?_)
                    · exfalso; omega
                    · refine E_load rfl rfl rfl ?_
                      refine E_getr (c := 11) (r := 7) rfl (hL.lt 0 rfl) (hL.k 0 rfl) rfl (hR_11.C.g 0 2 7 (by decide)) ?_
                      refine E_load rfl rfl rfl ?_
                      refine E_const rfl ?_
                      obtain ⟨k, hk⟩ := Int.eq_ofNat_of_zero_le (show 0 ≤ w - 20 by omega)
                      refine E_sub rfl ?_
                      rw [hk]
                      refine E_const rfl ?_
                      refine E_V2 (q := 7) (c := 8) (y := 60) rfl rfl (hL.lt 7 rfl) (hL.k 7 rfl) rfl rfl rfl rfl (s_atv (v := goN s m (25 + k)) (sh7 hL hR_11.C) (by decide) (by decide) (by omega) (by omega) (by rw [hM_11.1]; omega) (by rw [hM_11.1]; omega) (atM (by rw [hM_11.1]; omega) (hM_11.2 k (by omega)))) (fun r h2 hq => ?_)
                      obtain ⟨rfl, hh⟩ := hq
                      subst hh
                      refine E_goto rfl ?_
                      refine E_iret rfl (fun h => absurd h (by decide)) ?_
                      refine qryc ?_ (hE_10.trans hE_11)
                      unfold a_on
                      try simp only [Int.toNat_natCast]
                      try rw [hwb, Int.toNat_natCast]
                      try rw [hk, Int.toNat_natCast]
                      first | (exfalso; omega) | (rw [if_pos (by omega)] <;> rfl) | (rw [if_neg (by omega), if_pos (by omega)] <;> rfl) | (rw [if_neg (by omega)] <;> rfl) | (rw [if_neg (by omega), if_neg (by omega), if_pos (by omega)] <;> rfl) | (rw [if_neg (by omega), if_neg (by omega)] <;> rfl) | (rw [if_neg (by omega), if_neg (by omega), if_neg (by omega), if_pos (by omega)] <;> rfl) | (rw [if_neg (by omega), if_neg (by omega), if_neg (by omega)] <;> rfl) | (rw [if_neg (by omega), if_neg (by omega), if_neg (by omega), if_neg (by omega), if_pos (by omega)] <;> rfl) | (rw [if_neg (by omega), if_neg (by omega), if_neg (by omega), if_neg (by omega)] <;> rfl) | (rw [if_neg (by omega), if_neg (by omega), if_neg (by omega), if_neg (by omega), if_neg (by omega), if_pos (by omega)] <;> rfl) | (rw [if_neg (by omega), if_neg (by omega), if_neg (by omega), if_neg (by omega), if_neg (by omega)] <;> rfl) | (rw [if_neg (by omega), if_neg (by omega), if_neg (by omega), if_neg (by omega), if_neg (by omega), if_neg (by omega), if_pos (by omega)] <;> rfl) | (rw [if_neg (by omega), if_neg (by omega), if_neg (by omega), if_neg (by omega), if_neg (by omega), if_neg (by omega)] <;> rfl)
                  · refine E_load rfl rfl rfl ?_
                    refine E_load rfl rfl rfl ?_
                    refine E_V1 (q := 0) (c := 11) (y := 123) rfl rfl (hL.lt 0 rfl) (hL.k 0 rfl) rfl rfl rfl rfl (c_allSay hL hR hG (m := m) (by omega)) (fun r h2 hq => ?_)
                    obtain ⟨rfl, c_12, hh, hE_12⟩ := hq
                    subst hh
                    have hR_12 := hR.scr hE_12
                    refine E_iret rfl (fun h => absurd h (by decide)) ?_
                    refine qryc ?_ hE_12
                    unfold a_on
                    try simp only [Int.toNat_natCast]
                    try rw [hwb, Int.toNat_natCast]
                    try rw [hk, Int.toNat_natCast]
                    first | (exfalso; omega) | (rw [if_pos (by omega)] <;> rfl) | (rw [if_neg (by omega), if_pos (by omega)] <;> rfl) | (rw [if_neg (by omega)] <;> rfl) | (rw [if_neg (by omega), if_neg (by omega), if_pos (by omega)] <;> rfl) | (rw [if_neg (by omega), if_neg (by omega)] <;> rfl) | (rw [if_neg (by omega), if_neg (by omega), if_neg (by omega), if_pos (by omega)] <;> rfl) | (rw [if_neg (by omega), if_neg (by omega), if_neg (by omega)] <;> rfl) | (rw [if_neg (by omega), if_neg (by omega), if_neg (by omega), if_neg (by omega), if_pos (by omega)] <;> rfl) | (rw [if_neg (by omega), if_neg (by omega), if_neg (by omega), if_neg (by omega)] <;> rfl) | (rw [if_neg (by omega), if_neg (by omega), if_neg (by omega), if_neg (by omega), if_neg (by omega), if_pos (by omega)] <;> rfl) | (rw [if_neg (by omega), if_neg (by omega), if_neg (by omega), if_neg (by omega), if_neg (by omega)] <;> rfl) | (rw [if_neg (by omega), if_neg (by omega), if_neg (by omega), if_neg (by omega), if_neg (by omega), if_neg (by omega), if_pos (by omega)] <;> rfl) | (rw [if_neg (by omega), if_neg (by omega), if_neg (by omega), if_neg (by omega), if_neg (by omega), if_neg (by omega)] <;> rfl)
                · exfalso; omega
              · replace q25 := bI_z q25
                refine E_const rfl ?_
                refine E_iret rfl (fun h => absurd h (by decide)) ?_
                refine qryc ?_ EqP.nil
                unfold a_on
                try simp only [Int.toNat_natCast]
                try rw [hwb, Int.toNat_natCast]
                try rw [hk, Int.toNat_natCast]
                first | (exfalso; omega) | (rw [if_pos (by omega)] <;> rfl) | (rw [if_neg (by omega), if_pos (by omega)] <;> rfl) | (rw [if_neg (by omega)] <;> rfl) | (rw [if_neg (by omega), if_neg (by omega), if_pos (by omega)] <;> rfl) | (rw [if_neg (by omega), if_neg (by omega)] <;> rfl) | (rw [if_neg (by omega), if_neg (by omega), if_neg (by omega), if_pos (by omega)] <;> rfl) | (rw [if_neg (by omega), if_neg (by omega), if_neg (by omega)] <;> rfl) | (rw [if_neg (by omega), if_neg (by omega), if_neg (by omega), if_neg (by omega), if_pos (by omega)] <;> rfl) | (rw [if_neg (by omega), if_neg (by omega), if_neg (by omega), if_neg (by omega)] <;> rfl) | (rw [if_neg (by omega), if_neg (by omega), if_neg (by omega), if_neg (by omega), if_neg (by omega), if_pos (by omega)] <;> rfl) | (rw [if_neg (by omega), if_neg (by omega), if_neg (by omega), if_neg (by omega), if_neg (by omega)] <;> rfl) | (rw [if_neg (by omega), if_neg (by omega), if_neg (by omega), if_neg (by omega), if_neg (by omega), if_neg (by omega), if_pos (by omega)] <;> rfl) | (rw [if_neg (by omega), if_neg (by omega), if_neg (by omega), if_neg (by omega), if_neg (by omega), if_neg (by omega)] <;> rfl)
            · exfalso; omega
  · refine E_load rfl rfl rfl ?_
    refine E_load rfl rfl rfl ?_
    refine E_const rfl ?_
    refine E_sub rfl ?_
    rcases Classical.em (0 ≤ w - 10 ∧ w - 10 < s 29) with hb | hb
    · obtain ⟨b, hwb⟩ := Int.eq_ofNat_of_zero_le hb.1
      rw [hwb]
      refine E_V1 (q := 0) (c := 11) (y := 120) rfl rfl (hL.lt 0 rfl) (hL.k 0 rfl) rfl rfl rfl rfl (c_bY hL hR (b := b) (by omega)) (fun r h2 hq => ?_)
      obtain ⟨rfl, hh⟩ := hq
      subst hh
      refine E_goto rfl ?_
      refine E_store rfl rfl rfl ?_
      refine E_load rfl rfl rfl ?_
      refine E_const rfl ?_
      refine E_cmp2 rfl (by omega) (fun q29 => ?_) (fun q29 => ?_)
      · refine E_const rfl ?_
        refine E_store rfl rfl rfl ?_
        refine E_load rfl rfl rfl ?_
        refine E_if1 rfl (bI_R _) (fun q30 => ?_) (fun q30 => ?_)
        · replace q30 := bI_nz q30
          refine E_load rfl rfl rfl ?_
          refine E_const rfl ?_
          refine E_const rfl ?_
          refine E_S3 (y := 111) rfl rfl rfl rfl rfl (c_within (by omega) (by omega) (by omega)) (fun r h2 hq => ?_)
          obtain ⟨rfl, hh⟩ := hq
          subst hh
          refine E_if1 rfl (bI_R _) (fun q31 => ?_) (fun q31 => ?_)
          · replace q31 := bI_nz q31
            obtain ⟨m, rfl⟩ := Int.eq_ofNat_of_zero_le q31.1
            have hG2 := hG.goN m
            have h36m := goN_hi hG (k := 36) (by omega) m
            refine E_load rfl rfl rfl ?_
            refine E_null0 rfl (fun q32 => ?_) (fun q32 => ?_)
            · exfalso; omega
            · refine E_load rfl rfl rfl ?_
              refine E_load rfl rfl rfl ?_
              refine E_load rfl rfl rfl ?_
              refine E_load rfl rfl rfl ?_
              refine E_V1 (q := (B b)) (c := (mK h (B b))) (y := 14) rfl rfl (show (B b) < mN h by have := (hR.bot b (by omega)).1.1.1; omega) rfl (by have e := (hR.bot b (by omega)).1.isB; rcases e with e | e | e | e | e | e | e <;> rw [e] <;> rfl) rfl rfl rfl (c_beh hR hG (b := b) (by omega) (by omega)) (fun r h2 hq => ?_)
              obtain ⟨rfl, c_13, hh, hX_13, hE_13⟩ := hq
              subst hh
              have hR_13 := hR.scr hE_13
              refine E_V2 (q := 0) (c := 11) (y := 122) rfl rfl (hL.lt 0 rfl) (hL.k 0 rfl) rfl rfl rfl rfl (c_sayT hL hR_13 hG (hG.goN m) (b := b) (by omega) hX_13 (fun k hk _ => goN_hi hG hk _) (goN_hi hG (by omega) _)) (fun r h2 hq => ?_)
              obtain ⟨rfl, hh⟩ := hq
              subst hh
              refine E_iret rfl (fun h => absurd h (by decide)) ?_
              refine qryc ?_ hE_13
              unfold a_on
              try simp only [Int.toNat_natCast]
              try rw [hwb, Int.toNat_natCast]
              try rw [hk, Int.toNat_natCast]
              first | (exfalso; omega) | (rw [if_pos (by omega)] <;> rfl) | (rw [if_neg (by omega), if_pos (by omega)] <;> rfl) | (rw [if_neg (by omega)] <;> rfl) | (rw [if_neg (by omega), if_neg (by omega), if_pos (by omega)] <;> rfl) | (rw [if_neg (by omega), if_neg (by omega)] <;> rfl) | (rw [if_neg (by omega), if_neg (by omega), if_neg (by omega), if_pos (by omega)] <;> rfl) | (rw [if_neg (by omega), if_neg (by omega), if_neg (by omega)] <;> rfl) | (rw [if_neg (by omega), if_neg (by omega), if_neg (by omega), if_neg (by omega), if_pos (by omega)] <;> rfl) | (rw [if_neg (by omega), if_neg (by omega), if_neg (by omega), if_neg (by omega)] <;> rfl) | (rw [if_neg (by omega), if_neg (by omega), if_neg (by omega), if_neg (by omega), if_neg (by omega), if_pos (by omega)] <;> rfl) | (rw [if_neg (by omega), if_neg (by omega), if_neg (by omega), if_neg (by omega), if_neg (by omega)] <;> rfl) | (rw [if_neg (by omega), if_neg (by omega), if_neg (by omega), if_neg (by omega), if_neg (by omega), if_neg (by omega), if_pos (by omega)] <;> rfl) | (rw [if_neg (by omega), if_neg (by omega), if_neg (by omega), if_neg (by omega), if_neg (by omega), if_neg (by omega)] <;> rfl)
          · replace q31 := bI_z q31
            refine E_const rfl ?_
            refine E_iret rfl (fun h => absurd h (by decide)) ?_
            refine qryc ?_ EqP.nil
            unfold a_on
            try simp only [Int.toNat_natCast]
            try rw [hwb, Int.toNat_natCast]
            try rw [hk, Int.toNat_natCast]
            first | (exfalso; omega) | (rw [if_pos (by omega)] <;> rfl) | (rw [if_neg (by omega), if_pos (by omega)] <;> rfl) | (rw [if_neg (by omega)] <;> rfl) | (rw [if_neg (by omega), if_neg (by omega), if_pos (by omega)] <;> rfl) | (rw [if_neg (by omega), if_neg (by omega)] <;> rfl) | (rw [if_neg (by omega), if_neg (by omega), if_neg (by omega), if_pos (by omega)] <;> rfl) | (rw [if_neg (by omega), if_neg (by omega), if_neg (by omega)] <;> rfl) | (rw [if_neg (by omega), if_neg (by omega), if_neg (by omega), if_neg (by omega), if_pos (by omega)] <;> rfl) | (rw [if_neg (by omega), if_neg (by omega), if_neg (by omega), if_neg (by omega)] <;> rfl) | (rw [if_neg (by omega), if_neg (by omega), if_neg (by omega), if_neg (by omega), if_neg (by omega), if_pos (by omega)] <;> rfl) | (rw [if_neg (by omega), if_neg (by omega), if_neg (by omega), if_neg (by omega), if_neg (by omega)] <;> rfl) | (rw [if_neg (by omega), if_neg (by omega), if_neg (by omega), if_neg (by omega), if_neg (by omega), if_neg (by omega), if_pos (by omega)] <;> rfl) | (rw [if_neg (by omega), if_neg (by omega), if_neg (by omega), if_neg (by omega), if_neg (by omega), if_neg (by omega)] <;> rfl)
        · replace q30 := bI_z q30
          refine E_load rfl rfl rfl ?_
          refine E_null1 rfl (fun q33 => ?_) (fun q33 => ?_)
          · refine E_load rfl rfl rfl ?_
            refine E_const rfl ?_
            refine E_const rfl ?_
            refine E_S3 (y := 111) rfl rfl rfl rfl rfl (c_within (by omega) (by omega) (by omega)) (fun r h2 hq => ?_)
            obtain ⟨rfl, hh⟩ := hq
            subst hh
            refine E_if1 rfl (bI_R _) (fun q34 => ?_) (fun q34 => ?_)
            · replace q34 := bI_nz q34
              obtain ⟨m, rfl⟩ := Int.eq_ofNat_of_zero_le q34.1
              have hG2 := hG.goN m
              have h36m := goN_hi hG (k := 36) (by omega) m
              refine E_load rfl rfl rfl ?_
              refine E_null0 rfl (fun q35 => ?_) (fun q35 => ?_)
              · exfalso; omega
              · refine E_load rfl rfl rfl ?_
                refine E_load rfl rfl rfl ?_
                refine E_load rfl rfl rfl ?_
                refine E_load rfl rfl rfl ?_
                refine E_V1 (q := (B b)) (c := (mK h (B b))) (y := 14) rfl rfl (show (B b) < mN h by have := (hR.bot b (by omega)).1.1.1; omega) rfl (by have e := (hR.bot b (by omega)).1.isB; rcases e with e | e | e | e | e | e | e <;> rw [e] <;> rfl) rfl rfl rfl (c_beh hR hG (b := b) (by omega) (by omega)) (fun r h2 hq => ?_)
                obtain ⟨rfl, c_14, hh, hX_14, hE_14⟩ := hq
                subst hh
                have hR_14 := hR.scr hE_14
                refine E_V2 (q := 0) (c := 11) (y := 122) rfl rfl (hL.lt 0 rfl) (hL.k 0 rfl) rfl rfl rfl rfl (c_sayT hL hR_14 hG (hG.goN m) (b := b) (by omega) hX_14 (fun k hk _ => goN_hi hG hk _) (goN_hi hG (by omega) _)) (fun r h2 hq => ?_)
                obtain ⟨rfl, hh⟩ := hq
                subst hh
                refine E_iret rfl (fun h => absurd h (by decide)) ?_
                refine qryc ?_ hE_14
                unfold a_on
                try simp only [Int.toNat_natCast]
                try rw [hwb, Int.toNat_natCast]
                try rw [hk, Int.toNat_natCast]
                first | (exfalso; omega) | (rw [if_pos (by omega)] <;> rfl) | (rw [if_neg (by omega), if_pos (by omega)] <;> rfl) | (rw [if_neg (by omega)] <;> rfl) | (rw [if_neg (by omega), if_neg (by omega), if_pos (by omega)] <;> rfl) | (rw [if_neg (by omega), if_neg (by omega)] <;> rfl) | (rw [if_neg (by omega), if_neg (by omega), if_neg (by omega), if_pos (by omega)] <;> rfl) | (rw [if_neg (by omega), if_neg (by omega), if_neg (by omega)] <;> rfl) | (rw [if_neg (by omega), if_neg (by omega), if_neg (by omega), if_neg (by omega), if_pos (by omega)] <;> rfl) | (rw [if_neg (by omega), if_neg (by omega), if_neg (by omega), if_neg (by omega)] <;> rfl) | (rw [if_neg (by omega), if_neg (by omega), if_neg (by omega), if_neg (by omega), if_neg (by omega), if_pos (by omega)] <;> rfl) | (rw [if_neg (by omega), if_neg (by omega), if_neg (by omega), if_neg (by omega), if_neg (by omega)] <;> rfl) | (rw [if_neg (by omega), if_neg (by omega), if_neg (by omega), if_neg (by omega), if_neg (by omega), if_neg (by omega), if_pos (by omega)] <;> rfl) | (rw [if_neg (by omega), if_neg (by omega), if_neg (by omega), if_neg (by omega), if_neg (by omega), if_neg (by omega)] <;> rfl)
            · replace q34 := bI_z q34
              refine E_const rfl ?_
              refine E_iret rfl (fun h => absurd h (by decide)) ?_
              refine qryc ?_ EqP.nil
              unfold a_on
              try simp only [Int.toNat_natCast]
              try rw [hwb, Int.toNat_natCast]
              try rw [hk, Int.toNat_natCast]
              first | (exfalso; omega) | (rw [if_pos (by omega)] <;> rfl) | (rw [if_neg (by omega), if_pos (by omega)] <;> rfl) | (rw [if_neg (by omega)] <;> rfl) | (rw [if_neg (by omega), if_neg (by omega), if_pos (by omega)] <;> rfl) | (rw [if_neg (by omega), if_neg (by omega)] <;> rfl) | (rw [if_neg (by omega), if_neg (by omega), if_neg (by omega), if_pos (by omega)] <;> rfl) | (rw [if_neg (by omega), if_neg (by omega), if_neg (by omega)] <;> rfl) | (rw [if_neg (by omega), if_neg (by omega), if_neg (by omega), if_neg (by omega), if_pos (by omega)] <;> rfl) | (rw [if_neg (by omega), if_neg (by omega), if_neg (by omega), if_neg (by omega)] <;> rfl) | (rw [if_neg (by omega), if_neg (by omega), if_neg (by omega), if_neg (by omega), if_neg (by omega), if_pos (by omega)] <;> rfl) | (rw [if_neg (by omega), if_neg (by omega), if_neg (by omega), if_neg (by omega), if_neg (by omega)] <;> rfl) | (rw [if_neg (by omega), if_neg (by omega), if_neg (by omega), if_neg (by omega), if_neg (by omega), if_neg (by omega), if_pos (by omega)] <;> rfl) | (rw [if_neg (by omega), if_neg (by omega), if_neg (by omega), if_neg (by omega), if_neg (by omega), if_neg (by omega)] <;> rfl)
          · exfalso; omega
      · refine E_load rfl rfl rfl ?_
        refine E_load rfl rfl rfl ?_
        refine E_const rfl ?_
        refine E_sub rfl ?_
        refine E_V1 (q := 0) (c := 11) (y := 119) rfl rfl (hL.lt 0 rfl) (hL.k 0 rfl) rfl rfl rfl rfl (c_isG hL hR hG (by omega)) (fun r h2 hq => ?_)
        obtain ⟨rfl, hh⟩ := hq
        subst hh
        refine E_if0 rfl (bI_R _) (fun q36 => ?_) (fun q36 => ?_)
        · replace q36 := bI_z q36
          refine E_const rfl ?_
          refine E_store rfl rfl rfl ?_
          refine E_load rfl rfl rfl ?_
          refine E_if1 rfl (bI_R _) (fun q37 => ?_) (fun q37 => ?_)
          · replace q37 := bI_nz q37
            refine E_load rfl rfl rfl ?_
            refine E_const rfl ?_
            refine E_const rfl ?_
            refine E_S3 (y := 111) rfl rfl rfl rfl rfl (c_within (by omega) (by omega) (by omega)) (fun r h2 hq => ?_)
            obtain ⟨rfl, hh⟩ := hq
            subst hh
            refine E_if1 rfl (bI_R _) (fun q38 => ?_) (fun q38 => ?_)
            · replace q38 := bI_nz q38
              obtain ⟨m, rfl⟩ := Int.eq_ofNat_of_zero_le q38.1
              have hG2 := hG.goN m
              have h36m := goN_hi hG (k := 36) (by omega) m
              refine E_load rfl rfl rfl ?_
              refine E_null0 rfl (fun q39 => ?_) (fun q39 => ?_)
              · exfalso; omega
              · refine E_load rfl rfl rfl ?_
                refine E_load rfl rfl rfl ?_
                refine E_load rfl rfl rfl ?_
                refine E_load rfl rfl rfl ?_
                refine E_V1 (q := (B b)) (c := (mK h (B b))) (y := 14) rfl rfl (show (B b) < mN h by have := (hR.bot b (by omega)).1.1.1; omega) rfl (by have e := (hR.bot b (by omega)).1.isB; rcases e with e | e | e | e | e | e | e <;> rw [e] <;> rfl) rfl rfl rfl (c_beh hR hG (b := b) (by omega) (by omega)) (fun r h2 hq => ?_)
                obtain ⟨rfl, c_15, hh, hX_15, hE_15⟩ := hq
                subst hh
                have hR_15 := hR.scr hE_15
                refine E_V2 (q := 0) (c := 11) (y := 122) rfl rfl (hL.lt 0 rfl) (hL.k 0 rfl) rfl rfl rfl rfl (c_sayT hL hR_15 hG (hG.goN m) (b := b) (by omega) hX_15 (fun k hk _ => goN_hi hG hk _) (goN_hi hG (by omega) _)) (fun r h2 hq => ?_)
                obtain ⟨rfl, hh⟩ := hq
                subst hh
                refine E_iret rfl (fun h => absurd h (by decide)) ?_
                refine qryc ?_ hE_15
                unfold a_on
                try simp only [Int.toNat_natCast]
                try rw [hwb, Int.toNat_natCast]
                try rw [hk, Int.toNat_natCast]
                first | (exfalso; omega) | (rw [if_pos (by omega)] <;> rfl) | (rw [if_neg (by omega), if_pos (by omega)] <;> rfl) | (rw [if_neg (by omega)] <;> rfl) | (rw [if_neg (by omega), if_neg (by omega), if_pos (by omega)] <;> rfl) | (rw [if_neg (by omega), if_neg (by omega)] <;> rfl) | (rw [if_neg (by omega), if_neg (by omega), if_neg (by omega), if_pos (by omega)] <;> rfl) | (rw [if_neg (by omega), if_neg (by omega), if_neg (by omega)] <;> rfl) | (rw [if_neg (by omega), if_neg (by omega), if_neg (by omega), if_neg (by omega), if_pos (by omega)] <;> rfl) | (rw [if_neg (by omega), if_neg (by omega), if_neg (by omega), if_neg (by omega)] <;> rfl) | (rw [if_neg (by omega), if_neg (by omega), if_neg (by omega), if_neg (by omega), if_neg (by omega), if_pos (by omega)] <;> rfl) | (rw [if_neg (by omega), if_neg (by omega), if_neg (by omega), if_neg (by omega), if_neg (by omega)] <;> rfl) | (rw [if_neg (by omega), if_neg (by omega), if_neg (by omega), if_neg (by omega), if_neg (by omega), if_neg (by omega), if_pos (by omega)] <;> rfl) | (rw [if_neg (by omega), if_neg (by omega), if_neg (by omega), if_neg (by omega), if_neg (by omega), if_neg (by omega)] <;> rfl)
            · replace q38 := bI_z q38
              refine E_const rfl ?_
              refine E_iret rfl (fun h => absurd h (by decide)) ?_
              refine qryc ?_ EqP.nil
              unfold a_on
              try simp only [Int.toNat_natCast]
              try rw [hwb, Int.toNat_natCast]
              try rw [hk, Int.toNat_natCast]
              first | (exfalso; omega) | (rw [if_pos (by omega)] <;> rfl) | (rw [if_neg (by omega), if_pos (by omega)] <;> rfl) | (rw [if_neg (by omega)] <;> rfl) | (rw [if_neg (by omega), if_neg (by omega), if_pos (by omega)] <;> rfl) | (rw [if_neg (by omega), if_neg (by omega)] <;> rfl) | (rw [if_neg (by omega), if_neg (by omega), if_neg (by omega), if_pos (by omega)] <;> rfl) | (rw [if_neg (by omega), if_neg (by omega), if_neg (by omega)] <;> rfl) | (rw [if_neg (by omega), if_neg (by omega), if_neg (by omega), if_neg (by omega), if_pos (by omega)] <;> rfl) | (rw [if_neg (by omega), if_neg (by omega), if_neg (by omega), if_neg (by omega)] <;> rfl) | (rw [if_neg (by omega), if_neg (by omega), if_neg (by omega), if_neg (by omega), if_neg (by omega), if_pos (by omega)] <;> rfl) | (rw [if_neg (by omega), if_neg (by omega), if_neg (by omega), if_neg (by omega), if_neg (by omega)] <;> rfl) | (rw [if_neg (by omega), if_neg (by omega), if_neg (by omega), if_neg (by omega), if_neg (by omega), if_neg (by omega), if_pos (by omega)] <;> rfl) | (rw [if_neg (by omega), if_neg (by omega), if_neg (by omega), if_neg (by omega), if_neg (by omega), if_neg (by omega)] <;> rfl)
          · replace q37 := bI_z q37
            refine E_load rfl rfl rfl ?_
            refine E_null1 rfl (fun q40 => ?_) (fun q40 => ?_)
            · refine E_load rfl rfl rfl ?_
              refine E_const rfl ?_
              refine E_const rfl ?_
              refine E_S3 (y := 111) rfl rfl rfl rfl rfl (c_within (by omega) (by omega) (by omega)) (fun r h2 hq => ?_)
              obtain ⟨rfl, hh⟩ := hq
              subst hh
              refine E_if1 rfl (bI_R _) (fun q41 => ?_) (fun q41 => ?_)
              · replace q41 := bI_nz q41
                obtain ⟨m, rfl⟩ := Int.eq_ofNat_of_zero_le q41.1
                have hG2 := hG.goN m
                have h36m := goN_hi hG (k := 36) (by omega) m
                refine E_load rfl rfl rfl ?_
                refine E_null0 rfl (fun q42 => ?_) (fun q42 => ?_)
                · exfalso; omega
                · refine E_load rfl rfl rfl ?_
                  refine E_load rfl rfl rfl ?_
                  refine E_load rfl rfl rfl ?_
                  refine E_load rfl rfl rfl ?_
                  refine E_V1 (q := (B b)) (c := (mK h (B b))) (y := 14) rfl rfl (show (B b) < mN h by have := (hR.bot b (by omega)).1.1.1; omega) rfl (by have e := (hR.bot b (by omega)).1.isB; rcases e with e | e | e | e | e | e | e <;> rw [e] <;> rfl) rfl rfl rfl (c_beh hR hG (b := b) (by omega) (by omega)) (fun r h2 hq => ?_)
                  obtain ⟨rfl, c_16, hh, hX_16, hE_16⟩ := hq
                  subst hh
                  have hR_16 := hR.scr hE_16
                  refine E_V2 (q := 0) (c := 11) (y := 122) rfl rfl (hL.lt 0 rfl) (hL.k 0 rfl) rfl rfl rfl rfl (c_sayT hL hR_16 hG (hG.goN m) (b := b) (by omega) hX_16 (fun k hk _ => goN_hi hG hk _) (goN_hi hG (by omega) _)) (fun r h2 hq => ?_)
                  obtain ⟨rfl, hh⟩ := hq
                  subst hh
                  refine E_iret rfl (fun h => absurd h (by decide)) ?_
                  refine qryc ?_ hE_16
                  unfold a_on
                  try simp only [Int.toNat_natCast]
                  try rw [hwb, Int.toNat_natCast]
                  try rw [hk, Int.toNat_natCast]
                  first | (exfalso; omega) | (rw [if_pos (by omega)] <;> rfl) | (rw [if_neg (by omega), if_pos (by omega)] <;> rfl) | (rw [if_neg (by omega)] <;> rfl) | (rw [if_neg (by omega), if_neg (by omega), if_pos (by omega)] <;> rfl) | (rw [if_neg (by omega), if_neg (by omega)] <;> rfl) | (rw [if_neg (by omega), if_neg (by omega), if_neg (by omega), if_pos (by omega)] <;> rfl) | (rw [if_neg (by omega), if_neg (by omega), if_neg (by omega)] <;> rfl) | (rw [if_neg (by omega), if_neg (by omega), if_neg (by omega), if_neg (by omega), if_pos (by omega)] <;> rfl) | (rw [if_neg (by omega), if_neg (by omega), if_neg (by omega), if_neg (by omega)] <;> rfl) | (rw [if_neg (by omega), if_neg (by omega), if_neg (by omega), if_neg (by omega), if_neg (by omega), if_pos (by omega)] <;> rfl) | (rw [if_neg (by omega), if_neg (by omega), if_neg (by omega), if_neg (by omega), if_neg (by omega)] <;> rfl) | (rw [if_neg (by omega), if_neg (by omega), if_neg (by omega), if_neg (by omega), if_neg (by omega), if_neg (by omega), if_pos (by omega)] <;> rfl) | (rw [if_neg (by omega), if_neg (by omega), if_neg (by omega), if_neg (by omega), if_neg (by omega), if_neg (by omega)] <;> rfl)
              · replace q41 := bI_z q41
                refine E_const rfl ?_
                refine E_iret rfl (fun h => absurd h (by decide)) ?_
                refine qryc ?_ EqP.nil
                unfold a_on
                try simp only [Int.toNat_natCast]
                try rw [hwb, Int.toNat_natCast]
                try rw [hk, Int.toNat_natCast]
                first | (exfalso; omega) | (rw [if_pos (by omega)] <;> rfl) | (rw [if_neg (by omega), if_pos (by omega)] <;> rfl) | (rw [if_neg (by omega)] <;> rfl) | (rw [if_neg (by omega), if_neg (by omega), if_pos (by omega)] <;> rfl) | (rw [if_neg (by omega), if_neg (by omega)] <;> rfl) | (rw [if_neg (by omega), if_neg (by omega), if_neg (by omega), if_pos (by omega)] <;> rfl) | (rw [if_neg (by omega), if_neg (by omega), if_neg (by omega)] <;> rfl) | (rw [if_neg (by omega), if_neg (by omega), if_neg (by omega), if_neg (by omega), if_pos (by omega)] <;> rfl) | (rw [if_neg (by omega), if_neg (by omega), if_neg (by omega), if_neg (by omega)] <;> rfl) | (rw [if_neg (by omega), if_neg (by omega), if_neg (by omega), if_neg (by omega), if_neg (by omega), if_pos (by omega)] <;> rfl) | (rw [if_neg (by omega), if_neg (by omega), if_neg (by omega), if_neg (by omega), if_neg (by omega)] <;> rfl) | (rw [if_neg (by omega), if_neg (by omega), if_neg (by omega), if_neg (by omega), if_neg (by omega), if_neg (by omega), if_pos (by omega)] <;> rfl) | (rw [if_neg (by omega), if_neg (by omega), if_neg (by omega), if_neg (by omega), if_neg (by omega), if_neg (by omega)] <;> rfl)
            · exfalso; omega
        · replace q36 := bI_nz q36
          refine E_const rfl ?_
          refine E_goto rfl ?_
          refine E_store rfl rfl rfl ?_
          refine E_load rfl rfl rfl ?_
          refine E_if1 rfl (bI_R _) (fun q43 => ?_) (fun q43 => ?_)
          · replace q43 := bI_nz q43
            refine E_load rfl rfl rfl ?_
            refine E_const rfl ?_
            refine E_const rfl ?_
            refine E_S3 (y := 111) rfl rfl rfl rfl rfl (c_within (by omega) (by omega) (by omega)) (fun r h2 hq => ?_)
            obtain ⟨rfl, hh⟩ := hq
            subst hh
            refine E_if1 rfl (bI_R _) (fun q44 => ?_) (fun q44 => ?_)
            · replace q44 := bI_nz q44
              obtain ⟨m, rfl⟩ := Int.eq_ofNat_of_zero_le q44.1
              have hG2 := hG.goN m
              have h36m := goN_hi hG (k := 36) (by omega) m
              refine E_load rfl rfl rfl ?_
              refine E_null0 rfl (fun q45 => ?_) (fun q45 => ?_)
              · exfalso; omega
              · refine E_load rfl rfl rfl ?_
                refine E_load rfl rfl rfl ?_
                refine E_load rfl rfl rfl ?_
                refine E_load rfl rfl rfl ?_
                refine E_V1 (q := (B b)) (c := (mK h (B b))) (y := 14) rfl rfl (show (B b) < mN h by have := (hR.bot b (by omega)).1.1.1; omega) rfl (by have e := (hR.bot b (by omega)).1.isB; rcases e with e | e | e | e | e | e | e <;> rw [e] <;> rfl) rfl rfl rfl (c_beh hR hG (b := b) (by omega) (by omega)) (fun r h2 hq => ?_)
                obtain ⟨rfl, c_17, hh, hX_17, hE_17⟩ := hq
                subst hh
                have hR_17 := hR.scr hE_17
                refine E_V2 (q := 0) (c := 11) (y := 122) rfl rfl (hL.lt 0 rfl) (hL.k 0 rfl) rfl rfl rfl rfl (c_sayT hL hR_17 hG (hG.goN m) (b := b) (by omega) hX_17 (fun k hk _ => goN_hi hG hk _) (goN_hi hG (by omega) _)) (fun r h2 hq => ?_)
                obtain ⟨rfl, hh⟩ := hq
                subst hh
                refine E_iret rfl (fun h => absurd h (by decide)) ?_
                refine qryc ?_ hE_17
                unfold a_on
                try simp only [Int.toNat_natCast]
                try rw [hwb, Int.toNat_natCast]
                try rw [hk, Int.toNat_natCast]
                first | (exfalso; omega) | (rw [if_pos (by omega)] <;> rfl) | (rw [if_neg (by omega), if_pos (by omega)] <;> rfl) | (rw [if_neg (by omega)] <;> rfl) | (rw [if_neg (by omega), if_neg (by omega), if_pos (by omega)] <;> rfl) | (rw [if_neg (by omega), if_neg (by omega)] <;> rfl) | (rw [if_neg (by omega), if_neg (by omega), if_neg (by omega), if_pos (by omega)] <;> rfl) | (rw [if_neg (by omega), if_neg (by omega), if_neg (by omega)] <;> rfl) | (rw [if_neg (by omega), if_neg (by omega), if_neg (by omega), if_neg (by omega), if_pos (by omega)] <;> rfl) | (rw [if_neg (by omega), if_neg (by omega), if_neg (by omega), if_neg (by omega)] <;> rfl) | (rw [if_neg (by omega), if_neg (by omega), if_neg (by omega), if_neg (by omega), if_neg (by omega), if_pos (by omega)] <;> rfl) | (rw [if_neg (by omega), if_neg (by omega), if_neg (by omega), if_neg (by omega), if_neg (by omega)] <;> rfl) | (rw [if_neg (by omega), if_neg (by omega), if_neg (by omega), if_neg (by omega), if_neg (by omega), if_neg (by omega), if_pos (by omega)] <;> rfl) | (rw [if_neg (by omega), if_neg (by omega), if_neg (by omega), if_neg (by omega), if_neg (by omega), if_neg (by omega)] <;> rfl)
            · replace q44 := bI_z q44
              refine E_const rfl ?_
              refine E_iret rfl (fun h => absurd h (by decide)) ?_
              refine qryc ?_ EqP.nil
              unfold a_on
              try simp only [Int.toNat_natCast]
              try rw [hwb, Int.toNat_natCast]
              try rw [hk, Int.toNat_natCast]
              first | (exfalso; omega) | (rw [if_pos (by omega)] <;> rfl) | (rw [if_neg (by omega), if_pos (by omega)] <;> rfl) | (rw [if_neg (by omega)] <;> rfl) | (rw [if_neg (by omega), if_neg (by omega), if_pos (by omega)] <;> rfl) | (rw [if_neg (by omega), if_neg (by omega)] <;> rfl) | (rw [if_neg (by omega), if_neg (by omega), if_neg (by omega), if_pos (by omega)] <;> rfl) | (rw [if_neg (by omega), if_neg (by omega), if_neg (by omega)] <;> rfl) | (rw [if_neg (by omega), if_neg (by omega), if_neg (by omega), if_neg (by omega), if_pos (by omega)] <;> rfl) | (rw [if_neg (by omega), if_neg (by omega), if_neg (by omega), if_neg (by omega)] <;> rfl) | (rw [if_neg (by omega), if_neg (by omega), if_neg (by omega), if_neg (by omega), if_neg (by omega), if_pos (by omega)] <;> rfl) | (rw [if_neg (by omega), if_neg (by omega), if_neg (by omega), if_neg (by omega), if_neg (by omega)] <;> rfl) | (rw [if_neg (by omega), if_neg (by omega), if_neg (by omega), if_neg (by omega), if_neg (by omega), if_neg (by omega), if_pos (by omega)] <;> rfl) | (rw [if_neg (by omega), if_neg (by omega), if_neg (by omega), if_neg (by omega), if_neg (by omega), if_neg (by omega)] <;> rfl)
          · replace q43 := bI_z q43
            refine E_load rfl rfl rfl ?_
            refine E_null1 rfl (fun q46 => ?_) (fun q46 => ?_)
            · refine E_load rfl rfl rfl ?_
              refine E_const rfl ?_
              refine E_const rfl ?_
              refine E_S3 (y := 111) rfl rfl rfl rfl rfl (c_within (by omega) (by omega) (by omega)) (fun r h2 hq => ?_)
              obtain ⟨rfl, hh⟩ := hq
              subst hh
              refine E_if1 rfl (bI_R _) (fun q47 => ?_) (fun q47 => ?_)
              · replace q47 := bI_nz q47
                obtain ⟨m, rfl⟩ := Int.eq_ofNat_of_zero_le q47.1
                have hG2 := hG.goN m
                have h36m := goN_hi hG (k := 36) (by omega) m
                refine E_load rfl rfl rfl ?_
                refine E_null0 rfl (fun q48 => ?_) (fun q48 => ?_)
                · exfalso; omega
                · refine E_load rfl rfl rfl ?_
                  refine E_load rfl rfl rfl ?_
                  refine E_load rfl rfl rfl ?_
                  refine E_load rfl rfl rfl ?_
                  refine E_V1 (q := (B b)) (c := (mK h (B b))) (y := 14) rfl rfl (show (B b) < mN h by have := (hR.bot b (by omega)).1.1.1; omega) rfl (by have e := (hR.bot b (by omega)).1.isB; rcases e with e | e | e | e | e | e | e <;> rw [e] <;> rfl) rfl rfl rfl (c_beh hR hG (b := b) (by omega) (by omega)) (fun r h2 hq => ?_)
                  obtain ⟨rfl, c_18, hh, hX_18, hE_18⟩ := hq
                  subst hh
                  have hR_18 := hR.scr hE_18
                  refine E_V2 (q := 0) (c := 11) (y := 122) rfl rfl (hL.lt 0 rfl) (hL.k 0 rfl) rfl rfl rfl rfl (c_sayT hL hR_18 hG (hG.goN m) (b := b) (by omega) hX_18 (fun k hk _ => goN_hi hG hk _) (goN_hi hG (by omega) _)) (fun r h2 hq => ?_)
                  obtain ⟨rfl, hh⟩ := hq
                  subst hh
                  refine E_iret rfl (fun h => absurd h (by decide)) ?_
                  refine qryc ?_ hE_18
                  unfold a_on
                  try simp only [Int.toNat_natCast]
                  try rw [hwb, Int.toNat_natCast]
                  try rw [hk, Int.toNat_natCast]
                  first | (exfalso; omega) | (rw [if_pos (by omega)] <;> rfl) | (rw [if_neg (by omega), if_pos (by omega)] <;> rfl) | (rw [if_neg (by omega)] <;> rfl) | (rw [if_neg (by omega), if_neg (by omega), if_pos (by omega)] <;> rfl) | (rw [if_neg (by omega), if_neg (by omega)] <;> rfl) | (rw [if_neg (by omega), if_neg (by omega), if_neg (by omega), if_pos (by omega)] <;> rfl) | (rw [if_neg (by omega), if_neg (by omega), if_neg (by omega)] <;> rfl) | (rw [if_neg (by omega), if_neg (by omega), if_neg (by omega), if_neg (by omega), if_pos (by omega)] <;> rfl) | (rw [if_neg (by omega), if_neg (by omega), if_neg (by omega), if_neg (by omega)] <;> rfl) | (rw [if_neg (by omega), if_neg (by omega), if_neg (by omega), if_neg (by omega), if_neg (by omega), if_pos (by omega)] <;> rfl) | (rw [if_neg (by omega), if_neg (by omega), if_neg (by omega), if_neg (by omega), if_neg (by omega)] <;> rfl) | (rw [if_neg (by omega), if_neg (by omega), if_neg (by omega), if_neg (by omega), if_neg (by omega), if_neg (by omega), if_pos (by omega)] <;> rfl) | (rw [if_neg (by omega), if_neg (by omega), if_neg (by omega), if_neg (by omega), if_neg (by omega), if_neg (by omega)] <;> rfl)
              · replace q47 := bI_z q47
                refine E_const rfl ?_
                refine E_iret rfl (fun h => absurd h (by decide)) ?_
                refine qryc ?_ EqP.nil
                unfold a_on
                try simp only [Int.toNat_natCast]
                try rw [hwb, Int.toNat_natCast]
                try rw [hk, Int.toNat_natCast]
                first | (exfalso; omega) | (rw [if_pos (by omega)] <;> rfl) | (rw [if_neg (by omega), if_pos (by omega)] <;> rfl) | (rw [if_neg (by omega)] <;> rfl) | (rw [if_neg (by omega), if_neg (by omega), if_pos (by omega)] <;> rfl) | (rw [if_neg (by omega), if_neg (by omega)] <;> rfl) | (rw [if_neg (by omega), if_neg (by omega), if_neg (by omega), if_pos (by omega)] <;> rfl) | (rw [if_neg (by omega), if_neg (by omega), if_neg (by omega)] <;> rfl) | (rw [if_neg (by omega), if_neg (by omega), if_neg (by omega), if_neg (by omega), if_pos (by omega)] <;> rfl) | (rw [if_neg (by omega), if_neg (by omega), if_neg (by omega), if_neg (by omega)] <;> rfl) | (rw [if_neg (by omega), if_neg (by omega), if_neg (by omega), if_neg (by omega), if_neg (by omega), if_pos (by omega)] <;> rfl) | (rw [if_neg (by omega), if_neg (by omega), if_neg (by omega), if_neg (by omega), if_neg (by omega)] <;> rfl) | (rw [if_neg (by omega), if_neg (by omega), if_neg (by omega), if_neg (by omega), if_neg (by omega), if_neg (by omega), if_pos (by omega)] <;> rfl) | (rw [if_neg (by omega), if_neg (by omega), if_neg (by omega), if_neg (by omega), if_neg (by omega), if_neg (by omega)] <;> rfl)
            · exfalso; omega
    · refine E_V1 (q := 0) (c := 11) (y := 120) rfl rfl (hL.lt 0 rfl) (hL.k 0 rfl) rfl rfl rfl rfl (c_bN hL hR (by omega) n29.1 hb) (fun r h2 hq => ?_)
      obtain ⟨rfl, hh⟩ := hq
      subst hh
      refine E_goto rfl ?_
      refine E_store rfl rfl rfl ?_
      refine E_load rfl rfl rfl ?_
      refine E_const rfl ?_
      refine E_cmp2 rfl (by omega) (fun q49 => ?_) (fun q49 => ?_)
      · refine E_const rfl ?_
        refine E_store rfl rfl rfl ?_
        refine E_load rfl rfl rfl ?_
        refine E_if1 rfl (bI_R _) (fun q50 => ?_) (fun q50 => ?_)
        · replace q50 := bI_nz q50
          refine E_load rfl rfl rfl ?_
          refine E_const rfl ?_
          refine E_const rfl ?_
          refine E_S3 (y := 111) rfl rfl rfl rfl rfl (c_within (by omega) (by omega) (by omega)) (fun r h2 hq => ?_)
          obtain ⟨rfl, hh⟩ := hq
          subst hh
          refine E_if1 rfl (bI_R _) (fun q51 => ?_) (fun q51 => ?_)
          · replace q51 := bI_nz q51
            obtain ⟨m, rfl⟩ := Int.eq_ofNat_of_zero_le q51.1
            have hG2 := hG.goN m
            have h36m := goN_hi hG (k := 36) (by omega) m
            refine E_load rfl rfl rfl ?_
            refine E_null0 rfl (fun q52 => ?_) (fun q52 => ?_)
            · refine E_load rfl rfl rfl ?_
              refine E_if1 rfl (by omega) (fun q53 => ?_) (fun q53 => ?_)
              · refine E_load rfl rfl rfl ?_
                refine E_getr (c := 11) (r := 7) rfl (hL.lt 0 rfl) (hL.k 0 rfl) rfl (hR.C.g 0 2 7 (by decide)) ?_
                refine E_load rfl rfl rfl ?_
                refine E_getr (c := 11) (r := 4) rfl (hL.lt 0 rfl) (hL.k 0 rfl) rfl (hR.C.g 0 1 4 (by decide)) ?_
                refine E_V1 (q := 7) (c := 8) (y := 63) rfl rfl (hL.lt 7 rfl) (hL.k 7 rfl) rfl rfl rfl rfl (s_copyFrom (sh7 hL hR.C) (by decide) (by decide) (sh4 hL hR.C) (by omega)) (fun r h2 hq => ?_)
                obtain ⟨rfl, c_19, hh, hC3_19, hC8_19, hE0_19⟩ := hq
                subst hh
                have hE_19 : EqP (ScrP B (s 29)) c c_19 := hE0_19.mono (fun a k e => Or.inl (by unfold fixS; omega))
                have hR_19 := hR.scr hE_19
                have hM_19 : MoodR (c_19 7 3) (c_19 8) s := ⟨hC3_19.trans hR.mood.1, fun j hj => (hC8_19 j (by omega)).trans (hR.mood.2 j hj)⟩
                refine E_load rfl rfl rfl ?_
                refine E_load rfl rfl rfl ?_
                refine E_getr (c := 11) (r := 7) rfl (hL.lt 0 rfl) (hL.k 0 rfl) rfl (hR_19.C.g 0 2 7 (by decide)) ?_
                refine E_load rfl rfl rfl ?_
                refine E_V2 (q := 0) (c := 11) (y := 128) rfl rfl (hL.lt 0 rfl) (hL.k 0 rfl) rfl rfl rfl rfl (c_calmD (m := m) hL hR_19 hG (sh7 hL hR_19.C) hM_19 (by omega)) (fun r h2 hq => ?_)
                obtain ⟨rfl, c_20, hh, hM_20, hE0_20⟩ := hq
                subst hh
                have hE_20 : EqP (ScrP B (s 29)) c_19 c_20 := hE0_20.mono (fun a k e => Or.inl (by unfold fixS; omega))
                have hR_20 := hR_19.scr hE_20
                refine E_load rfl rfl rfl ?_
                refine E_if0 rfl (by omega) (fun q54 => ?_) (fun q54 => ?_)
                · refine E_load rfl rfl rfl ?_
                  refine E_getr (c := 11) (r := 7) rfl (hL.lt 0 rfl) (hL.k 0 rfl) rfl (hR_20.C.g 0 2 7 (by decide)) ?_
                  refine E_S1 (y := 117) rfl rfl rfl rfl rfl (c_sum (sh7 hL hR_20.C) hM_20 (by omega)) (fun r h2 hq => ?_)
                  obtain ⟨rfl, hh⟩ := hq
                  subst hh
                  refine E_iret rfl (fun h => absurd h (by decide)) ?_
                  refine qryc ?_ (hE_19.trans hE_20)
                  unfold a_on
                  try simp only [Int.toNat_natCast]
                  try rw [hwb, Int.toNat_natCast]
                  try rw [hk, Int.toNat_natCast]
                  first | (exfalso; omega) | (rw [if_pos (by omega)] <;> rfl) | (rw [if_neg (by omega), if_pos (by omega)] <;> rfl) | (rw [if_neg (by omega)] <;> rfl) | (rw [if_neg (by omega), if_neg (by omega), if_pos (by omega)] <;> rfl) | (rw [if_neg (by omega), if_neg (by omega)] <;> rfl) | (rw [if_neg (by omega), if_neg (by omega), if_neg (by omega), if_pos (by omega)] <;> rfl) | (rw [if_neg (by omega), if_neg (by omega), if_neg (by omega)] <;> rfl) | (rw [if_neg (by omega), if_neg (by omega), if_neg (by omega), if_neg (by omega), if_pos (by omega)] <;> rfl) | (rw [if_neg (by omega), if_neg (by omega), if_neg (by omega), if_neg (by omega)] <;> rfl) | (rw [if_neg (by omega), if_neg (by omega), if_neg (by omega), if_neg (by omega), if_neg (by omega), if_pos (by omega)] <;> rfl) | (rw [if_neg (by omega), if_neg (by omega), if_neg (by omega), if_neg (by omega), if_neg (by omega)] <;> rfl) | (rw [if_neg (by omega), if_neg (by omega), if_neg (by omega), if_neg (by omega), if_neg (by omega), if_neg (by omega), if_pos (by omega)] <;> rfl) | (rw [if_neg (by omega), if_neg (by omega), if_neg (by omega), if_neg (by omega), if_neg (by omega), if_neg (by omega)] <;> rfl)
                · exfalso; omega
              · refine E_load rfl rfl rfl ?_
                refine E_load rfl rfl rfl ?_
                refine E_V1 (q := 0) (c := 11) (y := 123) rfl rfl (hL.lt 0 rfl) (hL.k 0 rfl) rfl rfl rfl rfl (c_allSay hL hR hG (m := m) (by omega)) (fun r h2 hq => ?_)
                obtain ⟨rfl, c_21, hh, hE_21⟩ := hq
                subst hh
                have hR_21 := hR.scr hE_21
                refine E_iret rfl (fun h => absurd h (by decide)) ?_
                refine qryc ?_ hE_21
                unfold a_on
                try simp only [Int.toNat_natCast]
                try rw [hwb, Int.toNat_natCast]
                try rw [hk, Int.toNat_natCast]
                first | (exfalso; omega) | (rw [if_pos (by omega)] <;> rfl) | (rw [if_neg (by omega), if_pos (by omega)] <;> rfl) | (rw [if_neg (by omega)] <;> rfl) | (rw [if_neg (by omega), if_neg (by omega), if_pos (by omega)] <;> rfl) | (rw [if_neg (by omega), if_neg (by omega)] <;> rfl) | (rw [if_neg (by omega), if_neg (by omega), if_neg (by omega), if_pos (by omega)] <;> rfl) | (rw [if_neg (by omega), if_neg (by omega), if_neg (by omega)] <;> rfl) | (rw [if_neg (by omega), if_neg (by omega), if_neg (by omega), if_neg (by omega), if_pos (by omega)] <;> rfl) | (rw [if_neg (by omega), if_neg (by omega), if_neg (by omega), if_neg (by omega)] <;> rfl) | (rw [if_neg (by omega), if_neg (by omega), if_neg (by omega), if_neg (by omega), if_neg (by omega), if_pos (by omega)] <;> rfl) | (rw [if_neg (by omega), if_neg (by omega), if_neg (by omega), if_neg (by omega), if_neg (by omega)] <;> rfl) | (rw [if_neg (by omega), if_neg (by omega), if_neg (by omega), if_neg (by omega), if_neg (by omega), if_neg (by omega), if_pos (by omega)] <;> rfl) | (rw [if_neg (by omega), if_neg (by omega), if_neg (by omega), if_neg (by omega), if_neg (by omega), if_neg (by omega)] <;> rfl)
            · exfalso; omega
          · replace q51 := bI_z q51
            refine E_const rfl ?_
            refine E_iret rfl (fun h => absurd h (by decide)) ?_
            refine qryc ?_ EqP.nil
            unfold a_on
            try simp only [Int.toNat_natCast]
            try rw [hwb, Int.toNat_natCast]
            try rw [hk, Int.toNat_natCast]
            first | (exfalso; omega) | (rw [if_pos (by omega)] <;> rfl) | (rw [if_neg (by omega), if_pos (by omega)] <;> rfl) | (rw [if_neg (by omega)] <;> rfl) | (rw [if_neg (by omega), if_neg (by omega), if_pos (by omega)] <;> rfl) | (rw [if_neg (by omega), if_neg (by omega)] <;> rfl) | (rw [if_neg (by omega), if_neg (by omega), if_neg (by omega), if_pos (by omega)] <;> rfl) | (rw [if_neg (by omega), if_neg (by omega), if_neg (by omega)] <;> rfl) | (rw [if_neg (by omega), if_neg (by omega), if_neg (by omega), if_neg (by omega), if_pos (by omega)] <;> rfl) | (rw [if_neg (by omega), if_neg (by omega), if_neg (by omega), if_neg (by omega)] <;> rfl) | (rw [if_neg (by omega), if_neg (by omega), if_neg (by omega), if_neg (by omega), if_neg (by omega), if_pos (by omega)] <;> rfl) | (rw [if_neg (by omega), if_neg (by omega), if_neg (by omega), if_neg (by omega), if_neg (by omega)] <;> rfl) | (rw [if_neg (by omega), if_neg (by omega), if_neg (by omega), if_neg (by omega), if_neg (by omega), if_neg (by omega), if_pos (by omega)] <;> rfl) | (rw [if_neg (by omega), if_neg (by omega), if_neg (by omega), if_neg (by omega), if_neg (by omega), if_neg (by omega)] <;> rfl)
        · replace q50 := bI_z q50
          refine E_load rfl rfl rfl ?_
          refine E_null1 rfl (fun q55 => ?_) (fun q55 => ?_)
          · exfalso; omega
          · refine E_load rfl rfl rfl ?_
            refine E_if1 rfl (by omega) (fun q56 => ?_) (fun q56 => ?_)
            · exfalso; omega
            · refine E_const rfl ?_
              refine E_iret rfl (fun h => absurd h (by decide)) ?_
              refine qryc ?_ EqP.nil
              unfold a_on
              try simp only [Int.toNat_natCast]
              try rw [hwb, Int.toNat_natCast]
              try rw [hk, Int.toNat_natCast]
              first | (exfalso; omega) | (rw [if_pos (by omega)] <;> rfl) | (rw [if_neg (by omega), if_pos (by omega)] <;> rfl) | (rw [if_neg (by omega)] <;> rfl) | (rw [if_neg (by omega), if_neg (by omega), if_pos (by omega)] <;> rfl) | (rw [if_neg (by omega), if_neg (by omega)] <;> rfl) | (rw [if_neg (by omega), if_neg (by omega), if_neg (by omega), if_pos (by omega)] <;> rfl) | (rw [if_neg (by omega), if_neg (by omega), if_neg (by omega)] <;> rfl) | (rw [if_neg (by omega), if_neg (by omega), if_neg (by omega), if_neg (by omega), if_pos (by omega)] <;> rfl) | (rw [if_neg (by omega), if_neg (by omega), if_neg (by omega), if_neg (by omega)] <;> rfl) | (rw [if_neg (by omega), if_neg (by omega), if_neg (by omega), if_neg (by omega), if_neg (by omega), if_pos (by omega)] <;> rfl) | (rw [if_neg (by omega), if_neg (by omega), if_neg (by omega), if_neg (by omega), if_neg (by omega)] <;> rfl) | (rw [if_neg (by omega), if_neg (by omega), if_neg (by omega), if_neg (by omega), if_neg (by omega), if_neg (by omega), if_pos (by omega)] <;> rfl) | (rw [if_neg (by omega), if_neg (by omega), if_neg (by omega), if_neg (by omega), if_neg (by omega), if_neg (by omega)] <;> rfl)
      · refine E_load rfl rfl rfl ?_
        refine E_load rfl rfl rfl ?_
        refine E_const rfl ?_
        refine E_sub rfl ?_
        refine E_V1 (q := 0) (c := 11) (y := 119) rfl rfl (hL.lt 0 rfl) (hL.k 0 rfl) rfl rfl rfl rfl (c_isG hL hR hG (by omega)) (fun r h2 hq => ?_)
        obtain ⟨rfl, hh⟩ := hq
        subst hh
        refine E_if0 rfl (bI_R _) (fun q57 => ?_) (fun q57 => ?_)
        · replace q57 := bI_z q57
          refine E_const rfl ?_
          refine E_store rfl rfl rfl ?_
          refine E_load rfl rfl rfl ?_
          refine E_if1 rfl (bI_R _) (fun q58 => ?_) (fun q58 => ?_)
          · replace q58 := bI_nz q58
            refine E_load rfl rfl rfl ?_
            refine E_const rfl ?_
            refine E_const rfl ?_
            refine E_S3 (y := 111) rfl rfl rfl rfl rfl (c_within (by omega) (by omega) (by omega)) (fun r h2 hq => ?_)
            obtain ⟨rfl, hh⟩ := hq
            subst hh
            refine E_if1 rfl (bI_R _) (fun q59 => ?_) (fun q59 => ?_)
            · replace q59 := bI_nz q59
              obtain ⟨m, rfl⟩ := Int.eq_ofNat_of_zero_le q59.1
              have hG2 := hG.goN m
              have h36m := goN_hi hG (k := 36) (by omega) m
              refine E_load rfl rfl rfl ?_
              refine E_null0 rfl (fun q60 => ?_) (fun q60 => ?_)
              · refine E_load rfl rfl rfl ?_
                refine E_if1 rfl (by omega) (fun q61 => ?_) (fun q61 => ?_)
                · refine E_load rfl rfl rfl ?_
                  refine E_getr (c := 11) (r := 7) rfl (hL.lt 0 rfl) (hL.k 0 rfl) rfl (hR.C.g 0 2 7 (by decide)) ?_
                  refine E_load rfl rfl rfl ?_
                  refine E_getr (c := 11) (r := 4) rfl (hL.lt 0 rfl) (hL.k 0 rfl) rfl (hR.C.g 0 1 4 (by decide)) ?_
                  refine E_V1 (q := 7) (c := 8) (y := 63) rfl rfl (hL.lt 7 rfl) (hL.k 7 rfl) rfl rfl rfl rfl (s_copyFrom (sh7 hL hR.C) (by decide) (by decide) (sh4 hL hR.C) (by omega)) (fun r h2 hq => ?_)
                  obtain ⟨rfl, c_22, hh, hC3_22, hC8_22, hE0_22⟩ := hq
                  subst hh
                  have hE_22 : EqP (ScrP B (s 29)) c c_22 := hE0_22.mono (fun a k e => Or.inl (by unfold fixS; omega))
                  have hR_22 := hR.scr hE_22
                  have hM_22 : MoodR (c_22 7 3) (c_22 8) s := ⟨hC3_22.trans hR.mood.1, fun j hj => (hC8_22 j (by omega)).trans (hR.mood.2 j hj)⟩
                  refine E_load rfl rfl rfl ?_
                  refine E_load rfl rfl rfl ?_
                  refine E_getr (c := 11) (r := 7) rfl (hL.lt 0 rfl) (hL.k 0 rfl) rfl (hR_22.C.g 0 2 7 (by decide)) ?_
                  refine E_load rfl rfl rfl ?_
                  refine E_V2 (q := 0) (c := 11) (y := 128) rfl rfl (hL.lt 0 rfl) (hL.k 0 rfl) rfl rfl rfl rfl (c_calmD (m := m) hL hR_22 hG (sh7 hL hR_22.C) hM_22 (by omega)) (fun r h2 hq => ?_)
                  obtain ⟨rfl, c_23, hh, hM_23, hE0_23⟩ := hq
                  subst hh
                  have hE_23 : EqP (ScrP B (s 29)) c_22 c_23 := hE0_23.mono (fun a k e => Or.inl (by unfold fixS; omega))
                  have hR_23 := hR_22.scr hE_23
                  refine E_load rfl rfl rfl ?_
                  refine E_if0 rfl (by omega) (fun q62 => ?_) (fun q62 => ?_)
                  · refine E_load rfl rfl rfl ?_
                    refine E_getr (c := 11) (r := 7) rfl (hL.lt 0 rfl) (hL.k 0 rfl) rfl (hR_23.C.g 0 2 7 (by decide)) ?_
                    refine E_S1 (y := 117) rfl rfl rfl rfl rfl (c_sum (sh7 hL hR_23.C) hM_23 (by omega)) (fun r h2 hq => ?_)
                    obtain ⟨rfl, hh⟩ := hq
                    subst hh
                    refine E_iret rfl (fun h => absurd h (by decide)) ?_
                    refine qryc ?_ (hE_22.trans hE_23)
                    unfold a_on
                    try simp only [Int.toNat_natCast]
                    try rw [hwb, Int.toNat_natCast]
                    try rw [hk, Int.toNat_natCast]
                    first | (exfalso; omega) | (rw [if_pos (by omega)] <;> rfl) | (rw [if_neg (by omega), if_pos (by omega)] <;> rfl) | (rw [if_neg (by omega)] <;> rfl) | (rw [if_neg (by omega), if_neg (by omega), if_pos (by omega)] <;> rfl) | (rw [if_neg (by omega), if_neg (by omega)] <;> rfl) | (rw [if_neg (by omega), if_neg (by omega), if_neg (by omega), if_pos (by omega)] <;> rfl) | (rw [if_neg (by omega), if_neg (by omega), if_neg (by omega)] <;> rfl) | (rw [if_neg (by omega), if_neg (by omega), if_neg (by omega), if_neg (by omega), if_pos (by omega)] <;> rfl) | (rw [if_neg (by omega), if_neg (by omega), if_neg (by omega), if_neg (by omega)] <;> rfl) | (rw [if_neg (by omega), if_neg (by omega), if_neg (by omega), if_neg (by omega), if_neg (by omega), if_pos (by omega)] <;> rfl) | (rw [if_neg (by omega), if_neg (by omega), if_neg (by omega), if_neg (by omega), if_neg (by omega)] <;> rfl) | (rw [if_neg (by omega), if_neg (by omega), if_neg (by omega), if_neg (by omega), if_neg (by omega), if_neg (by omega), if_pos (by omega)] <;> rfl) | (rw [if_neg (by omega), if_neg (by omega), if_neg (by omega), if_neg (by omega), if_neg (by omega), if_neg (by omega)] <;> rfl)
                  · exfalso; omega
                · refine E_load rfl rfl rfl ?_
                  refine E_load rfl rfl rfl ?_
                  refine E_V1 (q := 0) (c := 11) (y := 123) rfl rfl (hL.lt 0 rfl) (hL.k 0 rfl) rfl rfl rfl rfl (c_allSay hL hR hG (m := m) (by omega)) (fun r h2 hq => ?_)
                  obtain ⟨rfl, c_24, hh, hE_24⟩ := hq
                  subst hh
                  have hR_24 := hR.scr hE_24
                  refine E_iret rfl (fun h => absurd h (by decide)) ?_
                  refine qryc ?_ hE_24
                  unfold a_on
                  try simp only [Int.toNat_natCast]
                  try rw [hwb, Int.toNat_natCast]
                  try rw [hk, Int.toNat_natCast]
                  first | (exfalso; omega) | (rw [if_pos (by omega)] <;> rfl) | (rw [if_neg (by omega), if_pos (by omega)] <;> rfl) | (rw [if_neg (by omega)] <;> rfl) | (rw [if_neg (by omega), if_neg (by omega), if_pos (by omega)] <;> rfl) | (rw [if_neg (by omega), if_neg (by omega)] <;> rfl) | (rw [if_neg (by omega), if_neg (by omega), if_neg (by omega), if_pos (by omega)] <;> rfl) | (rw [if_neg (by omega), if_neg (by omega), if_neg (by omega)] <;> rfl) | (rw [if_neg (by omega), if_neg (by omega), if_neg (by omega), if_neg (by omega), if_pos (by omega)] <;> rfl) | (rw [if_neg (by omega), if_neg (by omega), if_neg (by omega), if_neg (by omega)] <;> rfl) | (rw [if_neg (by omega), if_neg (by omega), if_neg (by omega), if_neg (by omega), if_neg (by omega), if_pos (by omega)] <;> rfl) | (rw [if_neg (by omega), if_neg (by omega), if_neg (by omega), if_neg (by omega), if_neg (by omega)] <;> rfl) | (rw [if_neg (by omega), if_neg (by omega), if_neg (by omega), if_neg (by omega), if_neg (by omega), if_neg (by omega), if_pos (by omega)] <;> rfl) | (rw [if_neg (by omega), if_neg (by omega), if_neg (by omega), if_neg (by omega), if_neg (by omega), if_neg (by omega)] <;> rfl)
              · exfalso; omega
            · replace q59 := bI_z q59
              refine E_const rfl ?_
              refine E_iret rfl (fun h => absurd h (by decide)) ?_
              refine qryc ?_ EqP.nil
              unfold a_on
              try simp only [Int.toNat_natCast]
              try rw [hwb, Int.toNat_natCast]
              try rw [hk, Int.toNat_natCast]
              first | (exfalso; omega) | (rw [if_pos (by omega)] <;> rfl) | (rw [if_neg (by omega), if_pos (by omega)] <;> rfl) | (rw [if_neg (by omega)] <;> rfl) | (rw [if_neg (by omega), if_neg (by omega), if_pos (by omega)] <;> rfl) | (rw [if_neg (by omega), if_neg (by omega)] <;> rfl) | (rw [if_neg (by omega), if_neg (by omega), if_neg (by omega), if_pos (by omega)] <;> rfl) | (rw [if_neg (by omega), if_neg (by omega), if_neg (by omega)] <;> rfl) | (rw [if_neg (by omega), if_neg (by omega), if_neg (by omega), if_neg (by omega), if_pos (by omega)] <;> rfl) | (rw [if_neg (by omega), if_neg (by omega), if_neg (by omega), if_neg (by omega)] <;> rfl) | (rw [if_neg (by omega), if_neg (by omega), if_neg (by omega), if_neg (by omega), if_neg (by omega), if_pos (by omega)] <;> rfl) | (rw [if_neg (by omega), if_neg (by omega), if_neg (by omega), if_neg (by omega), if_neg (by omega)] <;> rfl) | (rw [if_neg (by omega), if_neg (by omega), if_neg (by omega), if_neg (by omega), if_neg (by omega), if_neg (by omega), if_pos (by omega)] <;> rfl) | (rw [if_neg (by omega), if_neg (by omega), if_neg (by omega), if_neg (by omega), if_neg (by omega), if_neg (by omega)] <;> rfl)
          · replace q58 := bI_z q58
            refine E_load rfl rfl rfl ?_
            refine E_null1 rfl (fun q63 => ?_) (fun q63 => ?_)
            · exfalso; omega
            · refine E_load rfl rfl rfl ?_
              refine E_if1 rfl (by omega) (fun q64 => ?_) (fun q64 => ?_)
              · exfalso; omega
              · refine E_const rfl ?_
                refine E_iret rfl (fun h => absurd h (by decide)) ?_
                refine qryc ?_ EqP.nil
                unfold a_on
                try simp only [Int.toNat_natCast]
                try rw [hwb, Int.toNat_natCast]
                try rw [hk, Int.toNat_natCast]
                first | (exfalso; omega) | (rw [if_pos (by omega)] <;> rfl) | (rw [if_neg (by omega), if_pos (by omega)] <;> rfl) | (rw [if_neg (by omega)] <;> rfl) | (rw [if_neg (by omega), if_neg (by omega), if_pos (by omega)] <;> rfl) | (rw [if_neg (by omega), if_neg (by omega)] <;> rfl) | (rw [if_neg (by omega), if_neg (by omega), if_neg (by omega), if_pos (by omega)] <;> rfl) | (rw [if_neg (by omega), if_neg (by omega), if_neg (by omega)] <;> rfl) | (rw [if_neg (by omega), if_neg (by omega), if_neg (by omega), if_neg (by omega), if_pos (by omega)] <;> rfl) | (rw [if_neg (by omega), if_neg (by omega), if_neg (by omega), if_neg (by omega)] <;> rfl) | (rw [if_neg (by omega), if_neg (by omega), if_neg (by omega), if_neg (by omega), if_neg (by omega), if_pos (by omega)] <;> rfl) | (rw [if_neg (by omega), if_neg (by omega), if_neg (by omega), if_neg (by omega), if_neg (by omega)] <;> rfl) | (rw [if_neg (by omega), if_neg (by omega), if_neg (by omega), if_neg (by omega), if_neg (by omega), if_neg (by omega), if_pos (by omega)] <;> rfl) | (rw [if_neg (by omega), if_neg (by omega), if_neg (by omega), if_neg (by omega), if_neg (by omega), if_neg (by omega)] <;> rfl)
        · replace q57 := bI_nz q57
          refine E_const rfl ?_
          refine E_goto rfl ?_
          refine E_store rfl rfl rfl ?_
          refine E_load rfl rfl rfl ?_
          refine E_if1 rfl (bI_R _) (fun q65 => ?_) (fun q65 => ?_)
          · replace q65 := bI_nz q65
            refine E_load rfl rfl rfl ?_
            refine E_const rfl ?_
            refine E_const rfl ?_
            refine E_S3 (y := 111) rfl rfl rfl rfl rfl (c_within (by omega) (by omega) (by omega)) (fun r h2 hq => ?_)
            obtain ⟨rfl, hh⟩ := hq
            subst hh
            refine E_if1 rfl (bI_R _) (fun q66 => ?_) (fun q66 => ?_)
            · replace q66 := bI_nz q66
              obtain ⟨m, rfl⟩ := Int.eq_ofNat_of_zero_le q66.1
              have hG2 := hG.goN m
              have h36m := goN_hi hG (k := 36) (by omega) m
              refine E_load rfl rfl rfl ?_
              refine E_null0 rfl (fun q67 => ?_) (fun q67 => ?_)
              · refine E_load rfl rfl rfl ?_
                refine E_if1 rfl (by omega) (fun q68 => ?_) (fun q68 => ?_)
                · refine E_load rfl rfl rfl ?_
                  refine E_getr (c := 11) (r := 7) rfl (hL.lt 0 rfl) (hL.k 0 rfl) rfl (hR.C.g 0 2 7 (by decide)) ?_
                  refine E_load rfl rfl rfl ?_
                  refine E_getr (c := 11) (r := 4) rfl (hL.lt 0 rfl) (hL.k 0 rfl) rfl (hR.C.g 0 1 4 (by decide)) ?_
                  refine E_V1 (q := 7) (c := 8) (y := 63) rfl rfl (hL.lt 7 rfl) (hL.k 7 rfl) rfl rfl rfl rfl (s_copyFrom (sh7 hL hR.C) (by decide) (by decide) (sh4 hL hR.C) (by omega)) (fun r h2 hq => ?_)
                  obtain ⟨rfl, c_25, hh, hC3_25, hC8_25, hE0_25⟩ := hq
                  subst hh
                  have hE_25 : EqP (ScrP B (s 29)) c c_25 := hE0_25.mono (fun a k e => Or.inl (by unfold fixS; omega))
                  have hR_25 := hR.scr hE_25
                  have hM_25 : MoodR (c_25 7 3) (c_25 8) s := ⟨hC3_25.trans hR.mood.1, fun j hj => (hC8_25 j (by omega)).trans (hR.mood.2 j hj)⟩
                  refine E_load rfl rfl rfl ?_
                  refine E_load rfl rfl rfl ?_
                  refine E_getr (c := 11) (r := 7) rfl (hL.lt 0 rfl) (hL.k 0 rfl) rfl (hR_25.C.g 0 2 7 (by decide)) ?_
                  refine E_load rfl rfl rfl ?_
                  refine E_V2 (q := 0) (c := 11) (y := 128) rfl rfl (hL.lt 0 rfl) (hL.k 0 rfl) rfl rfl rfl rfl (c_calmD (m := m) hL hR_25 hG (sh7 hL hR_25.C) hM_25 (by omega)) (fun r h2 hq => ?_)
                  obtain ⟨rfl, c_26, hh, hM_26, hE0_26⟩ := hq
                  subst hh
                  have hE_26 : EqP (ScrP B (s 29)) c_25 c_26 := hE0_26.mono (fun a k e => Or.inl (by unfold fixS; omega))
                  have hR_26 := hR_25.scr hE_26
                  refine E_load rfl rfl rfl ?_
                  refine E_if0 rfl (by omega) (fun q69 => ?_) (fun q69 => ?_)
                  · exfalso; omega
                  · refine E_load rfl rfl rfl ?_
                    refine E_getr (c := 11) (r := 7) rfl (hL.lt 0 rfl) (hL.k 0 rfl) rfl (hR_26.C.g 0 2 7 (by decide)) ?_
                    refine E_load rfl rfl rfl ?_
                    refine E_const rfl ?_
                    obtain ⟨k, hk⟩ := Int.eq_ofNat_of_zero_le (show 0 ≤ w - 20 by omega)
                    refine E_sub rfl ?_
                    rw [hk]
                    refine E_const rfl ?_
                    refine E_V2 (q := 7) (c := 8) (y := 60) rfl rfl (hL.lt 7 rfl) (hL.k 7 rfl) rfl rfl rfl rfl (s_atv (v := goN s m (25 + k)) (sh7 hL hR_26.C) (by decide) (by decide) (by omega) (by omega) (by rw [hM_26.1]; omega) (by rw [hM_26.1]; omega) (atM (by rw [hM_26.1]; omega) (hM_26.2 k (by omega)))) (fun r h2 hq => ?_)
                    obtain ⟨rfl, hh⟩ := hq
                    subst hh
                    refine E_goto rfl ?_
                    refine E_iret rfl (fun h => absurd h (by decide)) ?_
                    refine qryc ?_ (hE_25.trans hE_26)
                    unfold a_on
                    try simp only [Int.toNat_natCast]
                    try rw [hwb, Int.toNat_natCast]
                    try rw [hk, Int.toNat_natCast]
                    first | (exfalso; omega) | (rw [if_pos (by omega)] <;> rfl) | (rw [if_neg (by omega), if_pos (by omega)] <;> rfl) | (rw [if_neg (by omega)] <;> rfl) | (rw [if_neg (by omega), if_neg (by omega), if_pos (by omega)] <;> rfl) | (rw [if_neg (by omega), if_neg (by omega)] <;> rfl) | (rw [if_neg (by omega), if_neg (by omega), if_neg (by omega), if_pos (by omega)] <;> rfl) | (rw [if_neg (by omega), if_neg (by omega), if_neg (by omega)] <;> rfl) | (rw [if_neg (by omega), if_neg (by omega), if_neg (by omega), if_neg (by omega), if_pos (by omega)] <;> rfl) | (rw [if_neg (by omega), if_neg (by omega), if_neg (by omega), if_neg (by omega)] <;> rfl) | (rw [if_neg (by omega), if_neg (by omega), if_neg (by omega), if_neg (by omega), if_neg (by omega), if_pos (by omega)] <;> rfl) | (rw [if_neg (by omega), if_neg (by omega), if_neg (by omega), if_neg (by omega), if_neg (by omega)] <;> rfl) | (rw [if_neg (by omega), if_neg (by omega), if_neg (by omega), if_neg (by omega), if_neg (by omega), if_neg (by omega), if_pos (by omega)] <;> rfl) | (rw [if_neg (by omega), if_neg (by omega), if_neg (by omega), if_neg (by omega), if_neg (by omega), if_neg (by omega)] <;> rfl)
                · refine E_load rfl rfl rfl ?_
                  refine E_load rfl rfl rfl ?_
                  refine E_V1 (q := 0) (c := 11) (y := 123) rfl rfl (hL.lt 0 rfl) (hL.k 0 rfl) rfl rfl rfl rfl (c_allSay hL hR hG (m := m) (by omega)) (fun r h2 hq => ?_)
                  obtain ⟨rfl, c_27, hh, hE_27⟩ := hq
                  subst hh
                  have hR_27 := hR.scr hE_27
                  refine E_iret rfl (fun h => absurd h (by decide)) ?_
                  refine qryc ?_ hE_27
                  unfold a_on
                  try simp only [Int.toNat_natCast]
                  try rw [hwb, Int.toNat_natCast]
                  try rw [hk, Int.toNat_natCast]
                  first | (exfalso; omega) | (rw [if_pos (by omega)] <;> rfl) | (rw [if_neg (by omega), if_pos (by omega)] <;> rfl) | (rw [if_neg (by omega)] <;> rfl) | (rw [if_neg (by omega), if_neg (by omega), if_pos (by omega)] <;> rfl) | (rw [if_neg (by omega), if_neg (by omega)] <;> rfl) | (rw [if_neg (by omega), if_neg (by omega), if_neg (by omega), if_pos (by omega)] <;> rfl) | (rw [if_neg (by omega), if_neg (by omega), if_neg (by omega)] <;> rfl) | (rw [if_neg (by omega), if_neg (by omega), if_neg (by omega), if_neg (by omega), if_pos (by omega)] <;> rfl) | (rw [if_neg (by omega), if_neg (by omega), if_neg (by omega), if_neg (by omega)] <;> rfl) | (rw [if_neg (by omega), if_neg (by omega), if_neg (by omega), if_neg (by omega), if_neg (by omega), if_pos (by omega)] <;> rfl) | (rw [if_neg (by omega), if_neg (by omega), if_neg (by omega), if_neg (by omega), if_neg (by omega)] <;> rfl) | (rw [if_neg (by omega), if_neg (by omega), if_neg (by omega), if_neg (by omega), if_neg (by omega), if_neg (by omega), if_pos (by omega)] <;> rfl) | (rw [if_neg (by omega), if_neg (by omega), if_neg (by omega), if_neg (by omega), if_neg (by omega), if_neg (by omega)] <;> rfl)
              · exfalso; omega
            · replace q66 := bI_z q66
              refine E_const rfl ?_
              refine E_iret rfl (fun h => absurd h (by decide)) ?_
              refine qryc ?_ EqP.nil
              unfold a_on
              try simp only [Int.toNat_natCast]
              try rw [hwb, Int.toNat_natCast]
              try rw [hk, Int.toNat_natCast]
              first | (exfalso; omega) | (rw [if_pos (by omega)] <;> rfl) | (rw [if_neg (by omega), if_pos (by omega)] <;> rfl) | (rw [if_neg (by omega)] <;> rfl) | (rw [if_neg (by omega), if_neg (by omega), if_pos (by omega)] <;> rfl) | (rw [if_neg (by omega), if_neg (by omega)] <;> rfl) | (rw [if_neg (by omega), if_neg (by omega), if_neg (by omega), if_pos (by omega)] <;> rfl) | (rw [if_neg (by omega), if_neg (by omega), if_neg (by omega)] <;> rfl) | (rw [if_neg (by omega), if_neg (by omega), if_neg (by omega), if_neg (by omega), if_pos (by omega)] <;> rfl) | (rw [if_neg (by omega), if_neg (by omega), if_neg (by omega), if_neg (by omega)] <;> rfl) | (rw [if_neg (by omega), if_neg (by omega), if_neg (by omega), if_neg (by omega), if_neg (by omega), if_pos (by omega)] <;> rfl) | (rw [if_neg (by omega), if_neg (by omega), if_neg (by omega), if_neg (by omega), if_neg (by omega)] <;> rfl) | (rw [if_neg (by omega), if_neg (by omega), if_neg (by omega), if_neg (by omega), if_neg (by omega), if_neg (by omega), if_pos (by omega)] <;> rfl) | (rw [if_neg (by omega), if_neg (by omega), if_neg (by omega), if_neg (by omega), if_neg (by omega), if_neg (by omega)] <;> rfl)
          · replace q65 := bI_z q65
            refine E_load rfl rfl rfl ?_
            refine E_null1 rfl (fun q70 => ?_) (fun q70 => ?_)
            · exfalso; omega
            · refine E_load rfl rfl rfl ?_
              refine E_if1 rfl (by omega) (fun q71 => ?_) (fun q71 => ?_)
              · refine E_load rfl rfl rfl ?_
                refine E_const rfl ?_
                refine E_const rfl ?_
                refine E_S3 (y := 111) rfl rfl rfl rfl rfl (c_within (by omega) (by omega) (by omega)) (fun r h2 hq => ?_)
                obtain ⟨rfl, hh⟩ := hq
                subst hh
                refine E_if1 rfl (bI_R _) (fun q72 => ?_) (fun q72 => ?_)
                · replace q72 := bI_nz q72
                  obtain ⟨m, rfl⟩ := Int.eq_ofNat_of_zero_le q72.1
                  have hG2 := hG.goN m
                  have h36m := goN_hi hG (k := 36) (by omega) m
                  refine E_load rfl rfl rfl ?_
                  refine E_null0 rfl (fun q73 => ?_) (fun q73 => ?_)
                  · refine E_load rfl rfl rfl ?_
                    refine E_if1 rfl (by omega) (fun q74 => ?_) (fun q74 => ?_)
                    · refine E_load rfl rfl rfl ?_
                      refine E_getr (c := 11) (r := 7) rfl (hL.lt 0 rfl) (hL.k 0 rfl) rfl (hR.C.g 0 2 7 (by decide)) ?_
                      refine E_load rfl rfl rfl ?_
                      refine E_getr (c := 11) (r := 4) rfl (hL.lt 0 rfl) (hL.k 0 rfl) rfl (hR.C.g 0 1 4 (by decide)) ?_
                      refine E_V1 (q := 7) (c := 8) (y := 63) rfl rfl (hL.lt 7 rfl) (hL.k 7 rfl) rfl rfl rfl rfl (s_copyFrom (sh7 hL hR.C) (by decide) (by decide) (sh4 hL hR.C) (by omega)) (fun r h2 hq => ?_)
                      obtain ⟨rfl, c_28, hh, hC3_28, hC8_28, hE0_28⟩ := hq
                      subst hh
                      have hE_28 : EqP (ScrP B (s 29)) c c_28 := hE0_28.mono (fun a k e => Or.inl (by unfold fixS; omega))
                      have hR_28 := hR.scr hE_28
                      have hM_28 : MoodR (c_28 7 3) (c_28 8) s := ⟨hC3_28.trans hR.mood.1, fun j hj => (hC8_28 j (by omega)).trans (hR.mood.2 j hj)⟩
                      refine E_load rfl rfl rfl ?_
                      refine E_load rfl rfl rfl ?_
                      refine E_getr (c := 11) (r := 7) rfl (hL.lt 0 rfl) (hL.k 0 rfl) rfl (hR_28.C.g 0 2 7 (by decide)) ?_
                      refine E_load rfl rfl rfl ?_
                      refine E_V2 (q := 0) (c := 11) (y := 128) rfl rfl (hL.lt 0 rfl) (hL.k 0 rfl) rfl rfl rfl rfl (c_calmD (m := m) hL hR_28 hG (sh7 hL hR_28.C) hM_28 (by omega)) (fun r h2 hq => ?_)
                      obtain ⟨rfl, c_29, hh, hM_29, hE0_29⟩ := hq
                      subst hh
                      have hE_29 : EqP (ScrP B (s 29)) c_28 c_29 := hE0_29.mono (fun a k e => Or.inl (by unfold fixS; omega))
                      have hR_29 := hR_28.scr hE_29
                      refine E_load rfl rfl rfl ?_
                      refine E_if0 rfl (by omega) (fun q75 => ?_) (fun q75 => ?_)
                      · exfalso; omega
                      · refine E_load rfl rfl rfl ?_
                        refine E_getr (c := 11) (r := 7) rfl (hL.lt 0 rfl) (hL.k 0 rfl) rfl (hR_29.C.g 0 2 7 (by decide)) ?_
                        refine E_load rfl rfl rfl ?_
                        refine E_const rfl ?_
                        obtain ⟨k, hk⟩ := Int.eq_ofNat_of_zero_le (show 0 ≤ w - 20 by omega)
                        refine E_sub rfl ?_
                        rw [hk]
                        refine E_const rfl ?_
                        refine E_V2 (q := 7) (c := 8) (y := 60) rfl rfl (hL.lt 7 rfl) (hL.k 7 rfl) rfl rfl rfl rfl (s_atv (v := goN s m (25 + k)) (sh7 hL hR_29.C) (by decide) (by decide) (by omega) (by omega) (by rw [hM_29.1]; omega) (by rw [hM_29.1]; omega) (atM (by rw [hM_29.1]; omega) (hM_29.2 k (by omega)))) (fun r h2 hq => ?_)
                        obtain ⟨rfl, hh⟩ := hq
                        subst hh
                        refine E_goto rfl ?_
                        refine E_iret rfl (fun h => absurd h (by decide)) ?_
                        refine qryc ?_ (hE_28.trans hE_29)
                        unfold a_on
                        try simp only [Int.toNat_natCast]
                        try rw [hwb, Int.toNat_natCast]
                        try rw [hk, Int.toNat_natCast]
                        first | (exfalso; omega) | (rw [if_pos (by omega)] <;> rfl) | (rw [if_neg (by omega), if_pos (by omega)] <;> rfl) | (rw [if_neg (by omega)] <;> rfl) | (rw [if_neg (by omega), if_neg (by omega), if_pos (by omega)] <;> rfl) | (rw [if_neg (by omega), if_neg (by omega)] <;> rfl) | (rw [if_neg (by omega), if_neg (by omega), if_neg (by omega), if_pos (by omega)] <;> rfl) | (rw [if_neg (by omega), if_neg (by omega), if_neg (by omega)] <;> rfl) | (rw [if_neg (by omega), if_neg (by omega), if_neg (by omega), if_neg (by omega), if_pos (by omega)] <;> rfl) | (rw [if_neg (by omega), if_neg (by omega), if_neg (by omega), if_neg (by omega)] <;> rfl) | (rw [if_neg (by omega), if_neg (by omega), if_neg (by omega), if_neg (by omega), if_neg (by omega), if_pos (by omega)] <;> rfl) | (rw [if_neg (by omega), if_neg (by omega), if_neg (by omega), if_neg (by omega), if_neg (by omega)] <;> rfl) | (rw [if_neg (by omega), if_neg (by omega), if_neg (by omega), if_neg (by omega), if_neg (by omega), if_neg (by omega), if_pos (by omega)] <;> rfl) | (rw [if_neg (by omega), if_neg (by omega), if_neg (by omega), if_neg (by omega), if_neg (by omega), if_neg (by omega)] <;> rfl)
                    · refine E_load rfl rfl rfl ?_
                      refine E_load rfl rfl rfl ?_
                      refine E_V1 (q := 0) (c := 11) (y := 123) rfl rfl (hL.lt 0 rfl) (hL.k 0 rfl) rfl rfl rfl rfl (c_allSay hL hR hG (m := m) (by omega)) (fun r h2 hq => ?_)
                      obtain ⟨rfl, c_30, hh, hE_30⟩ := hq
                      subst hh
                      have hR_30 := hR.scr hE_30
                      refine E_iret rfl (fun h => absurd h (by decide)) ?_
                      refine qryc ?_ hE_30
                      unfold a_on
                      try simp only [Int.toNat_natCast]
                      try rw [hwb, Int.toNat_natCast]
                      try rw [hk, Int.toNat_natCast]
                      first | (exfalso; omega) | (rw [if_pos (by omega)] <;> rfl) | (rw [if_neg (by omega), if_pos (by omega)] <;> rfl) | (rw [if_neg (by omega)] <;> rfl) | (rw [if_neg (by omega), if_neg (by omega), if_pos (by omega)] <;> rfl) | (rw [if_neg (by omega), if_neg (by omega)] <;> rfl) | (rw [if_neg (by omega), if_neg (by omega), if_neg (by omega), if_pos (by omega)] <;> rfl) | (rw [if_neg (by omega), if_neg (by omega), if_neg (by omega)] <;> rfl) | (rw [if_neg (by omega), if_neg (by omega), if_neg (by omega), if_neg (by omega), if_pos (by omega)] <;> rfl) | (rw [if_neg (by omega), if_neg (by omega), if_neg (by omega), if_neg (by omega)] <;> rfl) | (rw [if_neg (by omega), if_neg (by omega), if_neg (by omega), if_neg (by omega), if_neg (by omega), if_pos (by omega)] <;> rfl) | (rw [if_neg (by omega), if_neg (by omega), if_neg (by omega), if_neg (by omega), if_neg (by omega)] <;> rfl) | (rw [if_neg (by omega), if_neg (by omega), if_neg (by omega), if_neg (by omega), if_neg (by omega), if_neg (by omega), if_pos (by omega)] <;> rfl) | (rw [if_neg (by omega), if_neg (by omega), if_neg (by omega), if_neg (by omega), if_neg (by omega), if_neg (by omega)] <;> rfl)
                  · exfalso; omega
                · replace q72 := bI_z q72
                  refine E_const rfl ?_
                  refine E_iret rfl (fun h => absurd h (by decide)) ?_
                  refine qryc ?_ EqP.nil
                  unfold a_on
                  try simp only [Int.toNat_natCast]
                  try rw [hwb, Int.toNat_natCast]
                  try rw [hk, Int.toNat_natCast]
                  first | (exfalso; omega) | (rw [if_pos (by omega)] <;> rfl) | (rw [if_neg (by omega), if_pos (by omega)] <;> rfl) | (rw [if_neg (by omega)] <;> rfl) | (rw [if_neg (by omega), if_neg (by omega), if_pos (by omega)] <;> rfl) | (rw [if_neg (by omega), if_neg (by omega)] <;> rfl) | (rw [if_neg (by omega), if_neg (by omega), if_neg (by omega), if_pos (by omega)] <;> rfl) | (rw [if_neg (by omega), if_neg (by omega), if_neg (by omega)] <;> rfl) | (rw [if_neg (by omega), if_neg (by omega), if_neg (by omega), if_neg (by omega), if_pos (by omega)] <;> rfl) | (rw [if_neg (by omega), if_neg (by omega), if_neg (by omega), if_neg (by omega)] <;> rfl) | (rw [if_neg (by omega), if_neg (by omega), if_neg (by omega), if_neg (by omega), if_neg (by omega), if_pos (by omega)] <;> rfl) | (rw [if_neg (by omega), if_neg (by omega), if_neg (by omega), if_neg (by omega), if_neg (by omega)] <;> rfl) | (rw [if_neg (by omega), if_neg (by omega), if_neg (by omega), if_neg (by omega), if_neg (by omega), if_neg (by omega), if_pos (by omega)] <;> rfl) | (rw [if_neg (by omega), if_neg (by omega), if_neg (by omega), if_neg (by omega), if_neg (by omega), if_neg (by omega)] <;> rfl)
              · exfalso; omega
theorem alB_iff {p : Nat → Bool} : ∀ n, alB p n = true ↔ ∀ k, k < n → p k = true
  | 0 => ⟨fun _ k hk => absurd hk (Nat.not_lt_zero k), fun _ => rfl⟩
  | n + 1 => by
    rw [alB, Bool.and_eq_true, alB_iff n]
    constructor
    · rintro ⟨h1, h2⟩ k hk
      by_cases e : k = n
      · rw [e]; exact h2
      · exact h1 k (by omega)
    · intro h1
      exact ⟨fun k hk => h1 k (by omega), h1 n (by omega)⟩
def okr (t : Nat → Int) (k : Nat) : Bool := decide (syS (goN t (t (83 + k)).toNat) (t (73 + k)).toNat = t (78 + k))
theorem arS_okr {t : Nat → Int} (hG : InvG t) (hS : InvS t) : arS t = alB (okr t) (t 31).toNat := by
  rw [Bool.eq_iff_iff]
  unfold arS
  rw [alB_iff, alB_iff]
  constructor
  · intro h1 k hk
    obtain ⟨x1, x2, x3⟩ := hS k (by omega)
    have h2 := h1 (t (83 + k)).toNat (by omega)
    unfold isqA at h2
    rw [alB_iff] at h2
    have h3 := h2 k (by rw [goN_hi hG (by omega)]; exact hk)
    unfold isq at h3
    rw [decide_eq_true_eq, goN_hi hG (show 29 ≤ 83 + k by omega), goN_hi hG (show 29 ≤ 73 + k by omega), goN_hi hG (show 29 ≤ 78 + k by omega)] at h3
    unfold okr
    rw [decide_eq_true_eq]
    rcases h3 with h3 | h3
    · omega
    · exact h3
  · intro h1 n hn
    show isqA (goN t n) (n : Int) = true
    unfold isqA
    rw [alB_iff]
    intro k hk
    rw [goN_hi hG (by omega)] at hk
    obtain ⟨x1, x2, x3⟩ := hS k (by omega)
    have h2 := h1 k hk
    unfold okr at h2
    rw [decide_eq_true_eq] at h2
    unfold isq
    rw [decide_eq_true_eq, goN_hi hG (show 29 ≤ 83 + k by omega), goN_hi hG (show 29 ≤ 73 + k by omega), goN_hi hG (show 29 ≤ 78 + k by omega)]
    by_cases e : t (83 + k) = (n : Int)
    · right
      rw [show n = (t (83 + k)).toNat by omega]
      exact h2
    · exact Or.inl e
theorem c_age {d : Nat} {h : Hp} {c : Nat → Nat → Int} {B : Nat → Nat} {s im t : Nat → Int} {hi : Int} {L : List Int} (hR : RepC h c B s im hi L) (hG : InvG s) (hGt : InvG t) {b n : Nat} (hb : (b : Int) < s 29) (hbt : (b : Int) < t 29) (hn : n ≤ 100) (hV : LaidS c (B b + 5) t b) : Ok (d + 1) 52 [(1, ((B b + 5 : Nat) : Int)), (0, (n : Int))] (wC h c) (fun r h2 => r = none ∧ ∃ c2, h2 = wC h c2 ∧ LaidS c2 (B b + 5) (goN t n) b ∧ EqP (ScrP B (s 29)) c c2) := by
  obtain ⟨b1, b2, b3⟩ := hR.bot b hb
  obtain ⟨i1, i2, i3, i4, i5, i6, i7⟩ := hGt.1 b (by have := hGt.2.2.1; omega)
  refine (l_age b1.2.2.2.2 (by rw [hV.1.2.2.1]; exact i2) (by rw [hV.1.2.2.2.2]; exact i4) (by omega)).mono ?_
  rintro r hE ⟨h1, c2, h2, h3⟩
  rw [hV.1.2.2.2.2, hV.1.2.2.1] at h3
  refine ⟨h1, c2, h2, laid_go hGt hbt ?_, ?_⟩
  · rw [h3]
    by_cases h0 : t (19 + b) = 0
    · rw [if_pos h0, if_pos h0]
      exact ⟨⟨(up2_fldN (by omega)).trans hV.1.1, (up2_fldN (by omega)).trans hV.1.2.1, up2_same, (up2_fldN (by omega)).trans hV.1.2.2.2.1, (up2_fldN (by omega)).trans hV.1.2.2.2.2⟩, fun k hk => (up2_fldN (by omega)).trans (hV.2 k hk)⟩
    · rw [if_neg h0, if_neg h0]
      exact hV
  · rw [h3]
    split
    · exact EqP.up (scr_try hb _ _ (by omega))
    · exact EqP.nil
theorem LaidS.ofT {c : Nat → Nat → Int} {q b : Nat} {s t : Nat → Int} (h : LaidS c q s b) (e : ∀ k, (k = 43 + b ∨ k = 1 + b ∨ k = 7 + b ∨ k = 13 + b ∨ k = 19 + b ∨ (49 + 4 * b ≤ k ∧ k < 53 + 4 * b)) → t k = s k) : LaidS c q t b := by
  unfold LaidS
  rw [e _ (Or.inl rfl), e _ (Or.inr (Or.inl rfl)), e (7 + b) (by omega), e (13 + b) (by omega), e (19 + b) (by omega)]
  exact ⟨h.1, fun k hk => (h.2 k hk).trans (e _ (by omega)).symm⟩
set_option maxHeartbeats 4000000 in
set_option maxRecDepth 100000 in
theorem Cl_seen {d : Nat} {h : Hp} {B : Nat → Nat} {s im : Nat → Int} {hi : Int} {L : List Int} (hL : Lay h) (hG : InvG s) (hS : InvS s) {t : Nat → Int} (hGt : InvG t) {b : Nat} {y v : Int} (ht : t = upd1 (upd1 s (7 + b) y) (43 + b) v) (hb : (b : Int) < s 29) : ∀ (n i : Nat), i + n = (s 31).toNat → ∀ (v5 v6 v7 : AV), alB (okr t) i = true → ∀ c, RepC h c B s im hi L → Ex (d + 12) none t_X10_allSeenIsSo 3 3 [(1, ((0 : Nat) : Int)), (0, (b : Int)), (0, y), (0, v), (0, (i : Int)), v5, v6, v7] [] (wC h c) (fun r h2 => r = some (0, bB (alB (okr t) (s 31).toNat)) ∧ ∃ c2, h2 = wC h c2 ∧ EqP (ScrP B (s 29)) c c2) := by
  have hGG := hG
  obtain ⟨hI, hH, ⟨⟨n29, n30, n31, n32, n33, n34, n36⟩, nM⟩⟩ := hGG
  have hte : ∀ k, k ≠ 7 + b → k ≠ 43 + b → t k = s k := fun k h1 h2 => by rw [ht, upd1_ne h2, upd1_ne h1]
  intro n
  induction n with
  | zero =>
    intro i hin v5 v6 v7 ha c hR 
    refine E_load rfl rfl rfl ?_
    refine E_load rfl rfl rfl ?_
    refine E_getr (c := 11) (r := 10) rfl (hL.lt 0 rfl) (hL.k 0 rfl) rfl (hR.C.g 0 3 10 (by decide)) ?_
    refine E_getf (c := 8) (v := (0, (s 31))) rfl (hL.lt 10 rfl) (hL.k 10 rfl) rfl (fv (hR.seen.1)) ?_
    refine E_cmp3 rfl (by omega) (fun q1 => ?_) (fun q1 => ?_)
    · refine E_const rfl ?_
      refine E_iret rfl (fun _ => by decide) ?_
      exact ⟨by rw [show (s 31).toNat = i by omega, ha]; rfl, c, rfl, EqP.nil⟩
    · exfalso; omega
  | succ n ih =>
    intro i hin v5 v6 v7 ha c hR 
    refine E_load rfl rfl rfl ?_
    refine E_load rfl rfl rfl ?_
    refine E_getr (c := 11) (r := 10) rfl (hL.lt 0 rfl) (hL.k 0 rfl) rfl (hR.C.g 0 3 10 (by decide)) ?_
    refine E_getf (c := 8) (v := (0, (s 31))) rfl (hL.lt 10 rfl) (hL.k 10 rfl) rfl (fv (hR.seen.1)) ?_
    refine E_cmp3 rfl (by omega) (fun q1 => ?_) (fun q1 => ?_)
    · exfalso; omega
    · obtain ⟨x1, x2, x3⟩ := hS i (by omega)
      obtain ⟨nb, hnb⟩ := Int.eq_ofNat_of_zero_le x1.1
      obtain ⟨m, hm⟩ := Int.eq_ofNat_of_zero_le x3.1
      have e78 : t (78 + i) = s (78 + i) := hte _ (by omega) (by omega)
      have hbn : (t (73 + i)).toNat = nb := by rw [hte _ (by omega) (by omega)]; omega
      have hmn : (t (83 + i)).toNat = m := by rw [hte _ (by omega) (by omega)]; omega
      have t29 := hte 29 (by omega) (by omega)
      have hbs := (hGt.goN m).bs (b := nb) (by omega)
      refine E_load rfl rfl rfl ?_
      refine E_getr (c := 11) (r := 10) rfl (hL.lt 0 rfl) (hL.k 0 rfl) rfl (hR.C.g 0 3 10 (by decide)) ?_
      refine E_load rfl rfl rfl ?_
      refine E_const rfl ?_
      refine E_V2 (q := 10) (c := 8) (y := 60) rfl rfl (hL.lt 10 rfl) (hL.k 10 rfl) rfl rfl rfl rfl (s_atv (v := ((nb : Nat) : Int)) (sh10 hL hR.C) (by decide) (by decide) (by omega) (by omega) (by rw [hR.seen.1]; omega) (by rw [hR.seen.1]; omega) (atS_of (w := 3) (k := 0) (by rw [hR.seen.1]; omega) (by decide) (by rw [Nat.mul_comm i 3]; exact (hR.seen.2 i (by omega)).1.trans hnb))) (fun r h2 hq => ?_)
      obtain ⟨rfl, hh⟩ := hq
      subst hh
      refine E_store rfl rfl rfl ?_
      refine E_load rfl rfl rfl ?_
      refine E_load rfl rfl rfl ?_
      refine E_V1 (q := 0) (c := 11) (y := 120) rfl rfl (hL.lt 0 rfl) (hL.k 0 rfl) rfl rfl rfl rfl (c_bY hL hR (b := nb) (by omega)) (fun r h2 hq => ?_)
      obtain ⟨rfl, hh⟩ := hq
      subst hh
      refine E_store rfl rfl rfl ?_
      refine E_load rfl rfl rfl ?_
      refine E_null0 rfl (fun q2 => ?_) (fun q2 => ?_)
      · exfalso; omega
      · refine E_load rfl rfl rfl ?_
        refine E_V0 (q := (B nb)) (c := (mK h (B nb))) (y := 13) rfl rfl (show (B nb) < mN h by have := (hR.bot nb (by omega)).1.1.1; omega) rfl (by have e := (hR.bot nb (by omega)).1.isB; rcases e with e | e | e | e | e | e | e <;> rw [e] <;> rfl) rfl rfl rfl (c_now hR hG (b := nb) (by omega)) (fun r h2 hq => ?_)
        obtain ⟨rfl, c_1, hh, hX_1, hE_1⟩ := hq
        subst hh
        have hR_1 := hR.scr hE_1
        refine E_store rfl rfl rfl ?_
        refine E_load rfl rfl rfl ?_
        refine E_load rfl rfl rfl ?_
        refine E_cmp1 rfl (by omega) (fun q3 => ?_) (fun q3 => ?_)
        · refine E_load rfl rfl rfl ?_
          refine E_load rfl rfl rfl ?_
          refine E_getr (c := 11) (r := 10) rfl (hL.lt 0 rfl) (hL.k 0 rfl) rfl (hR_1.C.g 0 3 10 (by decide)) ?_
          refine E_load rfl rfl rfl ?_
          refine E_const rfl ?_
          refine E_V2 (q := 10) (c := 8) (y := 60) rfl rfl (hL.lt 10 rfl) (hL.k 10 rfl) rfl rfl rfl rfl (s_atv (v := ((m : Nat) : Int)) (sh10 hL hR_1.C) (by decide) (by decide) (by omega) (by omega) (by rw [hR_1.seen.1]; omega) (by rw [hR_1.seen.1]; omega) (atS_of (w := 3) (k := 2) (by rw [hR_1.seen.1]; omega) (by decide) (by rw [Nat.mul_comm i 3]; exact (hR_1.seen.2 i (by omega)).2.2.trans hm))) (fun r h2 hq => ?_)
          obtain ⟨rfl, hh⟩ := hq
          subst hh
          have hVt : LaidS c_1 (B nb + 5) t nb := hX_1.ofT (fun k hk => hte k (by omega) (by omega))
          refine E_V1 (q := (B nb + 5)) (c := 6) (y := 52) rfl rfl (show (B nb + 5) < mN h by have := (hR_1.bot nb (by omega)).1.1.1; omega) (hR_1.bot nb (by omega)).1.2.2.2.2.2.1 rfl rfl rfl rfl (c_age hR_1 hG hGt (b := nb) (n := m) (by omega) (by omega) (by omega) hVt) (fun r h2 hq => ?_)
          obtain ⟨rfl, c_2, hh, hX_2, hE_2⟩ := hq
          subst hh
          have hR_2 := hR_1.scr hE_2
          refine E_load rfl rfl rfl ?_
          refine E_load rfl rfl rfl ?_
          refine E_load rfl rfl rfl ?_
          refine E_V2 (q := 0) (c := 11) (y := 122) rfl rfl (hL.lt 0 rfl) (hL.k 0 rfl) rfl rfl rfl rfl (c_sayT hL hR_2 hG (hGt.goN m) (b := nb) (by omega) hX_2 (fun k hk hk2 => (goN_hi hGt hk m).trans (hte k (by omega) (by omega))) ((goN_hi hGt (by omega) m).trans (hte _ (by omega) (by omega)))) (fun r h2 hq => ?_)
          obtain ⟨rfl, hh⟩ := hq
          subst hh
          refine E_load rfl rfl rfl ?_
          refine E_getr (c := 11) (r := 10) rfl (hL.lt 0 rfl) (hL.k 0 rfl) rfl (hR_2.C.g 0 3 10 (by decide)) ?_
          refine E_load rfl rfl rfl ?_
          refine E_const rfl ?_
          refine E_V2 (q := 10) (c := 8) (y := 60) rfl rfl (hL.lt 10 rfl) (hL.k 10 rfl) rfl rfl rfl rfl (s_atv (v := (s (78 + i))) (sh10 hL hR_2.C) (by decide) (by decide) (by omega) (by omega) (by rw [hR_2.seen.1]; omega) (by rw [hR_2.seen.1]; omega) (atS_of (w := 3) (k := 1) (by rw [hR_2.seen.1]; omega) (by decide) (by rw [Nat.mul_comm i 3]; exact (hR_2.seen.2 i (by omega)).2.1))) (fun r h2 hq => ?_)
          obtain ⟨rfl, hh⟩ := hq
          subst hh
          refine E_cmp0 rfl (by omega) (fun q4 => ?_) (fun q4 => ?_)
          · refine E_iinc rfl rfl rfl ?_
            refine E_goto rfl ?_
            refine (ih (i + 1) (by omega) _ _ _ (by rw [alB_s ha]; exact decide_eq_true (by rw [e78, hmn, hbn]; omega)) c_2 hR_2).mono ?_
            rintro r hE ⟨e1, c9, e2, e3⟩
            exact ⟨e1, c9, e2, EqP.trans (hE_1.trans hE_2) e3⟩
          · refine E_const rfl ?_
            refine E_iret rfl (fun _ => by decide) ?_
            exact ⟨by rw [alB_le (i := i + 1) (by rw [alB_s ha]; exact decide_eq_false (by rw [e78, hmn, hbn]; omega)) (show i + 1 ≤ (s 31).toNat by omega)]; rfl, c_2, rfl, (hE_1.trans hE_2)⟩
        · have hnbb : nb = b := by omega
          refine E_load rfl rfl rfl ?_
          refine E_load rfl rfl rfl ?_
          refine E_putg (cl := 6) rfl (show (B nb + 5) < mN h by have := (hR_1.bot nb (by omega)).1.1.1; omega) (hR_1.bot nb (by omega)).1.2.2.2.2.2.1 rfl (fun c_3 hc_3 => ?_)
          have hE_3 : EqP (ScrP B (s 29)) c_1 c_3 := by rw [hc_3]; exact EqP.up (scr_try (b := nb) (by omega) _ _ (by omega))
          have hfBnbp5_3_3 : c_3 (B nb + 5) 3 = y := by rw [hc_3]; exact up2_same
          have hR_3 := hR_1.scr hE_3
          have hX_3 : LaidS c_3 (B nb + 5) (upd1 s (7 + nb) y) nb := by rw [hc_3]; exact laid_y (by omega) hX_1
          refine E_load rfl rfl rfl ?_
          refine E_load rfl rfl rfl ?_
          refine E_putg (cl := 6) rfl (show (B nb + 5) < mN h by have := (hR_3.bot nb (by omega)).1.1.1; omega) (hR_3.bot nb (by omega)).1.2.2.2.2.2.1 rfl (fun c_4 hc_4 => ?_)
          have hE_4 : EqP (ScrP B (s 29)) c_3 c_4 := by rw [hc_4]; exact EqP.up (scr_try (b := nb) (by omega) _ _ (by omega))
          have hfBnbp5_3_4 : c_4 (B nb + 5) 3 = y := by rw [hc_4]; exact (up2_fldN (by omega)).trans (hfBnbp5_3_3)
          have hfBnbp5_1_4 : c_4 (B nb + 5) 1 = v := by rw [hc_4]; exact up2_same
          have hR_4 := hR_3.scr hE_4
          have hX_4 : LaidS c_4 (B nb + 5) (upd1 (upd1 s (7 + nb) y) (43 + nb) v) nb := by rw [hc_4]; exact laid_v (by omega) hX_3
          refine E_load rfl rfl rfl ?_
          refine E_load rfl rfl rfl ?_
          refine E_getr (c := 11) (r := 10) rfl (hL.lt 0 rfl) (hL.k 0 rfl) rfl (hR_4.C.g 0 3 10 (by decide)) ?_
          refine E_load rfl rfl rfl ?_
          refine E_const rfl ?_
          refine E_V2 (q := 10) (c := 8) (y := 60) rfl rfl (hL.lt 10 rfl) (hL.k 10 rfl) rfl rfl rfl rfl (s_atv (v := ((m : Nat) : Int)) (sh10 hL hR_4.C) (by decide) (by decide) (by omega) (by omega) (by rw [hR_4.seen.1]; omega) (by rw [hR_4.seen.1]; omega) (atS_of (w := 3) (k := 2) (by rw [hR_4.seen.1]; omega) (by decide) (by rw [Nat.mul_comm i 3]; exact (hR_4.seen.2 i (by omega)).2.2.trans hm))) (fun r h2 hq => ?_)
          obtain ⟨rfl, hh⟩ := hq
          subst hh
          have hVt : LaidS c_4 (B nb + 5) t nb := by rw [ht, ← hnbb]; exact hX_4
          refine E_V1 (q := (B nb + 5)) (c := 6) (y := 52) rfl rfl (show (B nb + 5) < mN h by have := (hR_4.bot nb (by omega)).1.1.1; omega) (hR_4.bot nb (by omega)).1.2.2.2.2.2.1 rfl rfl rfl rfl (c_age hR_4 hG hGt (b := nb) (n := m) (by omega) (by omega) (by omega) hVt) (fun r h2 hq => ?_)
          obtain ⟨rfl, c_5, hh, hX_5, hE_5⟩ := hq
          subst hh
          have hR_5 := hR_4.scr hE_5
          refine E_load rfl rfl rfl ?_
          refine E_load rfl rfl rfl ?_
          refine E_load rfl rfl rfl ?_
          refine E_V2 (q := 0) (c := 11) (y := 122) rfl rfl (hL.lt 0 rfl) (hL.k 0 rfl) rfl rfl rfl rfl (c_sayT hL hR_5 hG (hGt.goN m) (b := nb) (by omega) hX_5 (fun k hk hk2 => (goN_hi hGt hk m).trans (hte k (by omega) (by omega))) ((goN_hi hGt (by omega) m).trans (hte _ (by omega) (by omega)))) (fun r h2 hq => ?_)
          obtain ⟨rfl, hh⟩ := hq
          subst hh
          refine E_load rfl rfl rfl ?_
          refine E_getr (c := 11) (r := 10) rfl (hL.lt 0 rfl) (hL.k 0 rfl) rfl (hR_5.C.g 0 3 10 (by decide)) ?_
          refine E_load rfl rfl rfl ?_
          refine E_const rfl ?_
          refine E_V2 (q := 10) (c := 8) (y := 60) rfl rfl (hL.lt 10 rfl) (hL.k 10 rfl) rfl rfl rfl rfl (s_atv (v := (s (78 + i))) (sh10 hL hR_5.C) (by decide) (by decide) (by omega) (by omega) (by rw [hR_5.seen.1]; omega) (by rw [hR_5.seen.1]; omega) (atS_of (w := 3) (k := 1) (by rw [hR_5.seen.1]; omega) (by decide) (by rw [Nat.mul_comm i 3]; exact (hR_5.seen.2 i (by omega)).2.1))) (fun r h2 hq => ?_)
          obtain ⟨rfl, hh⟩ := hq
          subst hh
          refine E_cmp0 rfl (by omega) (fun q5 => ?_) (fun q5 => ?_)
          · refine E_iinc rfl rfl rfl ?_
            refine E_goto rfl ?_
            refine (ih (i + 1) (by omega) _ _ _ (by rw [alB_s ha]; exact decide_eq_true (by rw [e78, hmn, hbn]; omega)) c_5 hR_5).mono ?_
            rintro r hE ⟨e1, c9, e2, e3⟩
            exact ⟨e1, c9, e2, EqP.trans (hE_1.trans (hE_3.trans (hE_4.trans hE_5))) e3⟩
          · refine E_const rfl ?_
            refine E_iret rfl (fun _ => by decide) ?_
            exact ⟨by rw [alB_le (i := i + 1) (by rw [alB_s ha]; exact decide_eq_false (by rw [e78, hmn, hbn]; omega)) (show i + 1 ≤ (s 31).toNat by omega)]; rfl, c_5, rfl, (hE_1.trans (hE_3.trans (hE_4.trans hE_5)))⟩
set_option maxHeartbeats 4000000 in
set_option maxRecDepth 100000 in
theorem c_seen {d : Nat} {h : Hp} {c : Nat → Nat → Int} {B : Nat → Nat} {s im : Nat → Int} {hi : Int} {L : List Int} (hL : Lay h) (hR : RepC h c B s im hi L) (hG : InvG s) (hS : InvS s) {t : Nat → Int} (hGt : InvG t) {b : Nat} {y v : Int} (ht : t = upd1 (upd1 s (7 + b) y) (43 + b) v) (hSt : InvS t) (hb : (b : Int) < s 29) : Ok (d + 12) 135 [(1, ((0 : Nat) : Int)), (0, (b : Int)), (0, y), (0, v)] (wC h c) (fun r h2 => r = some (0, bB (arS t)) ∧ ∃ c2, h2 = wC h c2 ∧ EqP (ScrP B (s 29)) c c2) := by
  show Ex _ none t_X10_allSeenIsSo 3 0 _ [] (wC h c) _
  have hGG := hG
  obtain ⟨hI, hH, ⟨⟨n29, n30, n31, n32, n33, n34, n36⟩, nM⟩⟩ := hGG
  refine E_const rfl ?_
  refine E_store rfl rfl rfl ?_
  rw [arS_okr hGt hSt, show t 31 = s 31 by rw [ht, upd1_ne (by omega), upd1_ne (by omega)]]
  exact Cl_seen hL hG hS hGt ht hb _ 0 (Nat.zero_add _) _ _ _ rfl c hR
