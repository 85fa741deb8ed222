def nbS (s : Nat → Int) (b : Nat) (k v w : Int) : Nat → Int := upd1 (upd1 (upd1 (upd1 (upd1 (upd1 (upd1 (upd1 (upd1 (upd1 (upd1 s (37 + b) k) (43 + b) v) (1 + b) w) (7 + b) 0) (13 + b) 0) (19 + b) 0) (49 + 4 * b + 0) 0) (49 + 4 * b + 1) 0) (49 + 4 * b + 2) 0) (49 + 4 * b + 3) 0) 29 ((b : Int) + 1)
def f_bottle (s : Nat → Int) (k v w : Int) : AS := if ¬ btw 0 k 6 then (-1, s) else if ¬ btw 0 v 9 ∨ ¬ btw (-99) w 99 then (-2, s) else if s 29 = 6 then (-4, s) else (s 29, nbS s (s 29).toNat k v w)
set_option maxHeartbeats 4000000 in
set_option maxRecDepth 100000 in
theorem n_bottle {d : Nat} {h : Hp} {c : Nat → Nat → Int} {s : Nat → Int} (hL : Lay h) (hM : Mc c) (hs : c 44 = s) (hA : Inv s) {k : Int} (hk : inR k) {v : Int} (hv : inR v) {w : Int} (hw : inR w) : Ok (d + 6) 168 [(1, ((43 : Nat) : Int)), (0, k), (0, v), (0, w)] (wC h c) (fun r h2 => r = some (0, (f_bottle s k v w).1) ∧ ∃ c2, h2 = wC h c2 ∧ c2 44 = (f_bottle s k v w).2 ∧ Eqk PS c c2) := by
  show Ex _ none t_X11_bottle 0 0 _ [] (wC h c) _
  have hAA := hA
  have hG := hA.G
  obtain ⟨hI, hH, ⟨⟨n29, n30, n31, n32, n33, n34, n36⟩, nM⟩, hX⟩ := hA
  refine E_load rfl rfl rfl ?_
  refine E_const rfl ?_
  refine E_const rfl ?_
  refine E_S3 (y := 139) rfl rfl rfl rfl rfl (m_in (by omega) (by omega) (by omega)) (fun r h2 hq => ?_)
  obtain ⟨rfl, hh⟩ := hq
  subst hh
  refine E_if1 rfl (bI_R _) (fun q1 => ?_) (fun q1 => ?_)
  · replace q1 := bI_nz q1
    obtain ⟨b, hb⟩ := Int.eq_ofNat_of_zero_le n29.1
    refine E_load rfl rfl rfl ?_
    refine E_const rfl ?_
    refine E_const rfl ?_
    refine E_S3 (y := 139) rfl rfl rfl rfl rfl (m_in (by omega) (by omega) (by omega)) (fun r h2 hq => ?_)
    obtain ⟨rfl, hh⟩ := hq
    subst hh
    refine E_if0 rfl (bI_R _) (fun q2 => ?_) (fun q2 => ?_)
    · replace q2 := bI_z q2
      refine E_const rfl ?_
      refine E_iret rfl (fun h => absurd h (by decide)) ?_
      refine mutl (s' := s) ?_ hs Eqk.nil
      unfold f_bottle nbS
      try simp only [hb, Int.toNat_natCast]
      first | (exfalso; omega) | (rw [if_pos (by omega)] <;> rfl) | (rw [if_neg (by omega), if_pos (by omega)] <;> rfl) | (rw [if_neg (by omega)] <;> rfl) | (rw [if_neg (by omega), if_neg (by omega), if_pos (by omega)] <;> rfl) | (rw [if_neg (by omega), if_neg (by omega)] <;> rfl) | (rw [if_neg (by omega), if_neg (by omega), if_neg (by omega), if_pos (by omega)] <;> rfl) | (rw [if_neg (by omega), if_neg (by omega), if_neg (by omega)] <;> rfl) | (rw [if_neg (by omega), if_neg (by omega), if_neg (by omega), if_neg (by omega), if_pos (by omega)] <;> rfl) | (rw [if_neg (by omega), if_neg (by omega), if_neg (by omega), if_neg (by omega)] <;> rfl) | (rw [if_neg (by omega), if_neg (by omega), if_neg (by omega), if_neg (by omega), if_neg (by omega), if_pos (by omega)] <;> rfl) | (rw [if_neg (by omega), if_neg (by omega), if_neg (by omega), if_neg (by omega), if_neg (by omega)] <;> rfl) | (rw [if_neg (by omega), if_neg (by omega), if_neg (by omega), if_neg (by omega), if_neg (by omega), if_neg (by omega), if_pos (by omega)] <;> rfl) | (rw [if_neg (by omega), if_neg (by omega), if_neg (by omega), if_neg (by omega), if_neg (by omega), if_neg (by omega)] <;> rfl)
    · replace q2 := bI_nz q2
      refine E_load rfl rfl rfl ?_
      refine E_S1 (y := 145) rfl rfl rfl rfl rfl (m_isMood (by omega)) (fun r h2 hq => ?_)
      obtain ⟨rfl, hh⟩ := hq
      subst hh
      refine E_if1 rfl (bI_R _) (fun q3 => ?_) (fun q3 => ?_)
      · replace q3 := bI_nz q3
        refine E_load rfl rfl rfl ?_
        refine E_getr (c := 12) (r := 44) rfl (hL.lt 43 rfl) (hL.k 43 rfl) rfl hM.c1 ?_
        refine E_const rfl ?_
        refine E_ialn (n := 943) (v := (s 29)) rfl (hL.lt 44 rfl) (hL.k 44 rfl) (hL.l 44 rfl) (by omega) (rdS hs (by omega)) ?_
        refine E_const rfl ?_
        refine E_cmp1 rfl (by omega) (fun q4 => ?_) (fun q4 => ?_)
        · refine E_load rfl rfl rfl ?_
          refine E_getr (c := 12) (r := 44) rfl (hL.lt 43 rfl) (hL.k 43 rfl) rfl hM.c1 ?_
          refine E_const rfl ?_
          refine E_ialn (n := 943) (v := ((b : Nat) : Int)) rfl (hL.lt 44 rfl) (hL.k 44 rfl) (hL.l 44 rfl) (by omega) ((rdS hs (by omega)).trans hb) ?_
          refine E_store rfl rfl rfl ?_
          refine E_load rfl rfl rfl ?_
          refine E_getr (c := 12) (r := 44) rfl (hL.lt 43 rfl) (hL.k 43 rfl) rfl hM.c1 ?_
          refine E_const rfl ?_
          refine E_load rfl rfl rfl ?_
          refine E_add rfl ?_
          refine E_load rfl rfl rfl ?_
          refine E_iasg (n := 943) (j := (37 + b)) rfl (hL.lt 44 rfl) (hL.k 44 rfl) (hL.l 44 rfl) (by omega) (by omega) (fun c_1 hc_1 => ?_)
          have hE_1 : Eqk PS c c_1 := by rw [hc_1]; exact Eqk.up rfl
          have hM_1 : Mc c_1 := by rw [hc_1]; exact hM.upo rfl
          have hs_1 : c_1 44 = upd1 s (37 + b) k := by rw [hc_1]; exact up2_rowS hs
          refine E_load rfl rfl rfl ?_
          refine E_getr (c := 12) (r := 44) rfl (hL.lt 43 rfl) (hL.k 43 rfl) rfl hM_1.c1 ?_
          refine E_const rfl ?_
          refine E_load rfl rfl rfl ?_
          refine E_add rfl ?_
          refine E_load rfl rfl rfl ?_
          refine E_iasg (n := 943) (j := (43 + b)) rfl (hL.lt 44 rfl) (hL.k 44 rfl) (hL.l 44 rfl) (by omega) (by omega) (fun c_2 hc_2 => ?_)
          have hE_2 : Eqk PS c_1 c_2 := by rw [hc_2]; exact Eqk.up rfl
          have hM_2 : Mc c_2 := by rw [hc_2]; exact hM_1.upo rfl
          have hs_2 : c_2 44 = upd1 (upd1 s (37 + b) k) (43 + b) v := by rw [hc_2]; exact up2_rowS hs_1
          refine E_load rfl rfl rfl ?_
          refine E_getr (c := 12) (r := 44) rfl (hL.lt 43 rfl) (hL.k 43 rfl) rfl hM_2.c1 ?_
          refine E_const rfl ?_
          refine E_load rfl rfl rfl ?_
          refine E_add rfl ?_
          refine E_load rfl rfl rfl ?_
          refine E_iasg (n := 943) (j := (1 + b)) rfl (hL.lt 44 rfl) (hL.k 44 rfl) (hL.l 44 rfl) (by omega) (by omega) (fun c_3 hc_3 => ?_)
          have hE_3 : Eqk PS c_2 c_3 := by rw [hc_3]; exact Eqk.up rfl
          have hM_3 : Mc c_3 := by rw [hc_3]; exact hM_2.upo rfl
          have hs_3 : c_3 44 = upd1 (upd1 (upd1 s (37 + b) k) (43 + b) v) (1 + b) w := by rw [hc_3]; exact up2_rowS hs_2
          refine E_load rfl rfl rfl ?_
          refine E_getr (c := 12) (r := 44) rfl (hL.lt 43 rfl) (hL.k 43 rfl) rfl hM_3.c1 ?_
          refine E_const rfl ?_
          refine E_load rfl rfl rfl ?_
          refine E_add rfl ?_
          refine E_const rfl ?_
          refine E_iasg (n := 943) (j := (7 + b)) rfl (hL.lt 44 rfl) (hL.k 44 rfl) (hL.l 44 rfl) (by omega) (by omega) (fun c_4 hc_4 => ?_)
          have hE_4 : Eqk PS c_3 c_4 := by rw [hc_4]; exact Eqk.up rfl
          have hM_4 : Mc c_4 := by rw [hc_4]; exact hM_3.upo rfl
          have hs_4 : c_4 44 = upd1 (upd1 (upd1 (upd1 s (37 + b) k) (43 + b) v) (1 + b) w) (7 + b) 0 := by rw [hc_4]; exact up2_rowS hs_3
          refine E_load rfl rfl rfl ?_
          refine E_getr (c := 12) (r := 44) rfl (hL.lt 43 rfl) (hL.k 43 rfl) rfl hM_4.c1 ?_
          refine E_const rfl ?_
          refine E_load rfl rfl rfl ?_
          refine E_add rfl ?_
          refine E_const rfl ?_
          refine E_iasg (n := 943) (j := (13 + b)) rfl (hL.lt 44 rfl) (hL.k 44 rfl) (hL.l 44 rfl) (by omega) (by omega) (fun c_5 hc_5 => ?_)
          have hE_5 : Eqk PS c_4 c_5 := by rw [hc_5]; exact Eqk.up rfl
          have hM_5 : Mc c_5 := by rw [hc_5]; exact hM_4.upo rfl
          have hs_5 : c_5 44 = upd1 (upd1 (upd1 (upd1 (upd1 s (37 + b) k) (43 + b) v) (1 + b) w) (7 + b) 0) (13 + b) 0 := by rw [hc_5]; exact up2_rowS hs_4
          refine E_load rfl rfl rfl ?_
          refine E_getr (c := 12) (r := 44) rfl (hL.lt 43 rfl) (hL.k 43 rfl) rfl hM_5.c1 ?_
          refine E_const rfl ?_
          refine E_load rfl rfl rfl ?_
          refine E_add rfl ?_
          refine E_const rfl ?_
          refine E_iasg (n := 943) (j := (19 + b)) rfl (hL.lt 44 rfl) (hL.k 44 rfl) (hL.l 44 rfl) (by omega) (by omega) (fun c_6 hc_6 => ?_)
          have hE_6 : Eqk PS c_5 c_6 := by rw [hc_6]; exact Eqk.up rfl
          have hM_6 : Mc c_6 := by rw [hc_6]; exact hM_5.upo rfl
          have hs_6 : c_6 44 = upd1 (upd1 (upd1 (upd1 (upd1 (upd1 s (37 + b) k) (43 + b) v) (1 + b) w) (7 + b) 0) (13 + b) 0) (19 + b) 0 := by rw [hc_6]; exact up2_rowS hs_5
          refine E_const rfl ?_
          refine E_store rfl rfl rfl ?_
          refine E_load rfl rfl rfl ?_
          refine E_const rfl ?_
          refine E_cmp3 rfl (by omega) (fun q5 => ?_) (fun q5 => ?_)
          · exfalso; omega
          · refine E_load rfl rfl rfl ?_
            refine E_getr (c := 12) (r := 44) rfl (hL.lt 43 rfl) (hL.k 43 rfl) rfl hM_6.c1 ?_
            refine E_const rfl ?_
            refine E_const rfl ?_
            refine E_load rfl rfl rfl ?_
            refine E_mul rfl ?_
            refine E_add rfl ?_
            refine E_load rfl rfl rfl ?_
            refine E_add rfl ?_
            refine E_const rfl ?_
            refine E_iasg (n := 943) (j := ((49 + (4 * b)) + 0)) rfl (hL.lt 44 rfl) (hL.k 44 rfl) (hL.l 44 rfl) (by omega) (by omega) (fun c_7 hc_7 => ?_)
            have hE_7 : Eqk PS c_6 c_7 := by rw [hc_7]; exact Eqk.up rfl
            have hM_7 : Mc c_7 := by rw [hc_7]; exact hM_6.upo rfl
            have hs_7 : c_7 44 = upd1 (upd1 (upd1 (upd1 (upd1 (upd1 (upd1 s (37 + b) k) (43 + b) v) (1 + b) w) (7 + b) 0) (13 + b) 0) (19 + b) 0) ((49 + (4 * b)) + 0) 0 := by rw [hc_7]; exact up2_rowS hs_6
            refine E_iinc rfl rfl rfl ?_
            refine E_goto rfl ?_
            refine E_load rfl rfl rfl ?_
            refine E_const rfl ?_
            refine E_cmp3 rfl (by omega) (fun q6 => ?_) (fun q6 => ?_)
            · exfalso; omega
            · refine E_load rfl rfl rfl ?_
              refine E_getr (c := 12) (r := 44) rfl (hL.lt 43 rfl) (hL.k 43 rfl) rfl hM_7.c1 ?_
              refine E_const rfl ?_
              refine E_const rfl ?_
              refine E_load rfl rfl rfl ?_
              refine E_mul rfl ?_
              refine E_add rfl ?_
              refine E_load rfl rfl rfl ?_
              refine E_add rfl ?_
              refine E_const rfl ?_
              refine E_iasg (n := 943) (j := ((49 + (4 * b)) + 1)) rfl (hL.lt 44 rfl) (hL.k 44 rfl) (hL.l 44 rfl) (by omega) (by omega) (fun c_8 hc_8 => ?_)
              have hE_8 : Eqk PS c_7 c_8 := by rw [hc_8]; exact Eqk.up rfl
              have hM_8 : Mc c_8 := by rw [hc_8]; exact hM_7.upo rfl
              have hs_8 : c_8 44 = upd1 (upd1 (upd1 (upd1 (upd1 (upd1 (upd1 (upd1 s (37 + b) k) (43 + b) v) (1 + b) w) (7 + b) 0) (13 + b) 0) (19 + b) 0) ((49 + (4 * b)) + 0) 0) ((49 + (4 * b)) + 1) 0 := by rw [hc_8]; exact up2_rowS hs_7
              refine E_iinc rfl rfl rfl ?_
              refine E_goto rfl ?_
              refine E_load rfl rfl rfl ?_
              refine E_const rfl ?_
              refine E_cmp3 rfl (by omega) (fun q7 => ?_) (fun q7 => ?_)
              · exfalso; omega
              · refine E_load rfl rfl rfl ?_
                refine E_getr (c := 12) (r := 44) rfl (hL.lt 43 rfl) (hL.k 43 rfl) rfl hM_8.c1 ?_
                refine E_const rfl ?_
                refine E_const rfl ?_
                refine E_load rfl rfl rfl ?_
                refine E_mul rfl ?_
                refine E_add rfl ?_
                refine E_load rfl rfl rfl ?_
                refine E_add rfl ?_
                refine E_const rfl ?_
                refine E_iasg (n := 943) (j := ((49 + (4 * b)) + 2)) rfl (hL.lt 44 rfl) (hL.k 44 rfl) (hL.l 44 rfl) (by omega) (by omega) (fun c_9 hc_9 => ?_)
                have hE_9 : Eqk PS c_8 c_9 := by rw [hc_9]; exact Eqk.up rfl
                have hM_9 : Mc c_9 := by rw [hc_9]; exact hM_8.upo rfl
                have hs_9 : c_9 44 = upd1 (upd1 (upd1 (upd1 (upd1 (upd1 (upd1 (upd1 (upd1 s (37 + b) k) (43 + b) v) (1 + b) w) (7 + b) 0) (13 + b) 0) (19 + b) 0) ((49 + (4 * b)) + 0) 0) ((49 + (4 * b)) + 1) 0) ((49 + (4 * b)) + 2) 0 := by rw [hc_9]; exact up2_rowS hs_8
                refine E_iinc rfl rfl rfl ?_
                refine E_goto rfl ?_
                refine E_load rfl rfl rfl ?_
                refine E_const rfl ?_
                refine E_cmp3 rfl (by omega) (fun q8 => ?_) (fun q8 => ?_)
                · exfalso; omega
                · refine E_load rfl rfl rfl ?_
                  refine E_getr (c := 12) (r := 44) rfl (hL.lt 43 rfl) (hL.k 43 rfl) rfl hM_9.c1 ?_
                  refine E_const rfl ?_
                  refine E_const rfl ?_
                  refine E_load rfl rfl rfl ?_
                  refine E_mul rfl ?_
                  refine E_add rfl ?_
                  refine E_load rfl rfl rfl ?_
                  refine E_add rfl ?_
                  refine E_const rfl ?_
                  refine E_iasg (n := 943) (j := ((49 + (4 * b)) + 3)) rfl (hL.lt 44 rfl) (hL.k 44 rfl) (hL.l 44 rfl) (by omega) (by omega) (fun c_10 hc_10 => ?_)
                  have hE_10 : Eqk PS c_9 c_10 := by rw [hc_10]; exact Eqk.up rfl
                  have hM_10 : Mc c_10 := by rw [hc_10]; exact hM_9.upo rfl
                  have hs_10 : c_10 44 = upd1 (upd1 (upd1 (upd1 (upd1 (upd1 (upd1 (upd1 (upd1 (upd1 s (37 + b) k) (43 + b) v) (1 + b) w) (7 + b) 0) (13 + b) 0) (19 + b) 0) ((49 + (4 * b)) + 0) 0) ((49 + (4 * b)) + 1) 0) ((49 + (4 * b)) + 2) 0) ((49 + (4 * b)) + 3) 0 := by rw [hc_10]; exact up2_rowS hs_9
                  refine E_iinc rfl rfl rfl ?_
                  refine E_goto rfl ?_
                  refine E_load rfl rfl rfl ?_
                  refine E_const rfl ?_
                  refine E_cmp3 rfl (by omega) (fun q9 => ?_) (fun q9 => ?_)
                  · refine E_load rfl rfl rfl ?_
                    refine E_getr (c := 12) (r := 44) rfl (hL.lt 43 rfl) (hL.k 43 rfl) rfl hM_10.c1 ?_
                    refine E_const rfl ?_
                    refine E_dup2 rfl rfl rfl ?_
                    refine E_ialn (n := 943) (v := ((b : Nat) : Int)) rfl (hL.lt 44 rfl) (hL.k 44 rfl) (hL.l 44 rfl) (by omega) (((((((((((((rdS hs_10 (by omega)).trans (upd1_ne (by omega))).trans (upd1_ne (by omega))).trans (upd1_ne (by omega))).trans (upd1_ne (by omega))).trans (upd1_ne (by omega))).trans (upd1_ne (by omega))).trans (upd1_ne (by omega))).trans (upd1_ne (by omega))).trans (upd1_ne (by omega))).trans (upd1_ne (by omega))).trans hb)) ?_
                    refine E_const rfl ?_
                    refine E_add rfl ?_
                    refine E_iasg (n := 943) (j := 29) rfl (hL.lt 44 rfl) (hL.k 44 rfl) (hL.l 44 rfl) (by omega) (by omega) (fun c_11 hc_11 => ?_)
                    have hE_11 : Eqk PS c_10 c_11 := by rw [hc_11]; exact Eqk.up rfl
                    have hM_11 : Mc c_11 := by rw [hc_11]; exact hM_10.upo rfl
                    have hs_11 : c_11 44 = upd1 (upd1 (upd1 (upd1 (upd1 (upd1 (upd1 (upd1 (upd1 (upd1 (upd1 s (37 + b) k) (43 + b) v) (1 + b) w) (7 + b) 0) (13 + b) 0) (19 + b) 0) ((49 + (4 * b)) + 0) 0) ((49 + (4 * b)) + 1) 0) ((49 + (4 * b)) + 2) 0) ((49 + (4 * b)) + 3) 0) 29 (((b : Nat) : Int) + 1) := by rw [hc_11]; exact up2_rowS hs_10
                    refine E_load rfl rfl rfl ?_
                    refine E_iret rfl (fun h => absurd h (by decide)) ?_
                    refine mutl (s' := upd1 (upd1 (upd1 (upd1 (upd1 (upd1 (upd1 (upd1 (upd1 (upd1 (upd1 s (37 + b) k) (43 + b) v) (1 + b) w) (7 + b) 0) (13 + b) 0) (19 + b) 0) ((49 + (4 * b)) + 0) 0) ((49 + (4 * b)) + 1) 0) ((49 + (4 * b)) + 2) 0) ((49 + (4 * b)) + 3) 0) 29 (((b : Nat) : Int) + 1)) ?_ hs_11 (hE_1.trans (hE_2.trans (hE_3.trans (hE_4.trans (hE_5.trans (hE_6.trans (hE_7.trans (hE_8.trans (hE_9.trans (hE_10.trans hE_11))))))))))
                    unfold f_bottle nbS
                    try simp only [hb, Int.toNat_natCast]
                    first | (exfalso; omega) | (rw [if_pos (by omega)] <;> rfl) | (rw [if_neg (by omega), if_pos (by omega)] <;> rfl) | (rw [if_neg (by omega)] <;> rfl) | (rw [if_neg (by omega), if_neg (by omega), if_pos (by omega)] <;> rfl) | (rw [if_neg (by omega), if_neg (by omega)] <;> rfl) | (rw [if_neg (by omega), if_neg (by omega), if_neg (by omega), if_pos (by omega)] <;> rfl) | (rw [if_neg (by omega), if_neg (by omega), if_neg (by omega)] <;> rfl) | (rw [if_neg (by omega), if_neg (by omega), if_neg (by omega), if_neg (by omega), if_pos (by omega)] <;> rfl) | (rw [if_neg (by omega), if_neg (by omega), if_neg (by omega), if_neg (by omega)] <;> rfl) | (rw [if_neg (by omega), if_neg (by omega), if_neg (by omega), if_neg (by omega), if_neg (by omega), if_pos (by omega)] <;> rfl) | (rw [if_neg (by omega), if_neg (by omega), if_neg (by omega), if_neg (by omega), if_neg (by omega)] <;> rfl) | (rw [if_neg (by omega), if_neg (by omega), if_neg (by omega), if_neg (by omega), if_neg (by omega), if_neg (by omega), if_pos (by omega)] <;> rfl) | (rw [if_neg (by omega), if_neg (by omega), if_neg (by omega), if_neg (by omega), if_neg (by omega), if_neg (by omega)] <;> rfl)
                  · exfalso; omega
        · refine E_const rfl ?_
          refine E_iret rfl (fun h => absurd h (by decide)) ?_
          refine mutl (s' := s) ?_ hs Eqk.nil
          unfold f_bottle nbS
          try simp only [hb, Int.toNat_natCast]
          first | (exfalso; omega) | (rw [if_pos (by omega)] <;> rfl) | (rw [if_neg (by omega), if_pos (by omega)] <;> rfl) | (rw [if_neg (by omega)] <;> rfl) | (rw [if_neg (by omega), if_neg (by omega), if_pos (by omega)] <;> rfl) | (rw [if_neg (by omega), if_neg (by omega)] <;> rfl) | (rw [if_neg (by omega), if_neg (by omega), if_neg (by omega), if_pos (by omega)] <;> rfl) | (rw [if_neg (by omega), if_neg (by omega), if_neg (by omega)] <;> rfl) | (rw [if_neg (by omega), if_neg (by omega), if_neg (by omega), if_neg (by omega), if_pos (by omega)] <;> rfl) | (rw [if_neg (by omega), if_neg (by omega), if_neg (by omega), if_neg (by omega)] <;> rfl) | (rw [if_neg (by omega), if_neg (by omega), if_neg (by omega), if_neg (by omega), if_neg (by omega), if_pos (by omega)] <;> rfl) | (rw [if_neg (by omega), if_neg (by omega), if_neg (by omega), if_neg (by omega), if_neg (by omega)] <;> rfl) | (rw [if_neg (by omega), if_neg (by omega), if_neg (by omega), if_neg (by omega), if_neg (by omega), if_neg (by omega), if_pos (by omega)] <;> rfl) | (rw [if_neg (by omega), if_neg (by omega), if_neg (by omega), if_neg (by omega), if_neg (by omega), if_neg (by omega)] <;> rfl)
      · replace q3 := bI_z q3
        refine E_const rfl ?_
        refine E_iret rfl (fun h => absurd h (by decide)) ?_
        refine mutl (s' := s) ?_ hs Eqk.nil
        unfold f_bottle nbS
        try simp only [hb, Int.toNat_natCast]
        first | (exfalso; omega) | (rw [if_pos (by omega)] <;> rfl) | (rw [if_neg (by omega), if_pos (by omega)] <;> rfl) | (rw [if_neg (by omega)] <;> rfl) | (rw [if_neg (by omega), if_neg (by omega), if_pos (by omega)] <;> rfl) | (rw [if_neg (by omega), if_neg (by omega)] <;> rfl) | (rw [if_neg (by omega), if_neg (by omega), if_neg (by omega), if_pos (by omega)] <;> rfl) | (rw [if_neg (by omega), if_neg (by omega), if_neg (by omega)] <;> rfl) | (rw [if_neg (by omega), if_neg (by omega), if_neg (by omega), if_neg (by omega), if_pos (by omega)] <;> rfl) | (rw [if_neg (by omega), if_neg (by omega), if_neg (by omega), if_neg (by omega)] <;> rfl) | (rw [if_neg (by omega), if_neg (by omega), if_neg (by omega), if_neg (by omega), if_neg (by omega), if_pos (by omega)] <;> rfl) | (rw [if_neg (by omega), if_neg (by omega), if_neg (by omega), if_neg (by omega), if_neg (by omega)] <;> rfl) | (rw [if_neg (by omega), if_neg (by omega), if_neg (by omega), if_neg (by omega), if_neg (by omega), if_neg (by omega), if_pos (by omega)] <;> rfl) | (rw [if_neg (by omega), if_neg (by omega), if_neg (by omega), if_neg (by omega), if_neg (by omega), if_neg (by omega)] <;> rfl)
  · replace q1 := bI_z q1
    refine E_const rfl ?_
    refine E_iret rfl (fun h => absurd h (by decide)) ?_
    refine mutl (s' := s) ?_ hs Eqk.nil
    unfold f_bottle nbS
    try simp only [hb, Int.toNat_natCast]
    first | (exfalso; omega) | (rw [if_pos (by omega)] <;> rfl) | (rw [if_neg (by omega), if_pos (by omega)] <;> rfl) | (rw [if_neg (by omega)] <;> rfl) | (rw [if_neg (by omega), if_neg (by omega), if_pos (by omega)] <;> rfl) | (rw [if_neg (by omega), if_neg (by omega)] <;> rfl) | (rw [if_neg (by omega), if_neg (by omega), if_neg (by omega), if_pos (by omega)] <;> rfl) | (rw [if_neg (by omega), if_neg (by omega), if_neg (by omega)] <;> rfl) | (rw [if_neg (by omega), if_neg (by omega), if_neg (by omega), if_neg (by omega), if_pos (by omega)] <;> rfl) | (rw [if_neg (by omega), if_neg (by omega), if_neg (by omega), if_neg (by omega)] <;> rfl) | (rw [if_neg (by omega), if_neg (by omega), if_neg (by omega), if_neg (by omega), if_neg (by omega), if_pos (by omega)] <;> rfl) | (rw [if_neg (by omega), if_neg (by omega), if_neg (by omega), if_neg (by omega), if_neg (by omega)] <;> rfl) | (rw [if_neg (by omega), if_neg (by omega), if_neg (by omega), if_neg (by omega), if_neg (by omega), if_neg (by omega), if_pos (by omega)] <;> rfl) | (rw [if_neg (by omega), if_neg (by omega), if_neg (by omega), if_neg (by omega), if_neg (by omega), if_neg (by omega)] <;> rfl)
/-- the bodies that ran, in their places -/
def TrR (L : List Int) (c : Nat → Nat → Int) : Prop := c 43 20 = (L.length : Int) ∧ ∀ j, j < L.length → c 54 j = L.getD j 0
def PT (a k : Nat) : Bool := a == 54 || (a == 43 && k == 20)
theorem PT_PT : ∀ a k, PT a k = false → PT a k = false := fun _ _ h => h
theorem Mc.pt {c c2 : Nat → Nat → Int} (hM : Mc c) (h : Eqk PT c c2) : Mc c2 := hM.ofk fun k hk => h 43 k (by
  have : k ≠ 20 := fun e => by subst e; cases hk
  simp [PT, this])
def uA (kd nu x : Int) : Int × List Int := if isUn kd 1 then (x * 3 + nu, [11, 1]) else if kd = 5 then (mBit 7 (x + nu) nu, [51, 1]) else (x + nu, [1])
def pkA (kd nu v x : Int) : Int × List Int := ((uA kd nu x).1 - v, 2 :: (uA kd nu x).2)
def kA (kd nu v x : Int) : Int × List Int := if isUn kd 2 then (-(pkA kd nu v x).1, 21 :: (pkA kd nu v x).2) else if kd = 6 then ((pkA kd nu v x).1 + v, 61 :: (pkA kd nu v x).2) else pkA kd nu v x
def ptA (kd nu v x : Int) : Int × List Int := ((kA kd nu v x).1 * 2, 3 :: (kA kd nu v x).2)
def tA (kd nu v x : Int) : Int × List Int := if isUn kd 3 then (mBit 7 (ptA kd nu v x).1 7, 31 :: (ptA kd nu v x).2) else if kd = 4 then ((ptA kd nu v (x - 1)).1 + (uA kd nu 2).1, 41 :: ((ptA kd nu v (x - 1)).2 ++ (uA kd nu 2).2)) else ptA kd nu v x
theorem uA_len (kd nu x : Int) : (uA kd nu x).2.length ≤ 2 := by
  unfold uA; split
  · exact Nat.le_refl 2
  · split <;> simp
theorem kA_len (kd nu v x : Int) : (kA kd nu v x).2.length ≤ 4 := by
  have := uA_len kd nu x
  unfold kA pkA
  split
  · simp; omega
  · split <;> (simp; omega)
theorem tA_len (kd nu v x : Int) : (tA kd nu v x).2.length ≤ 8 := by
  have h1 := kA_len kd nu v x
  have h2 := kA_len kd nu v (x - 1)
  have h3 := uA_len kd nu 2
  unfold tA ptA
  split
  · simp; omega
  · split <;> (simp; omega)
def AF (kd nu v : Int) (c : Nat → Nat → Int) : Prop := c 43 21 = kd ∧ c 43 22 = nu ∧ c 43 23 = v
theorem AF.of {kd nu v : Int} {c c2 : Nat → Nat → Int} (h : AF kd nu v c) (e : Eqk PT c c2) : AF kd nu v c2 := ⟨(e 43 21 rfl).trans h.1, (e 43 22 rfl).trans h.2.1, (e 43 23 rfl).trans h.2.2⟩
set_option maxHeartbeats 4000000 in
set_option maxRecDepth 100000 in
theorem n_ranBody {d : Nat} {h : Hp} {c : Nat → Nat → Int} {s : Nat → Int} (hL : Lay h) (hM : Mc c) (hs : c 44 = s) {L : List Int} (hT : TrR L c) (hl : L.length ≤ 19) {x : Int} : Ok (d) 213 [(1, ((43 : Nat) : Int)), (0, x)] (wC h c) (fun r h2 => r = none ∧ ∃ c2, h2 = wC h c2 ∧ TrR (L ++ [x]) c2 ∧ Eqk PT c c2) := by
  show Ex _ none t_X11_ranBody 0 0 _ [] (wC h c) _
  refine E_load rfl rfl rfl ?_
  refine E_getf (c := 12) (v := (0, (L.length : Int))) rfl (hL.lt 43 rfl) (hL.k 43 rfl) rfl (fv hT.1) ?_
  refine E_const rfl ?_
  refine E_cmp3 rfl (by omega) (fun q1 => ?_) (fun q1 => ?_)
  · exfalso; omega
  · refine E_load rfl rfl rfl ?_
    refine E_getr (c := 12) (r := 54) rfl (hL.lt 43 rfl) (hL.k 43 rfl) rfl hM.c19 ?_
    refine E_load rfl rfl rfl ?_
    refine E_getf (c := 12) (v := (0, (L.length : Int))) rfl (hL.lt 43 rfl) (hL.k 43 rfl) rfl (fv hT.1) ?_
    refine E_load rfl rfl rfl ?_
    refine E_iasg (n := 20) (j := L.length) rfl (hL.lt 54 rfl) (hL.k 54 rfl) (hL.l 54 rfl) (by omega) (by omega) (fun c_1 hc_1 => ?_)
    have hE_1 : Eqk PT c c_1 := by rw [hc_1]; exact Eqk.up rfl
    have hM_1 : Mc c_1 := by rw [hc_1]; exact hM.upo rfl
    have hs_1 : c_1 44 = s := by rw [hc_1]; exact (up2_oth rfl).trans hs
    refine E_load rfl rfl rfl ?_
    refine E_dup rfl rfl ?_
    refine E_getf (c := 12) (v := (0, (L.length : Int))) rfl (hL.lt 43 rfl) (hL.k 43 rfl) rfl (fv (by show c_1 43 20 = _; rw [hc_1, up2_oth rfl]; exact hT.1)) ?_
    refine E_const rfl ?_
    refine E_add rfl ?_
    refine E_putg (cl := 12) rfl (hL.lt 43 rfl) (hL.k 43 rfl) rfl (fun c_2 hc_2 => ?_)
    have hE_2 : Eqk PT c_1 c_2 := by rw [hc_2]; exact Eqk.up rfl
    have hM_2 : Mc c_2 := by rw [hc_2]; exact hM_1.up43 rfl
    have hs_2 : c_2 44 = s := by rw [hc_2]; exact (up2_oth rfl).trans hs_1
    have hf20_2 : c_2 43 20 = (((L.length : Nat) : Int) + 1) := by rw [hc_2]; exact up2_same
    refine E_vret rfl ?_
    refine ⟨rfl, c_2, rfl, ⟨?_, fun j hj => ?_⟩, (hE_1.trans hE_2)⟩
    · rw [hc_2, List.length_append]
      exact up2_same
    · rw [hc_2, up2_oth rfl, hc_1, up2_row]
      unfold upd1
      rw [List.length_append] at hj
      simp only [List.length_cons, List.length_nil] at hj
      by_cases e : j = L.length
      · rw [if_pos e, e, List.getD_eq_getElem?_getD, List.getElem?_append_right (Nat.le_refl _), Nat.sub_self]; rfl
      · rw [if_neg e, hT.2 j (by omega), List.getD_eq_getElem?_getD, List.getD_eq_getElem?_getD, List.getElem?_append_left (by omega)]
set_option maxHeartbeats 4000000 in
set_option maxRecDepth 100000 in
theorem n_plainU {d : Nat} {h : Hp} {c : Nat → Nat → Int} {s : Nat → Int} (hL : Lay h) (hM : Mc c) (hs : c 44 = s) {L : List Int} (hT : TrR L c) (hl : L.length ≤ 12) {kd nu v x : Int} (hkr : 0 ≤ kd ∧ kd ≤ 6) (hF : AF kd nu v c) : Ok (d + 1) 215 [(1, ((43 : Nat) : Int)), (0, x)] (wC h c) (fun r h2 => r = some (0, (x + nu, [(1 : Int)]).1) ∧ ∃ c2, h2 = wC h c2 ∧ TrR (L ++ (x + nu, [(1 : Int)]).2) c2 ∧ Eqk PT c c2) := by
  show Ex _ none t_X11_plainUtters 0 0 _ [] (wC h c) _
  refine E_load rfl rfl rfl ?_
  refine E_const rfl ?_
  refine E_V1 (q := 43) (c := 12) (y := 213) rfl rfl (hL.lt 43 rfl) (hL.k 43 rfl) rfl rfl rfl rfl (n_ranBody hL hM hs hT (by first | omega | (have := uA_len kd nu x; have := kA_len kd nu v x; have := kA_len kd nu v (x - 1); have := uA_len kd nu 2; simp only [ptA, List.length_append, List.length_cons, List.length_nil]; omega))) (fun r h2 hq => ?_)
  obtain ⟨rfl, c_1, hh, hT_1, hE_1⟩ := hq
  subst hh
  have hM_1 := hM.pt hE_1
  have hs_1 : c_1 44 = s := (hE_1.row 44 (fun _ => rfl)).trans hs
  have hF_1 := hF.of hE_1
  refine E_load rfl rfl rfl ?_
  refine E_load rfl rfl rfl ?_
  refine E_getf (c := 12) (v := (0, nu)) rfl (hL.lt 43 rfl) (hL.k 43 rfl) rfl (fv hF_1.2.1) ?_
  refine E_add rfl ?_
  refine E_iret rfl (fun h => absurd h (by decide)) ?_
  refine ⟨rfl, c_1, rfl, ?_, hE_1⟩
  have e := hT_1
  try simp only [List.append_assoc, List.cons_append, List.nil_append] at e
  exact e
set_option maxHeartbeats 4000000 in
set_option maxRecDepth 100000 in
theorem n_uA {d : Nat} {h : Hp} {c : Nat → Nat → Int} {s : Nat → Int} (hL : Lay h) (hM : Mc c) (hs : c 44 = s) {L : List Int} (hT : TrR L c) (hl : L.length ≤ 11) {kd nu v x : Int} (hkr : 0 ≤ kd ∧ kd ≤ 6) (hF : AF kd nu v c) : Ok (d + 3) 216 [(1, ((43 : Nat) : Int)), (0, x)] (wC h c) (fun r h2 => r = some (0, (uA kd nu x).1) ∧ ∃ c2, h2 = wC h c2 ∧ TrR (L ++ (uA kd nu x).2) c2 ∧ Eqk PT c c2) := by
  show Ex _ none t_X11_uttersActs 0 0 _ [] (wC h c) _
  refine E_load rfl rfl rfl ?_
  refine E_getf (c := 12) (v := (0, kd)) rfl (hL.lt 43 rfl) (hL.k 43 rfl) rfl (fv hF.1) ?_
  refine E_const rfl ?_
  refine E_S2 (y := 214) rfl rfl rfl rfl rfl (n_isUnder (by omega) (by omega) (by omega)) (fun r h2 hq => ?_)
  obtain ⟨rfl, hh⟩ := hq
  subst hh
  refine E_if0 rfl (bI_R _) (fun q1 => ?_) (fun q1 => ?_)
  · replace q1 := bI_z q1
    refine E_load rfl rfl rfl ?_
    refine E_getf (c := 12) (v := (0, kd)) rfl (hL.lt 43 rfl) (hL.k 43 rfl) rfl (fv hF.1) ?_
    refine E_const rfl ?_
    refine E_cmp1 rfl (by omega) (fun q2 => ?_) (fun q2 => ?_)
    · refine E_load rfl rfl rfl ?_
      refine E_load rfl rfl rfl ?_
      refine E_V1 (q := 43) (c := 12) (y := 215) rfl rfl (hL.lt 43 rfl) (hL.k 43 rfl) rfl rfl rfl rfl (n_plainU hL hM hs hT (by first | omega | (have := uA_len kd nu x; have := kA_len kd nu v x; have := kA_len kd nu v (x - 1); have := uA_len kd nu 2; simp only [ptA, List.length_append, List.length_cons, List.length_nil]; omega)) hkr hF) (fun r h2 hq => ?_)
      obtain ⟨rfl, c_1, hh, hT_1, hE_1⟩ := hq
      subst hh
      have hM_1 := hM.pt hE_1
      have hs_1 : c_1 44 = s := (hE_1.row 44 (fun _ => rfl)).trans hs
      have hF_1 := hF.of hE_1
      refine E_iret rfl (fun h => absurd h (by decide)) ?_
      refine ⟨congrArg (fun z : Int => some (((0 : Nat), z) : AV)) ?_, c_1, rfl, ?_, hE_1⟩
      · unfold uA
        first | (rw [if_pos (by assumption)] <;> rfl) | (rw [if_neg (by assumption), if_pos (by assumption)] <;> rfl) | (rw [if_neg (by assumption), if_neg (by assumption)] <;> rfl)
      · have e := hT_1
        try simp only [List.append_assoc, List.cons_append, List.nil_append] at e
        unfold uA
        first | (rw [if_pos (by assumption)]; exact e) | (rw [if_neg (by assumption), if_pos (by assumption)]; exact e) | (rw [if_neg (by assumption), if_neg (by assumption)]; exact e)
    · refine E_load rfl rfl rfl ?_
      refine E_const rfl ?_
      refine E_V1 (q := 43) (c := 12) (y := 213) rfl rfl (hL.lt 43 rfl) (hL.k 43 rfl) rfl rfl rfl rfl (n_ranBody hL hM hs hT (by first | omega | (have := uA_len kd nu x; have := kA_len kd nu v x; have := kA_len kd nu v (x - 1); have := uA_len kd nu 2; simp only [ptA, List.length_append, List.length_cons, List.length_nil]; omega))) (fun r h2 hq => ?_)
      obtain ⟨rfl, c_2, hh, hT_2, hE_2⟩ := hq
      subst hh
      have hM_2 := hM.pt hE_2
      have hs_2 : c_2 44 = s := (hE_2.row 44 (fun _ => rfl)).trans hs
      have hF_2 := hF.of hE_2
      refine E_load rfl rfl rfl ?_
      refine E_load rfl rfl rfl ?_
      refine E_V1 (q := 43) (c := 12) (y := 215) rfl rfl (hL.lt 43 rfl) (hL.k 43 rfl) rfl rfl rfl rfl (n_plainU hL hM_2 hs_2 hT_2 (by first | omega | (have := uA_len kd nu x; have := kA_len kd nu v x; have := kA_len kd nu v (x - 1); have := uA_len kd nu 2; simp only [ptA, List.length_append, List.length_cons, List.length_nil]; omega)) hkr hF_2) (fun r h2 hq => ?_)
      obtain ⟨rfl, c_3, hh, hT_3, hE_3⟩ := hq
      subst hh
      have hM_3 := hM_2.pt hE_3
      have hs_3 : c_3 44 = s := (hE_3.row 44 (fun _ => rfl)).trans hs_2
      have hF_3 := hF_2.of hE_3
      refine E_load rfl rfl rfl ?_
      refine E_getf (c := 12) (v := (0, nu)) rfl (hL.lt 43 rfl) (hL.k 43 rfl) rfl (fv hF_3.2.1) ?_
      refine E_bit (z := (mBit 7 (x + nu) nu)) rfl rfl rfl ?_
      refine E_iret rfl (fun h => absurd h (by decide)) ?_
      refine ⟨congrArg (fun z : Int => some (((0 : Nat), z) : AV)) ?_, c_3, rfl, ?_, (hE_2.trans hE_3)⟩
      · unfold uA
        first | (rw [if_pos (by assumption)] <;> rfl) | (rw [if_neg (by assumption), if_pos (by assumption)] <;> rfl) | (rw [if_neg (by assumption), if_neg (by assumption)] <;> rfl)
      · have e := hT_3
        try simp only [List.append_assoc, List.cons_append, List.nil_append] at e
        unfold uA
        first | (rw [if_pos (by assumption)]; exact e) | (rw [if_neg (by assumption), if_pos (by assumption)]; exact e) | (rw [if_neg (by assumption), if_neg (by assumption)]; exact e)
  · replace q1 := bI_nz q1
    refine E_load rfl rfl rfl ?_
    refine E_const rfl ?_
    refine E_V1 (q := 43) (c := 12) (y := 213) rfl rfl (hL.lt 43 rfl) (hL.k 43 rfl) rfl rfl rfl rfl (n_ranBody hL hM hs hT (by first | omega | (have := uA_len kd nu x; have := kA_len kd nu v x; have := kA_len kd nu v (x - 1); have := uA_len kd nu 2; simp only [ptA, List.length_append, List.length_cons, List.length_nil]; omega))) (fun r h2 hq => ?_)
    obtain ⟨rfl, c_4, hh, hT_4, hE_4⟩ := hq
    subst hh
    have hM_4 := hM.pt hE_4
    have hs_4 : c_4 44 = s := (hE_4.row 44 (fun _ => rfl)).trans hs
    have hF_4 := hF.of hE_4
    refine E_load rfl rfl rfl ?_
    refine E_load rfl rfl rfl ?_
    refine E_const rfl ?_
    refine E_mul rfl ?_
    refine E_V1 (q := 43) (c := 12) (y := 215) rfl rfl (hL.lt 43 rfl) (hL.k 43 rfl) rfl rfl rfl rfl (n_plainU hL hM_4 hs_4 hT_4 (by first | omega | (have := uA_len kd nu x; have := kA_len kd nu v x; have := kA_len kd nu v (x - 1); have := uA_len kd nu 2; simp only [ptA, List.length_append, List.length_cons, List.length_nil]; omega)) hkr hF_4) (fun r h2 hq => ?_)
    obtain ⟨rfl, c_5, hh, hT_5, hE_5⟩ := hq
    subst hh
    have hM_5 := hM_4.pt hE_5
    have hs_5 : c_5 44 = s := (hE_5.row 44 (fun _ => rfl)).trans hs_4
    have hF_5 := hF_4.of hE_5
    refine E_iret rfl (fun h => absurd h (by decide)) ?_
    refine ⟨congrArg (fun z : Int => some (((0 : Nat), z) : AV)) ?_, c_5, rfl, ?_, (hE_4.trans hE_5)⟩
    · unfold uA
      first | (rw [if_pos (by assumption)] <;> rfl) | (rw [if_neg (by assumption), if_pos (by assumption)] <;> rfl) | (rw [if_neg (by assumption), if_neg (by assumption)] <;> rfl)
    · have e := hT_5
      try simp only [List.append_assoc, List.cons_append, List.nil_append] at e
      unfold uA
      first | (rw [if_pos (by assumption)]; exact e) | (rw [if_neg (by assumption), if_pos (by assumption)]; exact e) | (rw [if_neg (by assumption), if_neg (by assumption)]; exact e)
set_option maxHeartbeats 4000000 in
set_option maxRecDepth 100000 in
theorem n_pk {d : Nat} {h : Hp} {c : Nat → Nat → Int} {s : Nat → Int} (hL : Lay h) (hM : Mc c) (hs : c 44 = s) {L : List Int} (hT : TrR L c) (hl : L.length ≤ 10) {kd nu v x : Int} (hkr : 0 ≤ kd ∧ kd ≤ 6) (hF : AF kd nu v c) : Ok (d + 4) 217 [(1, ((43 : Nat) : Int)), (0, x)] (wC h c) (fun r h2 => r = some (0, (pkA kd nu v x).1) ∧ ∃ c2, h2 = wC h c2 ∧ TrR (L ++ (pkA kd nu v x).2) c2 ∧ Eqk PT c c2) := by
  show Ex _ none t_X11_plainKeeping 0 0 _ [] (wC h c) _
  refine E_load rfl rfl rfl ?_
  refine E_const rfl ?_
  refine E_V1 (q := 43) (c := 12) (y := 213) rfl rfl (hL.lt 43 rfl) (hL.k 43 rfl) rfl rfl rfl rfl (n_ranBody hL hM hs hT (by first | omega | (have := uA_len kd nu x; have := kA_len kd nu v x; have := kA_len kd nu v (x - 1); have := uA_len kd nu 2; simp only [ptA, List.length_append, List.length_cons, List.length_nil]; omega))) (fun r h2 hq => ?_)
  obtain ⟨rfl, c_1, hh, hT_1, hE_1⟩ := hq
  subst hh
  have hM_1 := hM.pt hE_1
  have hs_1 : c_1 44 = s := (hE_1.row 44 (fun _ => rfl)).trans hs
  have hF_1 := hF.of hE_1
  refine E_load rfl rfl rfl ?_
  refine E_load rfl rfl rfl ?_
  refine E_V1 (q := 43) (c := 12) (y := 216) rfl rfl (hL.lt 43 rfl) (hL.k 43 rfl) rfl rfl rfl rfl (n_uA hL hM_1 hs_1 hT_1 (by first | omega | (have := uA_len kd nu x; have := kA_len kd nu v x; have := kA_len kd nu v (x - 1); have := uA_len kd nu 2; simp only [ptA, List.length_append, List.length_cons, List.length_nil]; omega)) hkr hF_1) (fun r h2 hq => ?_)
  obtain ⟨rfl, c_2, hh, hT_2, hE_2⟩ := hq
  subst hh
  have hM_2 := hM_1.pt hE_2
  have hs_2 : c_2 44 = s := (hE_2.row 44 (fun _ => rfl)).trans hs_1
  have hF_2 := hF_1.of hE_2
  refine E_load rfl rfl rfl ?_
  refine E_getf (c := 12) (v := (0, v)) rfl (hL.lt 43 rfl) (hL.k 43 rfl) rfl (fv hF_2.2.2) ?_
  refine E_sub rfl ?_
  refine E_iret rfl (fun h => absurd h (by decide)) ?_
  refine ⟨rfl, c_2, rfl, ?_, (hE_1.trans hE_2)⟩
  have e := hT_2
  try simp only [List.append_assoc, List.cons_append, List.nil_append] at e
  exact e
set_option maxHeartbeats 4000000 in
set_option maxRecDepth 100000 in
theorem n_kA {d : Nat} {h : Hp} {c : Nat → Nat → Int} {s : Nat → Int} (hL : Lay h) (hM : Mc c) (hs : c 44 = s) {L : List Int} (hT : TrR L c) (hl : L.length ≤ 9) {kd nu v x : Int} (hkr : 0 ≤ kd ∧ kd ≤ 6) (hF : AF kd nu v c) : Ok (d + 5) 218 [(1, ((43 : Nat) : Int)), (0, x)] (wC h c) (fun r h2 => r = some (0, (kA kd nu v x).1) ∧ ∃ c2, h2 = wC h c2 ∧ TrR (L ++ (kA kd nu v x).2) c2 ∧ Eqk PT c c2) := by
  show Ex _ none t_X11_keepsActs 0 0 _ [] (wC h c) _
  refine E_load rfl rfl rfl ?_
  refine E_getf (c := 12) (v := (0, kd)) rfl (hL.lt 43 rfl) (hL.k 43 rfl) rfl (fv hF.1) ?_
  refine E_const rfl ?_
  refine E_S2 (y := 214) rfl rfl rfl rfl rfl (n_isUnder (by omega) (by omega) (by omega)) (fun r h2 hq => ?_)
  obtain ⟨rfl, hh⟩ := hq
  subst hh
  refine E_if0 rfl (bI_R _) (fun q1 => ?_) (fun q1 => ?_)
  · replace q1 := bI_z q1
    refine E_load rfl rfl rfl ?_
    refine E_getf (c := 12) (v := (0, kd)) rfl (hL.lt 43 rfl) (hL.k 43 rfl) rfl (fv hF.1) ?_
    refine E_const rfl ?_
    refine E_cmp1 rfl (by omega) (fun q2 => ?_) (fun q2 => ?_)
    · refine E_load rfl rfl rfl ?_
      refine E_load rfl rfl rfl ?_
      refine E_V1 (q := 43) (c := 12) (y := 217) rfl rfl (hL.lt 43 rfl) (hL.k 43 rfl) rfl rfl rfl rfl (n_pk hL hM hs hT (by first | omega | (have := uA_len kd nu x; have := kA_len kd nu v x; have := kA_len kd nu v (x - 1); have := uA_len kd nu 2; simp only [ptA, List.length_append, List.length_cons, List.length_nil]; omega)) hkr hF) (fun r h2 hq => ?_)
      obtain ⟨rfl, c_1, hh, hT_1, hE_1⟩ := hq
      subst hh
      have hM_1 := hM.pt hE_1
      have hs_1 : c_1 44 = s := (hE_1.row 44 (fun _ => rfl)).trans hs
      have hF_1 := hF.of hE_1
      refine E_iret rfl (fun h => absurd h (by decide)) ?_
      refine ⟨congrArg (fun z : Int => some (((0 : Nat), z) : AV)) ?_, c_1, rfl, ?_, hE_1⟩
      · unfold kA
        first | (rw [if_pos (by assumption)] <;> rfl) | (rw [if_neg (by assumption), if_pos (by assumption)] <;> rfl) | (rw [if_neg (by assumption), if_neg (by assumption)] <;> rfl)
      · have e := hT_1
        try simp only [List.append_assoc, List.cons_append, List.nil_append] at e
        unfold kA
        first | (rw [if_pos (by assumption)]; exact e) | (rw [if_neg (by assumption), if_pos (by assumption)]; exact e) | (rw [if_neg (by assumption), if_neg (by assumption)]; exact e)
    · refine E_load rfl rfl rfl ?_
      refine E_const rfl ?_
      refine E_V1 (q := 43) (c := 12) (y := 213) rfl rfl (hL.lt 43 rfl) (hL.k 43 rfl) rfl rfl rfl rfl (n_ranBody hL hM hs hT (by first | omega | (have := uA_len kd nu x; have := kA_len kd nu v x; have := kA_len kd nu v (x - 1); have := uA_len kd nu 2; simp only [ptA, List.length_append, List.length_cons, List.length_nil]; omega))) (fun r h2 hq => ?_)
      obtain ⟨rfl, c_2, hh, hT_2, hE_2⟩ := hq
      subst hh
      have hM_2 := hM.pt hE_2
      have hs_2 : c_2 44 = s := (hE_2.row 44 (fun _ => rfl)).trans hs
      have hF_2 := hF.of hE_2
      refine E_load rfl rfl rfl ?_
      refine E_load rfl rfl rfl ?_
      refine E_V1 (q := 43) (c := 12) (y := 217) rfl rfl (hL.lt 43 rfl) (hL.k 43 rfl) rfl rfl rfl rfl (n_pk hL hM_2 hs_2 hT_2 (by first | omega | (have := uA_len kd nu x; have := kA_len kd nu v x; have := kA_len kd nu v (x - 1); have := uA_len kd nu 2; simp only [ptA, List.length_append, List.length_cons, List.length_nil]; omega)) hkr hF_2) (fun r h2 hq => ?_)
      obtain ⟨rfl, c_3, hh, hT_3, hE_3⟩ := hq
      subst hh
      have hM_3 := hM_2.pt hE_3
      have hs_3 : c_3 44 = s := (hE_3.row 44 (fun _ => rfl)).trans hs_2
      have hF_3 := hF_2.of hE_3
      refine E_load rfl rfl rfl ?_
      refine E_getf (c := 12) (v := (0, v)) rfl (hL.lt 43 rfl) (hL.k 43 rfl) rfl (fv hF_3.2.2) ?_
      refine E_add rfl ?_
      refine E_iret rfl (fun h => absurd h (by decide)) ?_
      refine ⟨congrArg (fun z : Int => some (((0 : Nat), z) : AV)) ?_, c_3, rfl, ?_, (hE_2.trans hE_3)⟩
      · unfold kA
        first | (rw [if_pos (by assumption)] <;> rfl) | (rw [if_neg (by assumption), if_pos (by assumption)] <;> rfl) | (rw [if_neg (by assumption), if_neg (by assumption)] <;> rfl)
      · have e := hT_3
        try simp only [List.append_assoc, List.cons_append, List.nil_append] at e
        unfold kA
        first | (rw [if_pos (by assumption)]; exact e) | (rw [if_neg (by assumption), if_pos (by assumption)]; exact e) | (rw [if_neg (by assumption), if_neg (by assumption)]; exact e)
  · replace q1 := bI_nz q1
    refine E_load rfl rfl rfl ?_
    refine E_const rfl ?_
    refine E_V1 (q := 43) (c := 12) (y := 213) rfl rfl (hL.lt 43 rfl) (hL.k 43 rfl) rfl rfl rfl rfl (n_ranBody hL hM hs hT (by first | omega | (have := uA_len kd nu x; have := kA_len kd nu v x; have := kA_len kd nu v (x - 1); have := uA_len kd nu 2; simp only [ptA, List.length_append, List.length_cons, List.length_nil]; omega))) (fun r h2 hq => ?_)
    obtain ⟨rfl, c_4, hh, hT_4, hE_4⟩ := hq
    subst hh
    have hM_4 := hM.pt hE_4
    have hs_4 : c_4 44 = s := (hE_4.row 44 (fun _ => rfl)).trans hs
    have hF_4 := hF.of hE_4
    refine E_load rfl rfl rfl ?_
    refine E_load rfl rfl rfl ?_
    refine E_V1 (q := 43) (c := 12) (y := 217) rfl rfl (hL.lt 43 rfl) (hL.k 43 rfl) rfl rfl rfl rfl (n_pk hL hM_4 hs_4 hT_4 (by first | omega | (have := uA_len kd nu x; have := kA_len kd nu v x; have := kA_len kd nu v (x - 1); have := uA_len kd nu 2; simp only [ptA, List.length_append, List.length_cons, List.length_nil]; omega)) hkr hF_4) (fun r h2 hq => ?_)
    obtain ⟨rfl, c_5, hh, hT_5, hE_5⟩ := hq
    subst hh
    have hM_5 := hM_4.pt hE_5
    have hs_5 : c_5 44 = s := (hE_5.row 44 (fun _ => rfl)).trans hs_4
    have hF_5 := hF_4.of hE_5
    refine E_neg rfl ?_
    refine E_iret rfl (fun h => absurd h (by decide)) ?_
    refine ⟨congrArg (fun z : Int => some (((0 : Nat), z) : AV)) ?_, c_5, rfl, ?_, (hE_4.trans hE_5)⟩
    · unfold kA
      first | (rw [if_pos (by assumption)] <;> rfl) | (rw [if_neg (by assumption), if_pos (by assumption)] <;> rfl) | (rw [if_neg (by assumption), if_neg (by assumption)] <;> rfl)
    · have e := hT_5
      try simp only [List.append_assoc, List.cons_append, List.nil_append] at e
      unfold kA
      first | (rw [if_pos (by assumption)]; exact e) | (rw [if_neg (by assumption), if_pos (by assumption)]; exact e) | (rw [if_neg (by assumption), if_neg (by assumption)]; exact e)
set_option maxHeartbeats 4000000 in
set_option maxRecDepth 100000 in
theorem n_pt {d : Nat} {h : Hp} {c : Nat → Nat → Int} {s : Nat → Int} (hL : Lay h) (hM : Mc c) (hs : c 44 = s) {L : List Int} (hT : TrR L c) (hl : L.length ≤ 8) {kd nu v x : Int} (hkr : 0 ≤ kd ∧ kd ≤ 6) (hF : AF kd nu v c) : Ok (d + 6) 219 [(1, ((43 : Nat) : Int)), (0, x)] (wC h c) (fun r h2 => r = some (0, (ptA kd nu v x).1) ∧ ∃ c2, h2 = wC h c2 ∧ TrR (L ++ (ptA kd nu v x).2) c2 ∧ Eqk PT c c2) := by
  show Ex _ none t_X11_plainTelling 0 0 _ [] (wC h c) _
  refine E_load rfl rfl rfl ?_
  refine E_const rfl ?_
  refine E_V1 (q := 43) (c := 12) (y := 213) rfl rfl (hL.lt 43 rfl) (hL.k 43 rfl) rfl rfl rfl rfl (n_ranBody hL hM hs hT (by first | omega | (have := uA_len kd nu x; have := kA_len kd nu v x; have := kA_len kd nu v (x - 1); have := uA_len kd nu 2; simp only [ptA, List.length_append, List.length_cons, List.length_nil]; omega))) (fun r h2 hq => ?_)
  obtain ⟨rfl, c_1, hh, hT_1, hE_1⟩ := hq
  subst hh
  have hM_1 := hM.pt hE_1
  have hs_1 : c_1 44 = s := (hE_1.row 44 (fun _ => rfl)).trans hs
  have hF_1 := hF.of hE_1
  refine E_load rfl rfl rfl ?_
  refine E_load rfl rfl rfl ?_
  refine E_V1 (q := 43) (c := 12) (y := 218) rfl rfl (hL.lt 43 rfl) (hL.k 43 rfl) rfl rfl rfl rfl (n_kA hL hM_1 hs_1 hT_1 (by first | omega | (have := uA_len kd nu x; have := kA_len kd nu v x; have := kA_len kd nu v (x - 1); have := uA_len kd nu 2; simp only [ptA, List.length_append, List.length_cons, List.length_nil]; omega)) hkr hF_1) (fun r h2 hq => ?_)
  obtain ⟨rfl, c_2, hh, hT_2, hE_2⟩ := hq
  subst hh
  have hM_2 := hM_1.pt hE_2
  have hs_2 : c_2 44 = s := (hE_2.row 44 (fun _ => rfl)).trans hs_1
  have hF_2 := hF_1.of hE_2
  refine E_const rfl ?_
  refine E_mul rfl ?_
  refine E_iret rfl (fun h => absurd h (by decide)) ?_
  refine ⟨rfl, c_2, rfl, ?_, (hE_1.trans hE_2)⟩
  have e := hT_2
  try simp only [List.append_assoc, List.cons_append, List.nil_append] at e
  exact e
set_option maxHeartbeats 4000000 in
set_option maxRecDepth 100000 in
theorem n_tA {d : Nat} {h : Hp} {c : Nat → Nat → Int} {s : Nat → Int} (hL : Lay h) (hM : Mc c) (hs : c 44 = s) {L : List Int} (hT : TrR L c) (hl : L.length ≤ 0) {kd nu v x : Int} (hkr : 0 ≤ kd ∧ kd ≤ 6) (hF : AF kd nu v c) : Ok (d + 7) 220 [(1, ((43 : Nat) : Int)), (0, x)] (wC h c) (fun r h2 => r = some (0, (tA kd nu v x).1) ∧ ∃ c2, h2 = wC h c2 ∧ TrR (L ++ (tA kd nu v x).2) c2 ∧ Eqk PT c c2) := by
  show Ex _ none t_X11_tellsActs 0 0 _ [] (wC h c) _
  refine E_load rfl rfl rfl ?_
  refine E_getf (c := 12) (v := (0, kd)) rfl (hL.lt 43 rfl) (hL.k 43 rfl) rfl (fv hF.1) ?_
  refine E_const rfl ?_
  refine E_S2 (y := 214) rfl rfl rfl rfl rfl (n_isUnder (by omega) (by omega) (by omega)) (fun r h2 hq => ?_)
  obtain ⟨rfl, hh⟩ := hq
  subst hh
  refine E_if0 rfl (bI_R _) (fun q1 => ?_) (fun q1 => ?_)
  · replace q1 := bI_z q1
    refine E_load rfl rfl rfl ?_
    refine E_getf (c := 12) (v := (0, kd)) rfl (hL.lt 43 rfl) (hL.k 43 rfl) rfl (fv hF.1) ?_
    refine E_const rfl ?_
    refine E_cmp1 rfl (by omega) (fun q2 => ?_) (fun q2 => ?_)
    · refine E_load rfl rfl rfl ?_
      refine E_load rfl rfl rfl ?_
      refine E_V1 (q := 43) (c := 12) (y := 219) rfl rfl (hL.lt 43 rfl) (hL.k 43 rfl) rfl rfl rfl rfl (n_pt hL hM hs hT (by first | omega | (have := uA_len kd nu x; have := kA_len kd nu v x; have := kA_len kd nu v (x - 1); have := uA_len kd nu 2; simp only [ptA, List.length_append, List.length_cons, List.length_nil]; omega)) hkr hF) (fun r h2 hq => ?_)
      obtain ⟨rfl, c_1, hh, hT_1, hE_1⟩ := hq
      subst hh
      have hM_1 := hM.pt hE_1
      have hs_1 : c_1 44 = s := (hE_1.row 44 (fun _ => rfl)).trans hs
      have hF_1 := hF.of hE_1
      refine E_iret rfl (fun h => absurd h (by decide)) ?_
      refine ⟨congrArg (fun z : Int => some (((0 : Nat), z) : AV)) ?_, c_1, rfl, ?_, hE_1⟩
      · unfold tA
        first | (rw [if_pos (by assumption)] <;> rfl) | (rw [if_neg (by assumption), if_pos (by assumption)] <;> rfl) | (rw [if_neg (by assumption), if_neg (by assumption)] <;> rfl)
      · have e := hT_1
        try simp only [List.append_assoc, List.cons_append, List.nil_append] at e
        unfold tA
        first | (rw [if_pos (by assumption)]; exact e) | (rw [if_neg (by assumption), if_pos (by assumption)]; exact e) | (rw [if_neg (by assumption), if_neg (by assumption)]; exact e)
    · refine E_load rfl rfl rfl ?_
      refine E_const rfl ?_
      refine E_V1 (q := 43) (c := 12) (y := 213) rfl rfl (hL.lt 43 rfl) (hL.k 43 rfl) rfl rfl rfl rfl (n_ranBody hL hM hs hT (by first | omega | (have := uA_len kd nu x; have := kA_len kd nu v x; have := kA_len kd nu v (x - 1); have := uA_len kd nu 2; simp only [ptA, List.length_append, List.length_cons, List.length_nil]; omega))) (fun r h2 hq => ?_)
      obtain ⟨rfl, c_2, hh, hT_2, hE_2⟩ := hq
      subst hh
      have hM_2 := hM.pt hE_2
      have hs_2 : c_2 44 = s := (hE_2.row 44 (fun _ => rfl)).trans hs
      have hF_2 := hF.of hE_2
      refine E_load rfl rfl rfl ?_
      refine E_load rfl rfl rfl ?_
      refine E_const rfl ?_
      refine E_sub rfl ?_
      refine E_V1 (q := 43) (c := 12) (y := 219) rfl rfl (hL.lt 43 rfl) (hL.k 43 rfl) rfl rfl rfl rfl (n_pt hL hM_2 hs_2 hT_2 (by first | omega | (have := uA_len kd nu x; have := kA_len kd nu v x; have := kA_len kd nu v (x - 1); have := uA_len kd nu 2; simp only [ptA, List.length_append, List.length_cons, List.length_nil]; omega)) hkr hF_2) (fun r h2 hq => ?_)
      obtain ⟨rfl, c_3, hh, hT_3, hE_3⟩ := hq
      subst hh
      have hM_3 := hM_2.pt hE_3
      have hs_3 : c_3 44 = s := (hE_3.row 44 (fun _ => rfl)).trans hs_2
      have hF_3 := hF_2.of hE_3
      refine E_store rfl rfl rfl ?_
      refine E_load rfl rfl rfl ?_
      refine E_load rfl rfl rfl ?_
      refine E_const rfl ?_
      refine E_V1 (q := 43) (c := 12) (y := 216) rfl rfl (hL.lt 43 rfl) (hL.k 43 rfl) rfl rfl rfl rfl (n_uA hL hM_3 hs_3 hT_3 (by first | omega | (have := uA_len kd nu x; have := kA_len kd nu v x; have := kA_len kd nu v (x - 1); have := uA_len kd nu 2; simp only [ptA, List.length_append, List.length_cons, List.length_nil]; omega)) hkr hF_3) (fun r h2 hq => ?_)
      obtain ⟨rfl, c_4, hh, hT_4, hE_4⟩ := hq
      subst hh
      have hM_4 := hM_3.pt hE_4
      have hs_4 : c_4 44 = s := (hE_4.row 44 (fun _ => rfl)).trans hs_3
      have hF_4 := hF_3.of hE_4
      refine E_add rfl ?_
      refine E_iret rfl (fun h => absurd h (by decide)) ?_
      refine ⟨congrArg (fun z : Int => some (((0 : Nat), z) : AV)) ?_, c_4, rfl, ?_, (hE_2.trans (hE_3.trans hE_4))⟩
      · unfold tA
        first | (rw [if_pos (by assumption)] <;> rfl) | (rw [if_neg (by assumption), if_pos (by assumption)] <;> rfl) | (rw [if_neg (by assumption), if_neg (by assumption)] <;> rfl)
      · have e := hT_4
        try simp only [List.append_assoc, List.cons_append, List.nil_append] at e
        unfold tA
        first | (rw [if_pos (by assumption)]; exact e) | (rw [if_neg (by assumption), if_pos (by assumption)]; exact e) | (rw [if_neg (by assumption), if_neg (by assumption)]; exact e)
  · replace q1 := bI_nz q1
    refine E_load rfl rfl rfl ?_
    refine E_const rfl ?_
    refine E_V1 (q := 43) (c := 12) (y := 213) rfl rfl (hL.lt 43 rfl) (hL.k 43 rfl) rfl rfl rfl rfl (n_ranBody hL hM hs hT (by first | omega | (have := uA_len kd nu x; have := kA_len kd nu v x; have := kA_len kd nu v (x - 1); have := uA_len kd nu 2; simp only [ptA, List.length_append, List.length_cons, List.length_nil]; omega))) (fun r h2 hq => ?_)
    obtain ⟨rfl, c_5, hh, hT_5, hE_5⟩ := hq
    subst hh
    have hM_5 := hM.pt hE_5
    have hs_5 : c_5 44 = s := (hE_5.row 44 (fun _ => rfl)).trans hs
    have hF_5 := hF.of hE_5
    refine E_load rfl rfl rfl ?_
    refine E_load rfl rfl rfl ?_
    refine E_V1 (q := 43) (c := 12) (y := 219) rfl rfl (hL.lt 43 rfl) (hL.k 43 rfl) rfl rfl rfl rfl (n_pt hL hM_5 hs_5 hT_5 (by first | omega | (have := uA_len kd nu x; have := kA_len kd nu v x; have := kA_len kd nu v (x - 1); have := uA_len kd nu 2; simp only [ptA, List.length_append, List.length_cons, List.length_nil]; omega)) hkr hF_5) (fun r h2 hq => ?_)
    obtain ⟨rfl, c_6, hh, hT_6, hE_6⟩ := hq
    subst hh
    have hM_6 := hM_5.pt hE_6
    have hs_6 : c_6 44 = s := (hE_6.row 44 (fun _ => rfl)).trans hs_5
    have hF_6 := hF_5.of hE_6
    refine E_const rfl ?_
    refine E_bit (z := (mBit 7 (ptA kd nu v x).1 7)) rfl rfl rfl ?_
    refine E_iret rfl (fun h => absurd h (by decide)) ?_
    refine ⟨congrArg (fun z : Int => some (((0 : Nat), z) : AV)) ?_, c_6, rfl, ?_, (hE_5.trans hE_6)⟩
    · unfold tA
      first | (rw [if_pos (by assumption)] <;> rfl) | (rw [if_neg (by assumption), if_pos (by assumption)] <;> rfl) | (rw [if_neg (by assumption), if_neg (by assumption)] <;> rfl)
    · have e := hT_6
      try simp only [List.append_assoc, List.cons_append, List.nil_append] at e
      unfold tA
      first | (rw [if_pos (by assumption)]; exact e) | (rw [if_neg (by assumption), if_pos (by assumption)]; exact e) | (rw [if_neg (by assumption), if_neg (by assumption)]; exact e)
