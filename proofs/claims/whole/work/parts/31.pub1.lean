set_option maxHeartbeats 4000000 in
set_option maxRecDepth 100000 in
theorem n_feed {d : Nat} {h : Hp} {c : Nat → Nat → Int} {s : Nat → Int} (hL : Lay h) (hM : Mc c) (hs : c 44 = s) (hA : Inv s) {x : Int} (hx : inR x) : Ok (d + 6) 149 [(1, ((43 : Nat) : Int)), (0, x)] (wC h c) (fun r h2 => r = some (0, (f_feed s x).1) ∧ ∃ c2, h2 = wC h c2 ∧ c2 44 = (f_feed s x).2 ∧ Eqk PS c c2) := by
  show Ex _ none t_X11_feed 0 0 _ [] (wC h c) _
  obtain ⟨hI, hH, ⟨⟨n29, n30, n31, n32, n33, n34, n36⟩, nM⟩, hX⟩ := hA
  refine E_load rfl rfl rfl ?_
  refine E_const rfl ?_
  refine E_const rfl ?_
  refine E_S3 (y := 139) rfl rfl rfl rfl rfl (m_in (by omega) (by omega) (by omega)) (fun r h2 hq => ?_)
  obtain ⟨rfl, hh⟩ := hq
  subst hh
  refine E_if1 rfl (bI_R _) (fun q1 => ?_) (fun q1 => ?_)
  · replace q1 := bI_nz q1
    refine E_load rfl rfl rfl ?_
    refine E_getr (c := 12) (r := 44) rfl (hL.lt 43 rfl) (hL.k 43 rfl) rfl hM.c1 ?_
    refine E_const rfl ?_
    refine E_ialn (n := 943) (v := (s 34)) rfl (hL.lt 44 rfl) (hL.k 44 rfl) (hL.l 44 rfl) (by omega) (rdS hs (by omega)) ?_
    refine E_const rfl ?_
    refine E_cmp1 rfl (by omega) (fun q2 => ?_) (fun q2 => ?_)
    · refine E_load rfl rfl rfl ?_
      refine E_getr (c := 12) (r := 44) rfl (hL.lt 43 rfl) (hL.k 43 rfl) rfl hM.c1 ?_
      refine E_const rfl ?_
      refine E_load rfl rfl rfl ?_
      refine E_getr (c := 12) (r := 44) rfl (hL.lt 43 rfl) (hL.k 43 rfl) rfl hM.c1 ?_
      refine E_const rfl ?_
      refine E_ialn (n := 943) (v := (s 34)) rfl (hL.lt 44 rfl) (hL.k 44 rfl) (hL.l 44 rfl) (by omega) (rdS hs (by omega)) ?_
      refine E_add rfl ?_
      refine E_load rfl rfl rfl ?_
      refine E_iasg (n := 943) (j := (128 + (Int.toNat (s 34)))) rfl (hL.lt 44 rfl) (hL.k 44 rfl) (hL.l 44 rfl) (by omega) (by omega) (fun c_1 hc_1 => ?_)
      have hE_1 : Eqk PS c c_1 := by rw [hc_1]; exact Eqk.up rfl
      have hM_1 : Mc c_1 := by rw [hc_1]; exact hM.upo rfl
      have hs_1 : c_1 44 = upd1 s (128 + (Int.toNat (s 34))) x := by rw [hc_1]; exact up2_rowS hs
      refine E_load rfl rfl rfl ?_
      refine E_getr (c := 12) (r := 44) rfl (hL.lt 43 rfl) (hL.k 43 rfl) rfl hM_1.c1 ?_
      refine E_const rfl ?_
      refine E_dup2 rfl rfl rfl ?_
      refine E_ialn (n := 943) (v := (s 34)) rfl (hL.lt 44 rfl) (hL.k 44 rfl) (hL.l 44 rfl) (by omega) ((rdS hs_1 (by omega)).trans (upd1_ne (by omega))) ?_
      refine E_const rfl ?_
      refine E_add rfl ?_
      refine E_iasg (n := 943) (j := 34) rfl (hL.lt 44 rfl) (hL.k 44 rfl) (hL.l 44 rfl) (by omega) (by omega) (fun c_2 hc_2 => ?_)
      have hE_2 : Eqk PS c_1 c_2 := by rw [hc_2]; exact Eqk.up rfl
      have hM_2 : Mc c_2 := by rw [hc_2]; exact hM_1.upo rfl
      have hs_2 : c_2 44 = upd1 (upd1 s (128 + (Int.toNat (s 34))) x) 34 ((s 34) + 1) := by rw [hc_2]; exact up2_rowS hs_1
      refine E_load rfl rfl rfl ?_
      refine E_getr (c := 12) (r := 44) rfl (hL.lt 43 rfl) (hL.k 43 rfl) rfl hM_2.c1 ?_
      refine E_const rfl ?_
      refine E_ialn (n := 943) (v := ((s 34) + 1)) rfl (hL.lt 44 rfl) (hL.k 44 rfl) (hL.l 44 rfl) (by omega) ((rdS hs_2 (by omega)).trans upd1_same) ?_
      refine E_iret rfl (fun h => absurd h (by decide)) ?_
      refine mutl (s' := upd1 (upd1 s (128 + (Int.toNat (s 34))) x) 34 ((s 34) + 1)) ?_ hs_2 (hE_1.trans hE_2)
      unfold f_feed
      try simp only [Int.toNat_natCast]
      (repeat' split) <;> first | rfl | (exfalso; omega) | (congr 1; omega) | omega
    · refine E_const rfl ?_
      refine E_iret rfl (fun h => absurd h (by decide)) ?_
      refine mutl (s' := s) ?_ hs Eqk.nil
      unfold f_feed
      try simp only [Int.toNat_natCast]
      (repeat' split) <;> first | rfl | (exfalso; omega) | (congr 1; omega) | omega
  · replace q1 := bI_z q1
    refine E_const rfl ?_
    refine E_iret rfl (fun h => absurd h (by decide)) ?_
    refine mutl (s' := s) ?_ hs Eqk.nil
    unfold f_feed
    try simp only [Int.toNat_natCast]
    (repeat' split) <;> first | rfl | (exfalso; omega) | (congr 1; omega) | omega
set_option maxHeartbeats 4000000 in
set_option maxRecDepth 100000 in
theorem n_guest {d : Nat} {h : Hp} {c : Nat → Nat → Int} {s : Nat → Int} (hL : Lay h) (hM : Mc c) (hs : c 44 = s) (hA : Inv s) {x : Int} (hx : inR x) : Ok (d + 6) 169 [(1, ((43 : Nat) : Int)), (0, x)] (wC h c) (fun r h2 => r = some (0, (f_guest s x).1) ∧ ∃ c2, h2 = wC h c2 ∧ c2 44 = (f_guest s x).2 ∧ Eqk PS c c2) := by
  show Ex _ none t_X11_guest 0 0 _ [] (wC h c) _
  obtain ⟨hI, hH, ⟨⟨n29, n30, n31, n32, n33, n34, n36⟩, nM⟩, hX⟩ := hA
  refine E_load rfl rfl rfl ?_
  refine E_S1 (y := 145) rfl rfl rfl rfl rfl (m_isMood (by omega)) (fun r h2 hq => ?_)
  obtain ⟨rfl, hh⟩ := hq
  subst hh
  refine E_if1 rfl (bI_R _) (fun q1 => ?_) (fun q1 => ?_)
  · replace q1 := bI_nz q1
    refine E_load rfl rfl rfl ?_
    refine E_getr (c := 12) (r := 44) rfl (hL.lt 43 rfl) (hL.k 43 rfl) rfl hM.c1 ?_
    refine E_const rfl ?_
    refine E_ialn (n := 943) (v := (s 36)) rfl (hL.lt 44 rfl) (hL.k 44 rfl) (hL.l 44 rfl) (by omega) (rdS hs (by omega)) ?_
    refine E_const rfl ?_
    refine E_cmp1 rfl (by omega) (fun q2 => ?_) (fun q2 => ?_)
    · refine E_load rfl rfl rfl ?_
      refine E_getr (c := 12) (r := 44) rfl (hL.lt 43 rfl) (hL.k 43 rfl) rfl hM.c1 ?_
      refine E_const rfl ?_
      refine E_load rfl rfl rfl ?_
      refine E_getr (c := 12) (r := 44) rfl (hL.lt 43 rfl) (hL.k 43 rfl) rfl hM.c1 ?_
      refine E_const rfl ?_
      refine E_ialn (n := 943) (v := (s 36)) rfl (hL.lt 44 rfl) (hL.k 44 rfl) (hL.l 44 rfl) (by omega) (rdS hs (by omega)) ?_
      refine E_add rfl ?_
      refine E_load rfl rfl rfl ?_
      refine E_iasg (n := 943) (j := (25 + (Int.toNat (s 36)))) rfl (hL.lt 44 rfl) (hL.k 44 rfl) (hL.l 44 rfl) (by omega) (by omega) (fun c_1 hc_1 => ?_)
      have hE_1 : Eqk PS c c_1 := by rw [hc_1]; exact Eqk.up rfl
      have hM_1 : Mc c_1 := by rw [hc_1]; exact hM.upo rfl
      have hs_1 : c_1 44 = upd1 s (25 + (Int.toNat (s 36))) x := by rw [hc_1]; exact up2_rowS hs
      refine E_load rfl rfl rfl ?_
      refine E_getr (c := 12) (r := 44) rfl (hL.lt 43 rfl) (hL.k 43 rfl) rfl hM_1.c1 ?_
      refine E_const rfl ?_
      refine E_dup2 rfl rfl rfl ?_
      refine E_ialn (n := 943) (v := (s 36)) rfl (hL.lt 44 rfl) (hL.k 44 rfl) (hL.l 44 rfl) (by omega) ((rdS hs_1 (by omega)).trans (upd1_ne (by omega))) ?_
      refine E_const rfl ?_
      refine E_add rfl ?_
      refine E_iasg (n := 943) (j := 36) rfl (hL.lt 44 rfl) (hL.k 44 rfl) (hL.l 44 rfl) (by omega) (by omega) (fun c_2 hc_2 => ?_)
      have hE_2 : Eqk PS c_1 c_2 := by rw [hc_2]; exact Eqk.up rfl
      have hM_2 : Mc c_2 := by rw [hc_2]; exact hM_1.upo rfl
      have hs_2 : c_2 44 = upd1 (upd1 s (25 + (Int.toNat (s 36))) x) 36 ((s 36) + 1) := by rw [hc_2]; exact up2_rowS hs_1
      refine E_load rfl rfl rfl ?_
      refine E_getr (c := 12) (r := 44) rfl (hL.lt 43 rfl) (hL.k 43 rfl) rfl hM_2.c1 ?_
      refine E_const rfl ?_
      refine E_ialn (n := 943) (v := ((s 36) + 1)) rfl (hL.lt 44 rfl) (hL.k 44 rfl) (hL.l 44 rfl) (by omega) ((rdS hs_2 (by omega)).trans upd1_same) ?_
      refine E_const rfl ?_
      refine E_sub rfl ?_
      refine E_iret rfl (fun h => absurd h (by decide)) ?_
      refine mutl (s' := upd1 (upd1 s (25 + (Int.toNat (s 36))) x) 36 ((s 36) + 1)) ?_ hs_2 (hE_1.trans hE_2)
      unfold f_guest
      try simp only [Int.toNat_natCast]
      (repeat' split) <;> first | rfl | (exfalso; omega) | (congr 1; omega) | omega
    · refine E_const rfl ?_
      refine E_iret rfl (fun h => absurd h (by decide)) ?_
      refine mutl (s' := s) ?_ hs Eqk.nil
      unfold f_guest
      try simp only [Int.toNat_natCast]
      (repeat' split) <;> first | rfl | (exfalso; omega) | (congr 1; omega) | omega
  · replace q1 := bI_z q1
    refine E_const rfl ?_
    refine E_iret rfl (fun h => absurd h (by decide)) ?_
    refine mutl (s' := s) ?_ hs Eqk.nil
    unfold f_guest
    try simp only [Int.toNat_natCast]
    (repeat' split) <;> first | rfl | (exfalso; omega) | (congr 1; omega) | omega
set_option maxHeartbeats 4000000 in
set_option maxRecDepth 100000 in
theorem n_mood {d : Nat} {h : Hp} {c : Nat → Nat → Int} {s : Nat → Int} (hL : Lay h) (hM : Mc c) (hs : c 44 = s) (hA : Inv s) {x : Int} (hx : inR x) : Ok (d + 6) 173 [(1, ((43 : Nat) : Int)), (0, x)] (wC h c) (fun r h2 => r = some (0, a_mood s x) ∧ ∃ c2, h2 = wC h c2 ∧ Eqk PQ c c2) := by
  show Ex _ none t_X11_mood 0 0 _ [] (wC h c) _
  obtain ⟨hI, hH, ⟨⟨n29, n30, n31, n32, n33, n34, n36⟩, nM⟩, hX⟩ := hA
  refine E_load rfl rfl rfl ?_
  refine E_load rfl rfl rfl ?_
  refine E_V1 (q := 43) (c := 12) (y := 144) rfl rfl (hL.lt 43 rfl) (hL.k 43 rfl) rfl rfl rfl rfl (n_isGuest hL hM hs (by omega) (by omega)) (fun r h2 hq => ?_)
  obtain ⟨rfl, hh⟩ := hq
  subst hh
  refine E_if0 rfl (bI_R _) (fun q1 => ?_) (fun q1 => ?_)
  · replace q1 := bI_z q1
    refine E_const rfl ?_
    refine E_iret rfl (fun h => absurd h (by decide)) ?_
    refine qryl ?_ Eqk.nil
    unfold a_mood
    try simp only [Int.toNat_natCast]
    (repeat' split) <;> first | rfl | (exfalso; omega) | (congr 1; omega) | omega
  · replace q1 := bI_nz q1
    obtain ⟨b, rfl⟩ := Int.eq_ofNat_of_zero_le q1.1
    refine E_load rfl rfl rfl ?_
    refine E_getr (c := 12) (r := 44) rfl (hL.lt 43 rfl) (hL.k 43 rfl) rfl hM.c1 ?_
    refine E_const rfl ?_
    refine E_load rfl rfl rfl ?_
    refine E_add rfl ?_
    refine E_ialn (n := 943) (v := (s ((25 + b)))) rfl (hL.lt 44 rfl) (hL.k 44 rfl) (hL.l 44 rfl) (by omega) (rdS hs (by omega)) ?_
    refine E_goto rfl ?_
    refine E_iret rfl (fun h => absurd h (by decide)) ?_
    refine qryl ?_ Eqk.nil
    unfold a_mood
    try simp only [Int.toNat_natCast]
    (repeat' split) <;> first | rfl | (exfalso; omega) | (congr 1; omega) | omega
set_option maxHeartbeats 4000000 in
set_option maxRecDepth 100000 in
theorem n_row {d : Nat} {h : Hp} {c : Nat → Nat → Int} {s : Nat → Int} (hL : Lay h) (hM : Mc c) (hs : c 44 = s) (hA : Inv s) {x : Int} (hx : inR x) {k : Int} (hk : inR k) {n : Int} (hn : inR n) : Ok (d + 6) 171 [(1, ((43 : Nat) : Int)), (0, x), (0, k), (0, n)] (wC h c) (fun r h2 => r = some (0, (f_row s x k n).1) ∧ ∃ c2, h2 = wC h c2 ∧ c2 44 = (f_row s x k n).2 ∧ Eqk PS c c2) := by
  show Ex _ none t_X11_row 0 0 _ [] (wC h c) _
  obtain ⟨hI, hH, ⟨⟨n29, n30, n31, n32, n33, n34, n36⟩, nM⟩, hX⟩ := hA
  refine E_load rfl rfl rfl ?_
  refine E_load rfl rfl rfl ?_
  refine E_V1 (q := 43) (c := 12) (y := 143) rfl rfl (hL.lt 43 rfl) (hL.k 43 rfl) rfl rfl rfl rfl (n_isBottle hL hM hs (by omega) (by omega)) (fun r h2 hq => ?_)
  obtain ⟨rfl, hh⟩ := hq
  subst hh
  refine E_if0 rfl (bI_R _) (fun q1 => ?_) (fun q1 => ?_)
  · replace q1 := bI_z q1
    refine E_const rfl ?_
    refine E_iret rfl (fun h => absurd h (by decide)) ?_
    refine mutl (s' := s) ?_ hs Eqk.nil
    unfold f_row
    try simp only [Int.toNat_natCast]
    (repeat' split) <;> first | rfl | (exfalso; omega) | (congr 1; omega) | omega
  · replace q1 := bI_nz q1
    obtain ⟨b, rfl⟩ := Int.eq_ofNat_of_zero_le q1.1
    have iB := hI b (by omega)
    refine E_load rfl rfl rfl ?_
    refine E_const rfl ?_
    refine E_const rfl ?_
    refine E_S3 (y := 139) rfl rfl rfl rfl rfl (m_in (by omega) (by omega) (by omega)) (fun r h2 hq => ?_)
    obtain ⟨rfl, hh⟩ := hq
    subst hh
    refine E_if1 rfl (bI_R _) (fun q2 => ?_) (fun q2 => ?_)
    · replace q2 := bI_nz q2
      obtain ⟨j, rfl⟩ := Int.eq_ofNat_of_zero_le q2.1
      refine E_load rfl rfl rfl ?_
      refine E_const rfl ?_
      refine E_const rfl ?_
      refine E_S3 (y := 139) rfl rfl rfl rfl rfl (m_in (by omega) (by omega) (by omega)) (fun r h2 hq => ?_)
      obtain ⟨rfl, hh⟩ := hq
      subst hh
      refine E_if1 rfl (bI_R _) (fun q3 => ?_) (fun q3 => ?_)
      · replace q3 := bI_nz q3
        refine E_load rfl rfl rfl ?_
        refine E_getr (c := 12) (r := 44) rfl (hL.lt 43 rfl) (hL.k 43 rfl) rfl hM.c1 ?_
        refine E_const rfl ?_
        refine E_load rfl rfl rfl ?_
        refine E_add rfl ?_
        refine E_ialn (n := 943) (v := (s ((37 + b)))) rfl (hL.lt 44 rfl) (hL.k 44 rfl) (hL.l 44 rfl) (by omega) (rdS hs (by omega)) ?_
        refine E_const rfl ?_
        refine E_cmp0 rfl (by omega) (fun q4 => ?_) (fun q4 => ?_)
        · refine E_load rfl rfl rfl ?_
          refine E_getr (c := 12) (r := 44) rfl (hL.lt 43 rfl) (hL.k 43 rfl) rfl hM.c1 ?_
          refine E_const rfl ?_
          refine E_const rfl ?_
          refine E_load rfl rfl rfl ?_
          refine E_mul rfl ?_
          refine E_add rfl ?_
          refine E_load rfl rfl rfl ?_
          refine E_add rfl ?_
          refine E_ialn (n := 943) (v := (s (((49 + (4 * b)) + j)))) rfl (hL.lt 44 rfl) (hL.k 44 rfl) (hL.l 44 rfl) (by omega) (rdS hs (by omega)) ?_
          refine E_store rfl rfl rfl ?_
          refine E_load rfl rfl rfl ?_
          refine E_getr (c := 12) (r := 44) rfl (hL.lt 43 rfl) (hL.k 43 rfl) rfl hM.c1 ?_
          refine E_const rfl ?_
          refine E_const rfl ?_
          refine E_load rfl rfl rfl ?_
          refine E_mul rfl ?_
          refine E_add rfl ?_
          refine E_load rfl rfl rfl ?_
          refine E_add rfl ?_
          refine E_load rfl rfl rfl ?_
          refine E_iasg (n := 943) (j := ((49 + (4 * b)) + j)) rfl (hL.lt 44 rfl) (hL.k 44 rfl) (hL.l 44 rfl) (by omega) (by omega) (fun c_1 hc_1 => ?_)
          have hE_1 : Eqk PS c c_1 := by rw [hc_1]; exact Eqk.up rfl
          have hM_1 : Mc c_1 := by rw [hc_1]; exact hM.upo rfl
          have hs_1 : c_1 44 = upd1 s ((49 + (4 * b)) + j) n := by rw [hc_1]; exact up2_rowS hs
          refine E_load rfl rfl rfl ?_
          refine E_iret rfl (fun h => absurd h (by decide)) ?_
          refine mutl (s' := upd1 s ((49 + (4 * b)) + j) n) ?_ hs_1 hE_1
          unfold f_row
          try simp only [Int.toNat_natCast]
          (repeat' split) <;> first | rfl | (exfalso; omega) | (congr 1; omega) | omega
        · refine E_const rfl ?_
          refine E_iret rfl (fun h => absurd h (by decide)) ?_
          refine mutl (s' := s) ?_ hs Eqk.nil
          unfold f_row
          try simp only [Int.toNat_natCast]
          (repeat' split) <;> first | rfl | (exfalso; omega) | (congr 1; omega) | omega
      · replace q3 := bI_z q3
        refine E_const rfl ?_
        refine E_iret rfl (fun h => absurd h (by decide)) ?_
        refine mutl (s' := s) ?_ hs Eqk.nil
        unfold f_row
        try simp only [Int.toNat_natCast]
        (repeat' split) <;> first | rfl | (exfalso; omega) | (congr 1; omega) | omega
    · replace q2 := bI_z q2
      refine E_const rfl ?_
      refine E_iret rfl (fun h => absurd h (by decide)) ?_
      refine mutl (s' := s) ?_ hs Eqk.nil
      unfold f_row
      try simp only [Int.toNat_natCast]
      (repeat' split) <;> first | rfl | (exfalso; omega) | (congr 1; omega) | omega
set_option maxHeartbeats 4000000 in
set_option maxRecDepth 100000 in
theorem n_set {d : Nat} {h : Hp} {c : Nat → Nat → Int} {s : Nat → Int} (hL : Lay h) (hM : Mc c) (hs : c 44 = s) (hA : Inv s) {x : Int} (hx : inR x) {w : Int} (hw : inR w) {n : Int} (hn : inR n) : Ok (d + 6) 172 [(1, ((43 : Nat) : Int)), (0, x), (0, w), (0, n)] (wC h c) (fun r h2 => r = some (0, (f_set s x w n).1) ∧ ∃ c2, h2 = wC h c2 ∧ c2 44 = (f_set s x w n).2 ∧ Eqk PS c c2) := by
  show Ex _ none t_X11_set 0 0 _ [] (wC h c) _
  obtain ⟨hI, hH, ⟨⟨n29, n30, n31, n32, n33, n34, n36⟩, nM⟩, hX⟩ := hA
  refine E_load rfl rfl rfl ?_
  refine E_load rfl rfl rfl ?_
  refine E_V1 (q := 43) (c := 12) (y := 143) rfl rfl (hL.lt 43 rfl) (hL.k 43 rfl) rfl rfl rfl rfl (n_isBottle hL hM hs (by omega) (by omega)) (fun r h2 hq => ?_)
  obtain ⟨rfl, hh⟩ := hq
  subst hh
  refine E_if0 rfl (bI_R _) (fun q1 => ?_) (fun q1 => ?_)
  · replace q1 := bI_z q1
    refine E_const rfl ?_
    refine E_iret rfl (fun h => absurd h (by decide)) ?_
    refine mutl (s' := s) ?_ hs Eqk.nil
    unfold f_set
    try simp only [Int.toNat_natCast]
    (repeat' split) <;> first | rfl | (exfalso; omega) | (congr 1; omega) | omega
  · replace q1 := bI_nz q1
    obtain ⟨b, rfl⟩ := Int.eq_ofNat_of_zero_le q1.1
    refine E_load rfl rfl rfl ?_
    refine E_const rfl ?_
    refine E_const rfl ?_
    refine E_S3 (y := 139) rfl rfl rfl rfl rfl (m_in (by omega) (by omega) (by omega)) (fun r h2 hq => ?_)
    obtain ⟨rfl, hh⟩ := hq
    subst hh
    refine E_if1 rfl (bI_R _) (fun q2 => ?_) (fun q2 => ?_)
    · replace q2 := bI_nz q2
      obtain ⟨j, rfl⟩ := Int.eq_ofNat_of_zero_le q2.1
      refine E_load rfl rfl rfl ?_
      refine E_const rfl ?_
      refine E_load rfl rfl rfl ?_
      refine E_if1 rfl (by omega) (fun q3 => ?_) (fun q3 => ?_)
      · refine E_const rfl ?_
        refine E_S3 (y := 139) rfl rfl rfl rfl rfl (m_in (by omega) (by omega) (by omega)) (fun r h2 hq => ?_)
        obtain ⟨rfl, hh⟩ := hq
        subst hh
        refine E_if1 rfl (bI_R _) (fun q4 => ?_) (fun q4 => ?_)
        · replace q4 := bI_nz q4
          refine E_const rfl ?_
          refine E_const rfl ?_
          refine E_load rfl rfl rfl ?_
          refine E_mul rfl ?_
          refine E_add rfl ?_
          refine E_load rfl rfl rfl ?_
          refine E_add rfl ?_
          refine E_store rfl rfl rfl ?_
          refine E_load rfl rfl rfl ?_
          refine E_getr (c := 12) (r := 44) rfl (hL.lt 43 rfl) (hL.k 43 rfl) rfl hM.c1 ?_
          refine E_load rfl rfl rfl ?_
          refine E_ialn (n := 943) (v := (s (((7 + (6 * j)) + b)))) rfl (hL.lt 44 rfl) (hL.k 44 rfl) (hL.l 44 rfl) (by omega) (rdS hs (by omega)) ?_
          refine E_store rfl rfl rfl ?_
          refine E_load rfl rfl rfl ?_
          refine E_getr (c := 12) (r := 44) rfl (hL.lt 43 rfl) (hL.k 43 rfl) rfl hM.c1 ?_
          refine E_load rfl rfl rfl ?_
          refine E_load rfl rfl rfl ?_
          refine E_iasg (n := 943) (j := ((7 + (6 * j)) + b)) rfl (hL.lt 44 rfl) (hL.k 44 rfl) (hL.l 44 rfl) (by omega) (by omega) (fun c_1 hc_1 => ?_)
          have hE_1 : Eqk PS c c_1 := by rw [hc_1]; exact Eqk.up rfl
          have hM_1 : Mc c_1 := by rw [hc_1]; exact hM.upo rfl
          have hs_1 : c_1 44 = upd1 s ((7 + (6 * j)) + b) n := by rw [hc_1]; exact up2_rowS hs
          refine E_load rfl rfl rfl ?_
          refine E_iret rfl (fun h => absurd h (by decide)) ?_
          refine mutl (s' := upd1 s ((7 + (6 * j)) + b) n) ?_ hs_1 hE_1
          unfold f_set
          try simp only [Int.toNat_natCast]
          (repeat' split) <;> first | rfl | (exfalso; omega) | (congr 1; omega) | omega
        · replace q4 := bI_z q4
          refine E_const rfl ?_
          refine E_iret rfl (fun h => absurd h (by decide)) ?_
          refine mutl (s' := s) ?_ hs Eqk.nil
          unfold f_set
          try simp only [Int.toNat_natCast]
          (repeat' split) <;> first | rfl | (exfalso; omega) | (congr 1; omega) | omega
      · refine E_const rfl ?_
        refine E_goto rfl ?_
        refine E_S3 (y := 139) rfl rfl rfl rfl rfl (m_in (by omega) (by omega) (by omega)) (fun r h2 hq => ?_)
        obtain ⟨rfl, hh⟩ := hq
        subst hh
        refine E_if1 rfl (bI_R _) (fun q5 => ?_) (fun q5 => ?_)
        · replace q5 := bI_nz q5
          refine E_const rfl ?_
          refine E_const rfl ?_
          refine E_load rfl rfl rfl ?_
          refine E_mul rfl ?_
          refine E_add rfl ?_
          refine E_load rfl rfl rfl ?_
          refine E_add rfl ?_
          refine E_store rfl rfl rfl ?_
          refine E_load rfl rfl rfl ?_
          refine E_getr (c := 12) (r := 44) rfl (hL.lt 43 rfl) (hL.k 43 rfl) rfl hM.c1 ?_
          refine E_load rfl rfl rfl ?_
          refine E_ialn (n := 943) (v := (s (((7 + (6 * j)) + b)))) rfl (hL.lt 44 rfl) (hL.k 44 rfl) (hL.l 44 rfl) (by omega) (rdS hs (by omega)) ?_
          refine E_store rfl rfl rfl ?_
          refine E_load rfl rfl rfl ?_
          refine E_getr (c := 12) (r := 44) rfl (hL.lt 43 rfl) (hL.k 43 rfl) rfl hM.c1 ?_
          refine E_load rfl rfl rfl ?_
          refine E_load rfl rfl rfl ?_
          refine E_iasg (n := 943) (j := ((7 + (6 * j)) + b)) rfl (hL.lt 44 rfl) (hL.k 44 rfl) (hL.l 44 rfl) (by omega) (by omega) (fun c_2 hc_2 => ?_)
          have hE_2 : Eqk PS c c_2 := by rw [hc_2]; exact Eqk.up rfl
          have hM_2 : Mc c_2 := by rw [hc_2]; exact hM.upo rfl
          have hs_2 : c_2 44 = upd1 s ((7 + (6 * j)) + b) n := by rw [hc_2]; exact up2_rowS hs
          refine E_load rfl rfl rfl ?_
          refine E_iret rfl (fun h => absurd h (by decide)) ?_
          refine mutl (s' := upd1 s ((7 + (6 * j)) + b) n) ?_ hs_2 hE_2
          unfold f_set
          try simp only [Int.toNat_natCast]
          (repeat' split) <;> first | rfl | (exfalso; omega) | (congr 1; omega) | omega
        · replace q5 := bI_z q5
          refine E_const rfl ?_
          refine E_iret rfl (fun h => absurd h (by decide)) ?_
          refine mutl (s' := s) ?_ hs Eqk.nil
          unfold f_set
          try simp only [Int.toNat_natCast]
          (repeat' split) <;> first | rfl | (exfalso; omega) | (congr 1; omega) | omega
    · replace q2 := bI_z q2
      refine E_const rfl ?_
      refine E_iret rfl (fun h => absurd h (by decide)) ?_
      refine mutl (s' := s) ?_ hs Eqk.nil
      unfold f_set
      try simp only [Int.toNat_natCast]
      (repeat' split) <;> first | rfl | (exfalso; omega) | (congr 1; omega) | omega
set_option maxHeartbeats 4000000 in
set_option maxRecDepth 100000 in
theorem n_see {d : Nat} {h : Hp} {c : Nat → Nat → Int} {s : Nat → Int} (hL : Lay h) (hM : Mc c) (hs : c 44 = s) (hA : Inv s) {x : Int} (hx : inR x) {y : Int} (hy : inR y) {n : Int} (hn : inR n) : Ok (d + 6) 199 [(1, ((43 : Nat) : Int)), (0, x), (0, y), (0, n)] (wC h c) (fun r h2 => r = some (0, (f_see s x y n).1) ∧ ∃ c2, h2 = wC h c2 ∧ c2 44 = (f_see s x y n).2 ∧ Eqk PS c c2) := by
  show Ex _ none t_X11_see 0 0 _ [] (wC h c) _
  obtain ⟨hI, hH, ⟨⟨n29, n30, n31, n32, n33, n34, n36⟩, nM⟩, hX⟩ := hA
  refine E_load rfl rfl rfl ?_
  refine E_const rfl ?_
  refine E_cmp1 rfl (by omega) (fun q1 => ?_) (fun q1 => ?_)
  · refine E_load rfl rfl rfl ?_
    refine E_load rfl rfl rfl ?_
    refine E_V1 (q := 43) (c := 12) (y := 143) rfl rfl (hL.lt 43 rfl) (hL.k 43 rfl) rfl rfl rfl rfl (n_isBottle hL hM hs (by omega) (by omega)) (fun r h2 hq => ?_)
    obtain ⟨rfl, hh⟩ := hq
    subst hh
    refine E_if1 rfl (bI_R _) (fun q2 => ?_) (fun q2 => ?_)
    · replace q2 := bI_nz q2
      refine E_load rfl rfl rfl ?_
      refine E_S1 (y := 146) rfl rfl rfl rfl rfl (m_isSaying (by omega)) (fun r h2 hq => ?_)
      obtain ⟨rfl, hh⟩ := hq
      subst hh
      refine E_if0 rfl (bI_R _) (fun q3 => ?_) (fun q3 => ?_)
      · replace q3 := bI_z q3
        refine E_const rfl ?_
        refine E_iret rfl (fun h => absurd h (by decide)) ?_
        refine mutl (s' := s) ?_ hs Eqk.nil
        unfold f_see
        try simp only [Int.toNat_natCast]
        (repeat' split) <;> first | rfl | (exfalso; omega) | (congr 1; omega) | omega
      · replace q3 := bI_nz q3
        refine E_load rfl rfl rfl ?_
        refine E_const rfl ?_
        refine E_const rfl ?_
        refine E_S3 (y := 139) rfl rfl rfl rfl rfl (m_in (by omega) (by omega) (by omega)) (fun r h2 hq => ?_)
        obtain ⟨rfl, hh⟩ := hq
        subst hh
        refine E_if1 rfl (bI_R _) (fun q4 => ?_) (fun q4 => ?_)
        · replace q4 := bI_nz q4
          refine E_load rfl rfl rfl ?_
          refine E_getr (c := 12) (r := 44) rfl (hL.lt 43 rfl) (hL.k 43 rfl) rfl hM.c1 ?_
          refine E_const rfl ?_
          refine E_ialn (n := 943) (v := (s 31)) rfl (hL.lt 44 rfl) (hL.k 44 rfl) (hL.l 44 rfl) (by omega) (rdS hs (by omega)) ?_
          refine E_const rfl ?_
          refine E_cmp1 rfl (by omega) (fun q5 => ?_) (fun q5 => ?_)
          · refine E_load rfl rfl rfl ?_
            refine E_getr (c := 12) (r := 44) rfl (hL.lt 43 rfl) (hL.k 43 rfl) rfl hM.c1 ?_
            refine E_const rfl ?_
            refine E_load rfl rfl rfl ?_
            refine E_getr (c := 12) (r := 44) rfl (hL.lt 43 rfl) (hL.k 43 rfl) rfl hM.c1 ?_
            refine E_const rfl ?_
            refine E_ialn (n := 943) (v := (s 31)) rfl (hL.lt 44 rfl) (hL.k 44 rfl) (hL.l 44 rfl) (by omega) (rdS hs (by omega)) ?_
            refine E_add rfl ?_
            refine E_load rfl rfl rfl ?_
            refine E_iasg (n := 943) (j := (73 + (Int.toNat (s 31)))) rfl (hL.lt 44 rfl) (hL.k 44 rfl) (hL.l 44 rfl) (by omega) (by omega) (fun c_1 hc_1 => ?_)
            have hE_1 : Eqk PS c c_1 := by rw [hc_1]; exact Eqk.up rfl
            have hM_1 : Mc c_1 := by rw [hc_1]; exact hM.upo rfl
            have hs_1 : c_1 44 = upd1 s (73 + (Int.toNat (s 31))) x := by rw [hc_1]; exact up2_rowS hs
            refine E_load rfl rfl rfl ?_
            refine E_getr (c := 12) (r := 44) rfl (hL.lt 43 rfl) (hL.k 43 rfl) rfl hM_1.c1 ?_
            refine E_const rfl ?_
            refine E_load rfl rfl rfl ?_
            refine E_getr (c := 12) (r := 44) rfl (hL.lt 43 rfl) (hL.k 43 rfl) rfl hM_1.c1 ?_
            refine E_const rfl ?_
            refine E_ialn (n := 943) (v := (s 31)) rfl (hL.lt 44 rfl) (hL.k 44 rfl) (hL.l 44 rfl) (by omega) ((rdS hs_1 (by omega)).trans (upd1_ne (by omega))) ?_
            refine E_add rfl ?_
            refine E_load rfl rfl rfl ?_
            refine E_iasg (n := 943) (j := (78 + (Int.toNat (s 31)))) rfl (hL.lt 44 rfl) (hL.k 44 rfl) (hL.l 44 rfl) (by omega) (by omega) (fun c_2 hc_2 => ?_)
            have hE_2 : Eqk PS c_1 c_2 := by rw [hc_2]; exact Eqk.up rfl
            have hM_2 : Mc c_2 := by rw [hc_2]; exact hM_1.upo rfl
            have hs_2 : c_2 44 = upd1 (upd1 s (73 + (Int.toNat (s 31))) x) (78 + (Int.toNat (s 31))) y := by rw [hc_2]; exact up2_rowS hs_1
            refine E_load rfl rfl rfl ?_
            refine E_getr (c := 12) (r := 44) rfl (hL.lt 43 rfl) (hL.k 43 rfl) rfl hM_2.c1 ?_
            refine E_const rfl ?_
            refine E_load rfl rfl rfl ?_
            refine E_getr (c := 12) (r := 44) rfl (hL.lt 43 rfl) (hL.k 43 rfl) rfl hM_2.c1 ?_
            refine E_const rfl ?_
            refine E_ialn (n := 943) (v := (s 31)) rfl (hL.lt 44 rfl) (hL.k 44 rfl) (hL.l 44 rfl) (by omega) (((rdS hs_2 (by omega)).trans (upd1_ne (by omega))).trans (upd1_ne (by omega))) ?_
            refine E_add rfl ?_
            refine E_load rfl rfl rfl ?_
            refine E_iasg (n := 943) (j := (83 + (Int.toNat (s 31)))) rfl (hL.lt 44 rfl) (hL.k 44 rfl) (hL.l 44 rfl) (by omega) (by omega) (fun c_3 hc_3 => ?_)
            have hE_3 : Eqk PS c_2 c_3 := by rw [hc_3]; exact Eqk.up rfl
            have hM_3 : Mc c_3 := by rw [hc_3]; exact hM_2.upo rfl
            have hs_3 : c_3 44 = upd1 (upd1 (upd1 s (73 + (Int.toNat (s 31))) x) (78 + (Int.toNat (s 31))) y) (83 + (Int.toNat (s 31))) n := by rw [hc_3]; exact up2_rowS hs_2
            refine E_load rfl rfl rfl ?_
            refine E_getr (c := 12) (r := 44) rfl (hL.lt 43 rfl) (hL.k 43 rfl) rfl hM_3.c1 ?_
            refine E_const rfl ?_
            refine E_dup2 rfl rfl rfl ?_
            refine E_ialn (n := 943) (v := (s 31)) rfl (hL.lt 44 rfl) (hL.k 44 rfl) (hL.l 44 rfl) (by omega) ((((rdS hs_3 (by omega)).trans (upd1_ne (by omega))).trans (upd1_ne (by omega))).trans (upd1_ne (by omega))) ?_
            refine E_const rfl ?_
            refine E_add rfl ?_
            refine E_iasg (n := 943) (j := 31) rfl (hL.lt 44 rfl) (hL.k 44 rfl) (hL.l 44 rfl) (by omega) (by omega) (fun c_4 hc_4 => ?_)
            have hE_4 : Eqk PS c_3 c_4 := by rw [hc_4]; exact Eqk.up rfl
            have hM_4 : Mc c_4 := by rw [hc_4]; exact hM_3.upo rfl
            have hs_4 : c_4 44 = upd1 (upd1 (upd1 (upd1 s (73 + (Int.toNat (s 31))) x) (78 + (Int.toNat (s 31))) y) (83 + (Int.toNat (s 31))) n) 31 ((s 31) + 1) := by rw [hc_4]; exact up2_rowS hs_3
            refine E_load rfl rfl rfl ?_
            refine E_getr (c := 12) (r := 44) rfl (hL.lt 43 rfl) (hL.k 43 rfl) rfl hM_4.c1 ?_
            refine E_const rfl ?_
            refine E_ialn (n := 943) (v := ((s 31) + 1)) rfl (hL.lt 44 rfl) (hL.k 44 rfl) (hL.l 44 rfl) (by omega) ((rdS hs_4 (by omega)).trans upd1_same) ?_
            refine E_iret rfl (fun h => absurd h (by decide)) ?_
            refine mutl (s' := upd1 (upd1 (upd1 (upd1 s (73 + (Int.toNat (s 31))) x) (78 + (Int.toNat (s 31))) y) (83 + (Int.toNat (s 31))) n) 31 ((s 31) + 1)) ?_ hs_4 (hE_1.trans (hE_2.trans (hE_3.trans hE_4)))
            unfold f_see
            try simp only [Int.toNat_natCast]
            (repeat' split) <;> first | rfl | (exfalso; omega) | (congr 1; omega) | omega
          · refine E_const rfl ?_
            refine E_iret rfl (fun h => absurd h (by decide)) ?_
            refine mutl (s' := s) ?_ hs Eqk.nil
            unfold f_see
            try simp only [Int.toNat_natCast]
            (repeat' split) <;> first | rfl | (exfalso; omega) | (congr 1; omega) | omega
        · replace q4 := bI_z q4
          refine E_const rfl ?_
          refine E_iret rfl (fun h => absurd h (by decide)) ?_
          refine mutl (s' := s) ?_ hs Eqk.nil
          unfold f_see
          try simp only [Int.toNat_natCast]
          (repeat' split) <;> first | rfl | (exfalso; omega) | (congr 1; omega) | omega
    · replace q2 := bI_z q2
      refine E_const rfl ?_
      refine E_iret rfl (fun h => absurd h (by decide)) ?_
      refine mutl (s' := s) ?_ hs Eqk.nil
      unfold f_see
      try simp only [Int.toNat_natCast]
      (repeat' split) <;> first | rfl | (exfalso; omega) | (congr 1; omega) | omega
  · refine E_load rfl rfl rfl ?_
    refine E_getr (c := 12) (r := 44) rfl (hL.lt 43 rfl) (hL.k 43 rfl) rfl hM.c1 ?_
    refine E_const rfl ?_
    refine E_const rfl ?_
    refine E_iasg (n := 943) (j := 31) rfl (hL.lt 44 rfl) (hL.k 44 rfl) (hL.l 44 rfl) (by omega) (by omega) (fun c_5 hc_5 => ?_)
    have hE_5 : Eqk PS c c_5 := by rw [hc_5]; exact Eqk.up rfl
    have hM_5 : Mc c_5 := by rw [hc_5]; exact hM.upo rfl
    have hs_5 : c_5 44 = upd1 s 31 0 := by rw [hc_5]; exact up2_rowS hs
    refine E_const rfl ?_
    refine E_iret rfl (fun h => absurd h (by decide)) ?_
    refine mutl (s' := upd1 s 31 0) ?_ hs_5 hE_5
    unfold f_see
    try simp only [Int.toNat_natCast]
    (repeat' split) <;> first | rfl | (exfalso; omega) | (congr 1; omega) | omega
set_option maxHeartbeats 4000000 in
set_option maxRecDepth 100000 in
theorem n_book {d : Nat} {h : Hp} {c : Nat → Nat → Int} {s : Nat → Int} (hL : Lay h) (hM : Mc c) (hs : c 44 = s) (hA : Inv s) {x : Int} (hx : inR x) {y : Int} (hy : inR y) : Ok (d + 6) 211 [(1, ((43 : Nat) : Int)), (0, x), (0, y)] (wC h c) (fun r h2 => r = some (0, (f_book s x y).1) ∧ ∃ c2, h2 = wC h c2 ∧ c2 44 = (f_book s x y).2 ∧ Eqk PS c c2) := by
  show Ex _ none t_X11_book 0 0 _ [] (wC h c) _
  obtain ⟨hI, hH, ⟨⟨n29, n30, n31, n32, n33, n34, n36⟩, nM⟩, hX⟩ := hA
  refine E_load rfl rfl rfl ?_
  refine E_const rfl ?_
  refine E_cmp1 rfl (by omega) (fun q1 => ?_) (fun q1 => ?_)
  · refine E_load rfl rfl rfl ?_
    refine E_load rfl rfl rfl ?_
    refine E_V1 (q := 43) (c := 12) (y := 143) rfl rfl (hL.lt 43 rfl) (hL.k 43 rfl) rfl rfl rfl rfl (n_isBottle hL hM hs (by omega) (by omega)) (fun r h2 hq => ?_)
    obtain ⟨rfl, hh⟩ := hq
    subst hh
    refine E_if1 rfl (bI_R _) (fun q2 => ?_) (fun q2 => ?_)
    · replace q2 := bI_nz q2
      refine E_load rfl rfl rfl ?_
      refine E_S1 (y := 146) rfl rfl rfl rfl rfl (m_isSaying (by omega)) (fun r h2 hq => ?_)
      obtain ⟨rfl, hh⟩ := hq
      subst hh
      refine E_if1 rfl (bI_R _) (fun q3 => ?_) (fun q3 => ?_)
      · replace q3 := bI_nz q3
        refine E_load rfl rfl rfl ?_
        refine E_getr (c := 12) (r := 44) rfl (hL.lt 43 rfl) (hL.k 43 rfl) rfl hM.c1 ?_
        refine E_const rfl ?_
        refine E_ialn (n := 943) (v := (s 33)) rfl (hL.lt 44 rfl) (hL.k 44 rfl) (hL.l 44 rfl) (by omega) (rdS hs (by omega)) ?_
        refine E_const rfl ?_
        refine E_cmp1 rfl (by omega) (fun q4 => ?_) (fun q4 => ?_)
        · refine E_load rfl rfl rfl ?_
          refine E_getr (c := 12) (r := 44) rfl (hL.lt 43 rfl) (hL.k 43 rfl) rfl hM.c1 ?_
          refine E_const rfl ?_
          refine E_load rfl rfl rfl ?_
          refine E_getr (c := 12) (r := 44) rfl (hL.lt 43 rfl) (hL.k 43 rfl) rfl hM.c1 ?_
          refine E_const rfl ?_
          refine E_ialn (n := 943) (v := (s 33)) rfl (hL.lt 44 rfl) (hL.k 44 rfl) (hL.l 44 rfl) (by omega) (rdS hs (by omega)) ?_
          refine E_add rfl ?_
          refine E_load rfl rfl rfl ?_
          refine E_iasg (n := 943) (j := (112 + (Int.toNat (s 33)))) rfl (hL.lt 44 rfl) (hL.k 44 rfl) (hL.l 44 rfl) (by omega) (by omega) (fun c_1 hc_1 => ?_)
          have hE_1 : Eqk PS c c_1 := by rw [hc_1]; exact Eqk.up rfl
          have hM_1 : Mc c_1 := by rw [hc_1]; exact hM.upo rfl
          have hs_1 : c_1 44 = upd1 s (112 + (Int.toNat (s 33))) x := by rw [hc_1]; exact up2_rowS hs
          refine E_load rfl rfl rfl ?_
          refine E_getr (c := 12) (r := 44) rfl (hL.lt 43 rfl) (hL.k 43 rfl) rfl hM_1.c1 ?_
          refine E_const rfl ?_
          refine E_load rfl rfl rfl ?_
          refine E_getr (c := 12) (r := 44) rfl (hL.lt 43 rfl) (hL.k 43 rfl) rfl hM_1.c1 ?_
          refine E_const rfl ?_
          refine E_ialn (n := 943) (v := (s 33)) rfl (hL.lt 44 rfl) (hL.k 44 rfl) (hL.l 44 rfl) (by omega) ((rdS hs_1 (by omega)).trans (upd1_ne (by omega))) ?_
          refine E_add rfl ?_
          refine E_load rfl rfl rfl ?_
          refine E_iasg (n := 943) (j := (120 + (Int.toNat (s 33)))) rfl (hL.lt 44 rfl) (hL.k 44 rfl) (hL.l 44 rfl) (by omega) (by omega) (fun c_2 hc_2 => ?_)
          have hE_2 : Eqk PS c_1 c_2 := by rw [hc_2]; exact Eqk.up rfl
          have hM_2 : Mc c_2 := by rw [hc_2]; exact hM_1.upo rfl
          have hs_2 : c_2 44 = upd1 (upd1 s (112 + (Int.toNat (s 33))) x) (120 + (Int.toNat (s 33))) y := by rw [hc_2]; exact up2_rowS hs_1
          refine E_load rfl rfl rfl ?_
          refine E_getr (c := 12) (r := 44) rfl (hL.lt 43 rfl) (hL.k 43 rfl) rfl hM_2.c1 ?_
          refine E_const rfl ?_
          refine E_dup2 rfl rfl rfl ?_
          refine E_ialn (n := 943) (v := (s 33)) rfl (hL.lt 44 rfl) (hL.k 44 rfl) (hL.l 44 rfl) (by omega) (((rdS hs_2 (by omega)).trans (upd1_ne (by omega))).trans (upd1_ne (by omega))) ?_
          refine E_const rfl ?_
          refine E_add rfl ?_
          refine E_iasg (n := 943) (j := 33) rfl (hL.lt 44 rfl) (hL.k 44 rfl) (hL.l 44 rfl) (by omega) (by omega) (fun c_3 hc_3 => ?_)
          have hE_3 : Eqk PS c_2 c_3 := by rw [hc_3]; exact Eqk.up rfl
          have hM_3 : Mc c_3 := by rw [hc_3]; exact hM_2.upo rfl
          have hs_3 : c_3 44 = upd1 (upd1 (upd1 s (112 + (Int.toNat (s 33))) x) (120 + (Int.toNat (s 33))) y) 33 ((s 33) + 1) := by rw [hc_3]; exact up2_rowS hs_2
          refine E_load rfl rfl rfl ?_
          refine E_getr (c := 12) (r := 44) rfl (hL.lt 43 rfl) (hL.k 43 rfl) rfl hM_3.c1 ?_
          refine E_const rfl ?_
          refine E_ialn (n := 943) (v := ((s 33) + 1)) rfl (hL.lt 44 rfl) (hL.k 44 rfl) (hL.l 44 rfl) (by omega) ((rdS hs_3 (by omega)).trans upd1_same) ?_
          refine E_iret rfl (fun h => absurd h (by decide)) ?_
          refine mutl (s' := upd1 (upd1 (upd1 s (112 + (Int.toNat (s 33))) x) (120 + (Int.toNat (s 33))) y) 33 ((s 33) + 1)) ?_ hs_3 (hE_1.trans (hE_2.trans hE_3))
          unfold f_book
          try simp only [Int.toNat_natCast]
          (repeat' split) <;> first | rfl | (exfalso; omega) | (congr 1; omega) | omega
        · refine E_const rfl ?_
          refine E_iret rfl (fun h => absurd h (by decide)) ?_
          refine mutl (s' := s) ?_ hs Eqk.nil
          unfold f_book
          try simp only [Int.toNat_natCast]
          (repeat' split) <;> first | rfl | (exfalso; omega) | (congr 1; omega) | omega
      · replace q3 := bI_z q3
        refine E_const rfl ?_
        refine E_iret rfl (fun h => absurd h (by decide)) ?_
        refine mutl (s' := s) ?_ hs Eqk.nil
        unfold f_book
        try simp only [Int.toNat_natCast]
        (repeat' split) <;> first | rfl | (exfalso; omega) | (congr 1; omega) | omega
    · replace q2 := bI_z q2
      refine E_const rfl ?_
      refine E_iret rfl (fun h => absurd h (by decide)) ?_
      refine mutl (s' := s) ?_ hs Eqk.nil
      unfold f_book
      try simp only [Int.toNat_natCast]
      (repeat' split) <;> first | rfl | (exfalso; omega) | (congr 1; omega) | omega
  · refine E_load rfl rfl rfl ?_
    refine E_getr (c := 12) (r := 44) rfl (hL.lt 43 rfl) (hL.k 43 rfl) rfl hM.c1 ?_
    refine E_const rfl ?_
    refine E_const rfl ?_
    refine E_iasg (n := 943) (j := 33) rfl (hL.lt 44 rfl) (hL.k 44 rfl) (hL.l 44 rfl) (by omega) (by omega) (fun c_4 hc_4 => ?_)
    have hE_4 : Eqk PS c c_4 := by rw [hc_4]; exact Eqk.up rfl
    have hM_4 : Mc c_4 := by rw [hc_4]; exact hM.upo rfl
    have hs_4 : c_4 44 = upd1 s 33 0 := by rw [hc_4]; exact up2_rowS hs
    refine E_const rfl ?_
    refine E_iret rfl (fun h => absurd h (by decide)) ?_
    refine mutl (s' := upd1 s 33 0) ?_ hs_4 hE_4
    unfold f_book
    try simp only [Int.toNat_natCast]
    (repeat' split) <;> first | rfl | (exfalso; omega) | (congr 1; omega) | omega
set_option maxHeartbeats 4000000 in
set_option maxRecDepth 100000 in
theorem n_evening {d : Nat} {h : Hp} {c : Nat → Nat → Int} {s : Nat → Int} (hL : Lay h) (hM : Mc c) (hs : c 44 = s) (hA : Inv s) {w : Int} (hw : inR w) {x : Int} (hx : inR x) {g : Int} (hg : inR g) : Ok (d + 6) 208 [(1, ((43 : Nat) : Int)), (0, w), (0, x), (0, g)] (wC h c) (fun r h2 => r = some (0, (f_evening s w x g).1) ∧ ∃ c2, h2 = wC h c2 ∧ c2 44 = (f_evening s w x g).2 ∧ Eqk PS c c2) := by
  show Ex _ none t_X11_evening 0 0 _ [] (wC h c) _
  obtain ⟨hI, hH, ⟨⟨n29, n30, n31, n32, n33, n34, n36⟩, nM⟩, hX⟩ := hA
  refine E_load rfl rfl rfl ?_
  refine E_const rfl ?_
  refine E_cmp1 rfl (by omega) (fun q1 => ?_) (fun q1 => ?_)
  · refine E_load rfl rfl rfl ?_
    refine E_const rfl ?_
    refine E_const rfl ?_
    refine E_S3 (y := 139) rfl rfl rfl rfl rfl (m_in (by omega) (by omega) (by omega)) (fun r h2 hq => ?_)
    obtain ⟨rfl, hh⟩ := hq
    subst hh
    refine E_if0 rfl (bI_R _) (fun q2 => ?_) (fun q2 => ?_)
    · replace q2 := bI_z q2
      refine E_const rfl ?_
      refine E_iret rfl (fun h => absurd h (by decide)) ?_
      refine mutl (s' := s) ?_ hs Eqk.nil
      unfold f_evening
      try simp only [Int.toNat_natCast]
      (repeat' split) <;> first | rfl | (exfalso; omega) | (congr 1; omega) | omega
    · replace q2 := bI_nz q2
      refine E_load rfl rfl rfl ?_
      refine E_if5 rfl (by omega) (fun q3 => ?_) (fun q3 => ?_)
      · refine E_load rfl rfl rfl ?_
        refine E_const rfl ?_
        refine E_cmp1 rfl (by omega) (fun q4 => ?_) (fun q4 => ?_)
        · refine E_load rfl rfl rfl ?_
          refine E_getr (c := 12) (r := 44) rfl (hL.lt 43 rfl) (hL.k 43 rfl) rfl hM.c1 ?_
          refine E_const rfl ?_
          refine E_ialn (n := 943) (v := (s 32)) rfl (hL.lt 44 rfl) (hL.k 44 rfl) (hL.l 44 rfl) (by omega) (rdS hs (by omega)) ?_
          refine E_const rfl ?_
          refine E_cmp1 rfl (by omega) (fun q5 => ?_) (fun q5 => ?_)
          · refine E_load rfl rfl rfl ?_
            refine E_getr (c := 12) (r := 44) rfl (hL.lt 43 rfl) (hL.k 43 rfl) rfl hM.c1 ?_
            refine E_const rfl ?_
            refine E_load rfl rfl rfl ?_
            refine E_getr (c := 12) (r := 44) rfl (hL.lt 43 rfl) (hL.k 43 rfl) rfl hM.c1 ?_
            refine E_const rfl ?_
            refine E_ialn (n := 943) (v := (s 32)) rfl (hL.lt 44 rfl) (hL.k 44 rfl) (hL.l 44 rfl) (by omega) (rdS hs (by omega)) ?_
            refine E_add rfl ?_
            refine E_load rfl rfl rfl ?_
            refine E_iasg (n := 943) (j := (88 + (Int.toNat (s 32)))) rfl (hL.lt 44 rfl) (hL.k 44 rfl) (hL.l 44 rfl) (by omega) (by omega) (fun c_1 hc_1 => ?_)
            have hE_1 : Eqk PS c c_1 := by rw [hc_1]; exact Eqk.up rfl
            have hM_1 : Mc c_1 := by rw [hc_1]; exact hM.upo rfl
            have hs_1 : c_1 44 = upd1 s (88 + (Int.toNat (s 32))) w := by rw [hc_1]; exact up2_rowS hs
            refine E_load rfl rfl rfl ?_
            refine E_getr (c := 12) (r := 44) rfl (hL.lt 43 rfl) (hL.k 43 rfl) rfl hM_1.c1 ?_
            refine E_const rfl ?_
            refine E_load rfl rfl rfl ?_
            refine E_getr (c := 12) (r := 44) rfl (hL.lt 43 rfl) (hL.k 43 rfl) rfl hM_1.c1 ?_
            refine E_const rfl ?_
            refine E_ialn (n := 943) (v := (s 32)) rfl (hL.lt 44 rfl) (hL.k 44 rfl) (hL.l 44 rfl) (by omega) ((rdS hs_1 (by omega)).trans (upd1_ne (by omega))) ?_
            refine E_add rfl ?_
            refine E_load rfl rfl rfl ?_
            refine E_iasg (n := 943) (j := (96 + (Int.toNat (s 32)))) rfl (hL.lt 44 rfl) (hL.k 44 rfl) (hL.l 44 rfl) (by omega) (by omega) (fun c_2 hc_2 => ?_)
            have hE_2 : Eqk PS c_1 c_2 := by rw [hc_2]; exact Eqk.up rfl
            have hM_2 : Mc c_2 := by rw [hc_2]; exact hM_1.upo rfl
            have hs_2 : c_2 44 = upd1 (upd1 s (88 + (Int.toNat (s 32))) w) (96 + (Int.toNat (s 32))) x := by rw [hc_2]; exact up2_rowS hs_1
            refine E_load rfl rfl rfl ?_
            refine E_getr (c := 12) (r := 44) rfl (hL.lt 43 rfl) (hL.k 43 rfl) rfl hM_2.c1 ?_
            refine E_const rfl ?_
            refine E_load rfl rfl rfl ?_
            refine E_getr (c := 12) (r := 44) rfl (hL.lt 43 rfl) (hL.k 43 rfl) rfl hM_2.c1 ?_
            refine E_const rfl ?_
            refine E_ialn (n := 943) (v := (s 32)) rfl (hL.lt 44 rfl) (hL.k 44 rfl) (hL.l 44 rfl) (by omega) (((rdS hs_2 (by omega)).trans (upd1_ne (by omega))).trans (upd1_ne (by omega))) ?_
            refine E_add rfl ?_
            refine E_load rfl rfl rfl ?_
            refine E_iasg (n := 943) (j := (104 + (Int.toNat (s 32)))) rfl (hL.lt 44 rfl) (hL.k 44 rfl) (hL.l 44 rfl) (by omega) (by omega) (fun c_3 hc_3 => ?_)
            have hE_3 : Eqk PS c_2 c_3 := by rw [hc_3]; exact Eqk.up rfl
            have hM_3 : Mc c_3 := by rw [hc_3]; exact hM_2.upo rfl
            have hs_3 : c_3 44 = upd1 (upd1 (upd1 s (88 + (Int.toNat (s 32))) w) (96 + (Int.toNat (s 32))) x) (104 + (Int.toNat (s 32))) g := by rw [hc_3]; exact up2_rowS hs_2
            refine E_load rfl rfl rfl ?_
            refine E_getr (c := 12) (r := 44) rfl (hL.lt 43 rfl) (hL.k 43 rfl) rfl hM_3.c1 ?_
            refine E_const rfl ?_
            refine E_dup2 rfl rfl rfl ?_
            refine E_ialn (n := 943) (v := (s 32)) rfl (hL.lt 44 rfl) (hL.k 44 rfl) (hL.l 44 rfl) (by omega) ((((rdS hs_3 (by omega)).trans (upd1_ne (by omega))).trans (upd1_ne (by omega))).trans (upd1_ne (by omega))) ?_
            refine E_const rfl ?_
            refine E_add rfl ?_
            refine E_iasg (n := 943) (j := 32) rfl (hL.lt 44 rfl) (hL.k 44 rfl) (hL.l 44 rfl) (by omega) (by omega) (fun c_4 hc_4 => ?_)
            have hE_4 : Eqk PS c_3 c_4 := by rw [hc_4]; exact Eqk.up rfl
            have hM_4 : Mc c_4 := by rw [hc_4]; exact hM_3.upo rfl
            have hs_4 : c_4 44 = upd1 (upd1 (upd1 (upd1 s (88 + (Int.toNat (s 32))) w) (96 + (Int.toNat (s 32))) x) (104 + (Int.toNat (s 32))) g) 32 ((s 32) + 1) := by rw [hc_4]; exact up2_rowS hs_3
            refine E_load rfl rfl rfl ?_
            refine E_getr (c := 12) (r := 44) rfl (hL.lt 43 rfl) (hL.k 43 rfl) rfl hM_4.c1 ?_
            refine E_const rfl ?_
            refine E_ialn (n := 943) (v := ((s 32) + 1)) rfl (hL.lt 44 rfl) (hL.k 44 rfl) (hL.l 44 rfl) (by omega) ((rdS hs_4 (by omega)).trans upd1_same) ?_
            refine E_iret rfl (fun h => absurd h (by decide)) ?_
            refine mutl (s' := upd1 (upd1 (upd1 (upd1 s (88 + (Int.toNat (s 32))) w) (96 + (Int.toNat (s 32))) x) (104 + (Int.toNat (s 32))) g) 32 ((s 32) + 1)) ?_ hs_4 (hE_1.trans (hE_2.trans (hE_3.trans hE_4)))
            unfold f_evening
            try simp only [Int.toNat_natCast]
            (repeat' split) <;> first | rfl | (exfalso; omega) | (congr 1; omega) | omega
          · refine E_const rfl ?_
            refine E_iret rfl (fun h => absurd h (by decide)) ?_
            refine mutl (s' := s) ?_ hs Eqk.nil
            unfold f_evening
            try simp only [Int.toNat_natCast]
            (repeat' split) <;> first | rfl | (exfalso; omega) | (congr 1; omega) | omega
        · refine E_load rfl rfl rfl ?_
          refine E_load rfl rfl rfl ?_
          refine E_V1 (q := 43) (c := 12) (y := 144) rfl rfl (hL.lt 43 rfl) (hL.k 43 rfl) rfl rfl rfl rfl (n_isGuest hL hM hs (by omega) (by omega)) (fun r h2 hq => ?_)
          obtain ⟨rfl, hh⟩ := hq
          subst hh
          refine E_if1 rfl (bI_R _) (fun q6 => ?_) (fun q6 => ?_)
          · replace q6 := bI_nz q6
            refine E_load rfl rfl rfl ?_
            refine E_getr (c := 12) (r := 44) rfl (hL.lt 43 rfl) (hL.k 43 rfl) rfl hM.c1 ?_
            refine E_const rfl ?_
            refine E_ialn (n := 943) (v := (s 32)) rfl (hL.lt 44 rfl) (hL.k 44 rfl) (hL.l 44 rfl) (by omega) (rdS hs (by omega)) ?_
            refine E_const rfl ?_
            refine E_cmp1 rfl (by omega) (fun q7 => ?_) (fun q7 => ?_)
            · refine E_load rfl rfl rfl ?_
              refine E_getr (c := 12) (r := 44) rfl (hL.lt 43 rfl) (hL.k 43 rfl) rfl hM.c1 ?_
              refine E_const rfl ?_
              refine E_load rfl rfl rfl ?_
              refine E_getr (c := 12) (r := 44) rfl (hL.lt 43 rfl) (hL.k 43 rfl) rfl hM.c1 ?_
              refine E_const rfl ?_
              refine E_ialn (n := 943) (v := (s 32)) rfl (hL.lt 44 rfl) (hL.k 44 rfl) (hL.l 44 rfl) (by omega) (rdS hs (by omega)) ?_
              refine E_add rfl ?_
              refine E_load rfl rfl rfl ?_
              refine E_iasg (n := 943) (j := (88 + (Int.toNat (s 32)))) rfl (hL.lt 44 rfl) (hL.k 44 rfl) (hL.l 44 rfl) (by omega) (by omega) (fun c_5 hc_5 => ?_)
              have hE_5 : Eqk PS c c_5 := by rw [hc_5]; exact Eqk.up rfl
              have hM_5 : Mc c_5 := by rw [hc_5]; exact hM.upo rfl
              have hs_5 : c_5 44 = upd1 s (88 + (Int.toNat (s 32))) w := by rw [hc_5]; exact up2_rowS hs
              refine E_load rfl rfl rfl ?_
              refine E_getr (c := 12) (r := 44) rfl (hL.lt 43 rfl) (hL.k 43 rfl) rfl hM_5.c1 ?_
              refine E_const rfl ?_
              refine E_load rfl rfl rfl ?_
              refine E_getr (c := 12) (r := 44) rfl (hL.lt 43 rfl) (hL.k 43 rfl) rfl hM_5.c1 ?_
              refine E_const rfl ?_
              refine E_ialn (n := 943) (v := (s 32)) rfl (hL.lt 44 rfl) (hL.k 44 rfl) (hL.l 44 rfl) (by omega) ((rdS hs_5 (by omega)).trans (upd1_ne (by omega))) ?_
              refine E_add rfl ?_
              refine E_load rfl rfl rfl ?_
              refine E_iasg (n := 943) (j := (96 + (Int.toNat (s 32)))) rfl (hL.lt 44 rfl) (hL.k 44 rfl) (hL.l 44 rfl) (by omega) (by omega) (fun c_6 hc_6 => ?_)
              have hE_6 : Eqk PS c_5 c_6 := by rw [hc_6]; exact Eqk.up rfl
              have hM_6 : Mc c_6 := by rw [hc_6]; exact hM_5.upo rfl
              have hs_6 : c_6 44 = upd1 (upd1 s (88 + (Int.toNat (s 32))) w) (96 + (Int.toNat (s 32))) x := by rw [hc_6]; exact up2_rowS hs_5
              refine E_load rfl rfl rfl ?_
              refine E_getr (c := 12) (r := 44) rfl (hL.lt 43 rfl) (hL.k 43 rfl) rfl hM_6.c1 ?_
              refine E_const rfl ?_
              refine E_load rfl rfl rfl ?_
              refine E_getr (c := 12) (r := 44) rfl (hL.lt 43 rfl) (hL.k 43 rfl) rfl hM_6.c1 ?_
              refine E_const rfl ?_
              refine E_ialn (n := 943) (v := (s 32)) rfl (hL.lt 44 rfl) (hL.k 44 rfl) (hL.l 44 rfl) (by omega) (((rdS hs_6 (by omega)).trans (upd1_ne (by omega))).trans (upd1_ne (by omega))) ?_
              refine E_add rfl ?_
              refine E_load rfl rfl rfl ?_
              refine E_iasg (n := 943) (j := (104 + (Int.toNat (s 32)))) rfl (hL.lt 44 rfl) (hL.k 44 rfl) (hL.l 44 rfl) (by omega) (by omega) (fun c_7 hc_7 => ?_)
              have hE_7 : Eqk PS c_6 c_7 := by rw [hc_7]; exact Eqk.up rfl
              have hM_7 : Mc c_7 := by rw [hc_7]; exact hM_6.upo rfl
              have hs_7 : c_7 44 = upd1 (upd1 (upd1 s (88 + (Int.toNat (s 32))) w) (96 + (Int.toNat (s 32))) x) (104 + (Int.toNat (s 32))) g := by rw [hc_7]; exact up2_rowS hs_6
              refine E_load rfl rfl rfl ?_
              refine E_getr (c := 12) (r := 44) rfl (hL.lt 43 rfl) (hL.k 43 rfl) rfl hM_7.c1 ?_
              refine E_const rfl ?_
              refine E_dup2 rfl rfl rfl ?_
              refine E_ialn (n := 943) (v := (s 32)) rfl (hL.lt 44 rfl) (hL.k 44 rfl) (hL.l 44 rfl) (by omega) ((((rdS hs_7 (by omega)).trans (upd1_ne (by omega))).trans (upd1_ne (by omega))).trans (upd1_ne (by omega))) ?_
              refine E_const rfl ?_
              refine E_add rfl ?_
              refine E_iasg (n := 943) (j := 32) rfl (hL.lt 44 rfl) (hL.k 44 rfl) (hL.l 44 rfl) (by omega) (by omega) (fun c_8 hc_8 => ?_)
              have hE_8 : Eqk PS c_7 c_8 := by rw [hc_8]; exact Eqk.up rfl
              have hM_8 : Mc c_8 := by rw [hc_8]; exact hM_7.upo rfl
              have hs_8 : c_8 44 = upd1 (upd1 (upd1 (upd1 s (88 + (Int.toNat (s 32))) w) (96 + (Int.toNat (s 32))) x) (104 + (Int.toNat (s 32))) g) 32 ((s 32) + 1) := by rw [hc_8]; exact up2_rowS hs_7
              refine E_load rfl rfl rfl ?_
              refine E_getr (c := 12) (r := 44) rfl (hL.lt 43 rfl) (hL.k 43 rfl) rfl hM_8.c1 ?_
              refine E_const rfl ?_
              refine E_ialn (n := 943) (v := ((s 32) + 1)) rfl (hL.lt 44 rfl) (hL.k 44 rfl) (hL.l 44 rfl) (by omega) ((rdS hs_8 (by omega)).trans upd1_same) ?_
              refine E_iret rfl (fun h => absurd h (by decide)) ?_
              refine mutl (s' := upd1 (upd1 (upd1 (upd1 s (88 + (Int.toNat (s 32))) w) (96 + (Int.toNat (s 32))) x) (104 + (Int.toNat (s 32))) g) 32 ((s 32) + 1)) ?_ hs_8 (hE_5.trans (hE_6.trans (hE_7.trans hE_8)))
              unfold f_evening
              try simp only [Int.toNat_natCast]
              (repeat' split) <;> first | rfl | (exfalso; omega) | (congr 1; omega) | omega
            · refine E_const rfl ?_
              refine E_iret rfl (fun h => absurd h (by decide)) ?_
              refine mutl (s' := s) ?_ hs Eqk.nil
              unfold f_evening
              try simp only [Int.toNat_natCast]
              (repeat' split) <;> first | rfl | (exfalso; omega) | (congr 1; omega) | omega
          · replace q6 := bI_z q6
            refine E_const rfl ?_
            refine E_iret rfl (fun h => absurd h (by decide)) ?_
            refine mutl (s' := s) ?_ hs Eqk.nil
            unfold f_evening
            try simp only [Int.toNat_natCast]
            (repeat' split) <;> first | rfl | (exfalso; omega) | (congr 1; omega) | omega
      · refine E_load rfl rfl rfl ?_
        refine E_load rfl rfl rfl ?_
        refine E_V1 (q := 43) (c := 12) (y := 143) rfl rfl (hL.lt 43 rfl) (hL.k 43 rfl) rfl rfl rfl rfl (n_isBottle hL hM hs (by omega) (by omega)) (fun r h2 hq => ?_)
        obtain ⟨rfl, hh⟩ := hq
        subst hh
        refine E_if0 rfl (bI_R _) (fun q8 => ?_) (fun q8 => ?_)
        · replace q8 := bI_z q8
          refine E_const rfl ?_
          refine E_iret rfl (fun h => absurd h (by decide)) ?_
          refine mutl (s' := s) ?_ hs Eqk.nil
          unfold f_evening
          try simp only [Int.toNat_natCast]
          (repeat' split) <;> first | rfl | (exfalso; omega) | (congr 1; omega) | omega
        · replace q8 := bI_nz q8
          refine E_load rfl rfl rfl ?_
          refine E_const rfl ?_
          refine E_cmp1 rfl (by omega) (fun q9 => ?_) (fun q9 => ?_)
          · refine E_load rfl rfl rfl ?_
            refine E_getr (c := 12) (r := 44) rfl (hL.lt 43 rfl) (hL.k 43 rfl) rfl hM.c1 ?_
            refine E_const rfl ?_
            refine E_ialn (n := 943) (v := (s 32)) rfl (hL.lt 44 rfl) (hL.k 44 rfl) (hL.l 44 rfl) (by omega) (rdS hs (by omega)) ?_
            refine E_const rfl ?_
            refine E_cmp1 rfl (by omega) (fun q10 => ?_) (fun q10 => ?_)
            · refine E_load rfl rfl rfl ?_
              refine E_getr (c := 12) (r := 44) rfl (hL.lt 43 rfl) (hL.k 43 rfl) rfl hM.c1 ?_
              refine E_const rfl ?_
              refine E_load rfl rfl rfl ?_
              refine E_getr (c := 12) (r := 44) rfl (hL.lt 43 rfl) (hL.k 43 rfl) rfl hM.c1 ?_
              refine E_const rfl ?_
              refine E_ialn (n := 943) (v := (s 32)) rfl (hL.lt 44 rfl) (hL.k 44 rfl) (hL.l 44 rfl) (by omega) (rdS hs (by omega)) ?_
              refine E_add rfl ?_
              refine E_load rfl rfl rfl ?_
              refine E_iasg (n := 943) (j := (88 + (Int.toNat (s 32)))) rfl (hL.lt 44 rfl) (hL.k 44 rfl) (hL.l 44 rfl) (by omega) (by omega) (fun c_9 hc_9 => ?_)
              have hE_9 : Eqk PS c c_9 := by rw [hc_9]; exact Eqk.up rfl
              have hM_9 : Mc c_9 := by rw [hc_9]; exact hM.upo rfl
              have hs_9 : c_9 44 = upd1 s (88 + (Int.toNat (s 32))) w := by rw [hc_9]; exact up2_rowS hs
              refine E_load rfl rfl rfl ?_
              refine E_getr (c := 12) (r := 44) rfl (hL.lt 43 rfl) (hL.k 43 rfl) rfl hM_9.c1 ?_
              refine E_const rfl ?_
              refine E_load rfl rfl rfl ?_
              refine E_getr (c := 12) (r := 44) rfl (hL.lt 43 rfl) (hL.k 43 rfl) rfl hM_9.c1 ?_
              refine E_const rfl ?_
              refine E_ialn (n := 943) (v := (s 32)) rfl (hL.lt 44 rfl) (hL.k 44 rfl) (hL.l 44 rfl) (by omega) ((rdS hs_9 (by omega)).trans (upd1_ne (by omega))) ?_
              refine E_add rfl ?_
              refine E_load rfl rfl rfl ?_
              refine E_iasg (n := 943) (j := (96 + (Int.toNat (s 32)))) rfl (hL.lt 44 rfl) (hL.k 44 rfl) (hL.l 44 rfl) (by omega) (by omega) (fun c_10 hc_10 => ?_)
              have hE_10 : Eqk PS c_9 c_10 := by rw [hc_10]; exact Eqk.up rfl
              have hM_10 : Mc c_10 := by rw [hc_10]; exact hM_9.upo rfl
              have hs_10 : c_10 44 = upd1 (upd1 s (88 + (Int.toNat (s 32))) w) (96 + (Int.toNat (s 32))) x := by rw [hc_10]; exact up2_rowS hs_9
              refine E_load rfl rfl rfl ?_
              refine E_getr (c := 12) (r := 44) rfl (hL.lt 43 rfl) (hL.k 43 rfl) rfl hM_10.c1 ?_
              refine E_const rfl ?_
              refine E_load rfl rfl rfl ?_
              refine E_getr (c := 12) (r := 44) rfl (hL.lt 43 rfl) (hL.k 43 rfl) rfl hM_10.c1 ?_
              refine E_const rfl ?_
              refine E_ialn (n := 943) (v := (s 32)) rfl (hL.lt 44 rfl) (hL.k 44 rfl) (hL.l 44 rfl) (by omega) (((rdS hs_10 (by omega)).trans (upd1_ne (by omega))).trans (upd1_ne (by omega))) ?_
              refine E_add rfl ?_
              refine E_load rfl rfl rfl ?_
              refine E_iasg (n := 943) (j := (104 + (Int.toNat (s 32)))) rfl (hL.lt 44 rfl) (hL.k 44 rfl) (hL.l 44 rfl) (by omega) (by omega) (fun c_11 hc_11 => ?_)
              have hE_11 : Eqk PS c_10 c_11 := by rw [hc_11]; exact Eqk.up rfl
              have hM_11 : Mc c_11 := by rw [hc_11]; exact hM_10.upo rfl
              have hs_11 : c_11 44 = upd1 (upd1 (upd1 s (88 + (Int.toNat (s 32))) w) (96 + (Int.toNat (s 32))) x) (104 + (Int.toNat (s 32))) g := by rw [hc_11]; exact up2_rowS hs_10
              refine E_load rfl rfl rfl ?_
              refine E_getr (c := 12) (r := 44) rfl (hL.lt 43 rfl) (hL.k 43 rfl) rfl hM_11.c1 ?_
              refine E_const rfl ?_
              refine E_dup2 rfl rfl rfl ?_
              refine E_ialn (n := 943) (v := (s 32)) rfl (hL.lt 44 rfl) (hL.k 44 rfl) (hL.l 44 rfl) (by omega) ((((rdS hs_11 (by omega)).trans (upd1_ne (by omega))).trans (upd1_ne (by omega))).trans (upd1_ne (by omega))) ?_
              refine E_const rfl ?_
              refine E_add rfl ?_
              refine E_iasg (n := 943) (j := 32) rfl (hL.lt 44 rfl) (hL.k 44 rfl) (hL.l 44 rfl) (by omega) (by omega) (fun c_12 hc_12 => ?_)
              have hE_12 : Eqk PS c_11 c_12 := by rw [hc_12]; exact Eqk.up rfl
              have hM_12 : Mc c_12 := by rw [hc_12]; exact hM_11.upo rfl
              have hs_12 : c_12 44 = upd1 (upd1 (upd1 (upd1 s (88 + (Int.toNat (s 32))) w) (96 + (Int.toNat (s 32))) x) (104 + (Int.toNat (s 32))) g) 32 ((s 32) + 1) := by rw [hc_12]; exact up2_rowS hs_11
              refine E_load rfl rfl rfl ?_
              refine E_getr (c := 12) (r := 44) rfl (hL.lt 43 rfl) (hL.k 43 rfl) rfl hM_12.c1 ?_
              refine E_const rfl ?_
              refine E_ialn (n := 943) (v := ((s 32) + 1)) rfl (hL.lt 44 rfl) (hL.k 44 rfl) (hL.l 44 rfl) (by omega) ((rdS hs_12 (by omega)).trans upd1_same) ?_
              refine E_iret rfl (fun h => absurd h (by decide)) ?_
              refine mutl (s' := upd1 (upd1 (upd1 (upd1 s (88 + (Int.toNat (s 32))) w) (96 + (Int.toNat (s 32))) x) (104 + (Int.toNat (s 32))) g) 32 ((s 32) + 1)) ?_ hs_12 (hE_9.trans (hE_10.trans (hE_11.trans hE_12)))
              unfold f_evening
              try simp only [Int.toNat_natCast]
              (repeat' split) <;> first | rfl | (exfalso; omega) | (congr 1; omega) | omega
            · refine E_const rfl ?_
              refine E_iret rfl (fun h => absurd h (by decide)) ?_
              refine mutl (s' := s) ?_ hs Eqk.nil
              unfold f_evening
              try simp only [Int.toNat_natCast]
              (repeat' split) <;> first | rfl | (exfalso; omega) | (congr 1; omega) | omega
          · refine E_load rfl rfl rfl ?_
            refine E_load rfl rfl rfl ?_
            refine E_V1 (q := 43) (c := 12) (y := 144) rfl rfl (hL.lt 43 rfl) (hL.k 43 rfl) rfl rfl rfl rfl (n_isGuest hL hM hs (by omega) (by omega)) (fun r h2 hq => ?_)
            obtain ⟨rfl, hh⟩ := hq
            subst hh
            refine E_if1 rfl (bI_R _) (fun q11 => ?_) (fun q11 => ?_)
            · replace q11 := bI_nz q11
              refine E_load rfl rfl rfl ?_
              refine E_getr (c := 12) (r := 44) rfl (hL.lt 43 rfl) (hL.k 43 rfl) rfl hM.c1 ?_
              refine E_const rfl ?_
              refine E_ialn (n := 943) (v := (s 32)) rfl (hL.lt 44 rfl) (hL.k 44 rfl) (hL.l 44 rfl) (by omega) (rdS hs (by omega)) ?_
              refine E_const rfl ?_
              refine E_cmp1 rfl (by omega) (fun q12 => ?_) (fun q12 => ?_)
              · refine E_load rfl rfl rfl ?_
                refine E_getr (c := 12) (r := 44) rfl (hL.lt 43 rfl) (hL.k 43 rfl) rfl hM.c1 ?_
                refine E_const rfl ?_
                refine E_load rfl rfl rfl ?_
                refine E_getr (c := 12) (r := 44) rfl (hL.lt 43 rfl) (hL.k 43 rfl) rfl hM.c1 ?_
                refine E_const rfl ?_
                refine E_ialn (n := 943) (v := (s 32)) rfl (hL.lt 44 rfl) (hL.k 44 rfl) (hL.l 44 rfl) (by omega) (rdS hs (by omega)) ?_
                refine E_add rfl ?_
                refine E_load rfl rfl rfl ?_
                refine E_iasg (n := 943) (j := (88 + (Int.toNat (s 32)))) rfl (hL.lt 44 rfl) (hL.k 44 rfl) (hL.l 44 rfl) (by omega) (by omega) (fun c_13 hc_13 => ?_)
                have hE_13 : Eqk PS c c_13 := by rw [hc_13]; exact Eqk.up rfl
                have hM_13 : Mc c_13 := by rw [hc_13]; exact hM.upo rfl
                have hs_13 : c_13 44 = upd1 s (88 + (Int.toNat (s 32))) w := by rw [hc_13]; exact up2_rowS hs
                refine E_load rfl rfl rfl ?_
                refine E_getr (c := 12) (r := 44) rfl (hL.lt 43 rfl) (hL.k 43 rfl) rfl hM_13.c1 ?_
                refine E_const rfl ?_
                refine E_load rfl rfl rfl ?_
                refine E_getr (c := 12) (r := 44) rfl (hL.lt 43 rfl) (hL.k 43 rfl) rfl hM_13.c1 ?_
                refine E_const rfl ?_
                refine E_ialn (n := 943) (v := (s 32)) rfl (hL.lt 44 rfl) (hL.k 44 rfl) (hL.l 44 rfl) (by omega) ((rdS hs_13 (by omega)).trans (upd1_ne (by omega))) ?_
                refine E_add rfl ?_
                refine E_load rfl rfl rfl ?_
                refine E_iasg (n := 943) (j := (96 + (Int.toNat (s 32)))) rfl (hL.lt 44 rfl) (hL.k 44 rfl) (hL.l 44 rfl) (by omega) (by omega) (fun c_14 hc_14 => ?_)
                have hE_14 : Eqk PS c_13 c_14 := by rw [hc_14]; exact Eqk.up rfl
                have hM_14 : Mc c_14 := by rw [hc_14]; exact hM_13.upo rfl
                have hs_14 : c_14 44 = upd1 (upd1 s (88 + (Int.toNat (s 32))) w) (96 + (Int.toNat (s 32))) x := by rw [hc_14]; exact up2_rowS hs_13
                refine E_load rfl rfl rfl ?_
                refine E_getr (c := 12) (r := 44) rfl (hL.lt 43 rfl) (hL.k 43 rfl) rfl hM_14.c1 ?_
                refine E_const rfl ?_
                refine E_load rfl rfl rfl ?_
                refine E_getr (c := 12) (r := 44) rfl (hL.lt 43 rfl) (hL.k 43 rfl) rfl hM_14.c1 ?_
                refine E_const rfl ?_
                refine E_ialn (n := 943) (v := (s 32)) rfl (hL.lt 44 rfl) (hL.k 44 rfl) (hL.l 44 rfl) (by omega) (((rdS hs_14 (by omega)).trans (upd1_ne (by omega))).trans (upd1_ne (by omega))) ?_
                refine E_add rfl ?_
                refine E_load rfl rfl rfl ?_
                refine E_iasg (n := 943) (j := (104 + (Int.toNat (s 32)))) rfl (hL.lt 44 rfl) (hL.k 44 rfl) (hL.l 44 rfl) (by omega) (by omega) (fun c_15 hc_15 => ?_)
                have hE_15 : Eqk PS c_14 c_15 := by rw [hc_15]; exact Eqk.up rfl
                have hM_15 : Mc c_15 := by rw [hc_15]; exact hM_14.upo rfl
                have hs_15 : c_15 44 = upd1 (upd1 (upd1 s (88 + (Int.toNat (s 32))) w) (96 + (Int.toNat (s 32))) x) (104 + (Int.toNat (s 32))) g := by rw [hc_15]; exact up2_rowS hs_14
                refine E_load rfl rfl rfl ?_
                refine E_getr (c := 12) (r := 44) rfl (hL.lt 43 rfl) (hL.k 43 rfl) rfl hM_15.c1 ?_
                refine E_const rfl ?_
                refine E_dup2 rfl rfl rfl ?_
                refine E_ialn (n := 943) (v := (s 32)) rfl (hL.lt 44 rfl) (hL.k 44 rfl) (hL.l 44 rfl) (by omega) ((((rdS hs_15 (by omega)).trans (upd1_ne (by omega))).trans (upd1_ne (by omega))).trans (upd1_ne (by omega))) ?_
                refine E_const rfl ?_
                refine E_add rfl ?_
                refine E_iasg (n := 943) (j := 32) rfl (hL.lt 44 rfl) (hL.k 44 rfl) (hL.l 44 rfl) (by omega) (by omega) (fun c_16 hc_16 => ?_)
                have hE_16 : Eqk PS c_15 c_16 := by rw [hc_16]; exact Eqk.up rfl
                have hM_16 : Mc c_16 := by rw [hc_16]; exact hM_15.upo rfl
                have hs_16 : c_16 44 = upd1 (upd1 (upd1 (upd1 s (88 + (Int.toNat (s 32))) w) (96 + (Int.toNat (s 32))) x) (104 + (Int.toNat (s 32))) g) 32 ((s 32) + 1) := by rw [hc_16]; exact up2_rowS hs_15
                refine E_load rfl rfl rfl ?_
                refine E_getr (c := 12) (r := 44) rfl (hL.lt 43 rfl) (hL.k 43 rfl) rfl hM_16.c1 ?_
                refine E_const rfl ?_
                refine E_ialn (n := 943) (v := ((s 32) + 1)) rfl (hL.lt 44 rfl) (hL.k 44 rfl) (hL.l 44 rfl) (by omega) ((rdS hs_16 (by omega)).trans upd1_same) ?_
                refine E_iret rfl (fun h => absurd h (by decide)) ?_
                refine mutl (s' := upd1 (upd1 (upd1 (upd1 s (88 + (Int.toNat (s 32))) w) (96 + (Int.toNat (s 32))) x) (104 + (Int.toNat (s 32))) g) 32 ((s 32) + 1)) ?_ hs_16 (hE_13.trans (hE_14.trans (hE_15.trans hE_16)))
                unfold f_evening
                try simp only [Int.toNat_natCast]
                (repeat' split) <;> first | rfl | (exfalso; omega) | (congr 1; omega) | omega
              · refine E_const rfl ?_
                refine E_iret rfl (fun h => absurd h (by decide)) ?_
                refine mutl (s' := s) ?_ hs Eqk.nil
                unfold f_evening
                try simp only [Int.toNat_natCast]
                (repeat' split) <;> first | rfl | (exfalso; omega) | (congr 1; omega) | omega
            · replace q11 := bI_z q11
              refine E_const rfl ?_
              refine E_iret rfl (fun h => absurd h (by decide)) ?_
              refine mutl (s' := s) ?_ hs Eqk.nil
              unfold f_evening
              try simp only [Int.toNat_natCast]
              (repeat' split) <;> first | rfl | (exfalso; omega) | (congr 1; omega) | omega
  · refine E_load rfl rfl rfl ?_
    refine E_getr (c := 12) (r := 44) rfl (hL.lt 43 rfl) (hL.k 43 rfl) rfl hM.c1 ?_
    refine E_const rfl ?_
    refine E_const rfl ?_
    refine E_iasg (n := 943) (j := 32) rfl (hL.lt 44 rfl) (hL.k 44 rfl) (hL.l 44 rfl) (by omega) (by omega) (fun c_17 hc_17 => ?_)
    have hE_17 : Eqk PS c c_17 := by rw [hc_17]; exact Eqk.up rfl
    have hM_17 : Mc c_17 := by rw [hc_17]; exact hM.upo rfl
    have hs_17 : c_17 44 = upd1 s 32 0 := by rw [hc_17]; exact up2_rowS hs
    refine E_const rfl ?_
    refine E_iret rfl (fun h => absurd h (by decide)) ?_
    refine mutl (s' := upd1 s 32 0) ?_ hs_17 hE_17
    unfold f_evening
    try simp only [Int.toNat_natCast]
    (repeat' split) <;> first | rfl | (exfalso; omega) | (congr 1; omega) | omega
theorem n_isUnder {d : Nat} {h : Hp} {kind k : Int} (h1 : inR kind) (h2 : inR k) (h3 : inR (k + 3)) : Ok (d) 214 [(0, kind), (0, k)] h (fun r h2 => r = some (0, bI (isUn kind k)) ∧ h2 = h) := by
  show Ex _ none t_X11_isUnder 3 0 _ [] h _
  refine E_load rfl rfl rfl ?_
  refine E_if0 rfl (by omega) (fun q1 => ?_) (fun q1 => ?_)
  · refine E_const rfl ?_
    refine E_goto rfl ?_
    refine E_iret rfl (fun _ => by decide) ?_
    exact ⟨by first | (rw [bI_t (by unfold isUn; omega)]) | (rw [bI_f (by unfold isUn; omega)]), rfl⟩
  · refine E_load rfl rfl rfl ?_
    refine E_load rfl rfl rfl ?_
    refine E_cmp0 rfl (by omega) (fun q2 => ?_) (fun q2 => ?_)
    · refine E_const rfl ?_
      refine E_goto rfl ?_
      refine E_iret rfl (fun _ => by decide) ?_
      exact ⟨by first | (rw [bI_t (by unfold isUn; omega)]) | (rw [bI_f (by unfold isUn; omega)]), rfl⟩
    · refine E_load rfl rfl rfl ?_
      refine E_if5 rfl (by omega) (fun q3 => ?_) (fun q3 => ?_)
      · refine E_const rfl ?_
        refine E_iret rfl (fun _ => by decide) ?_
        exact ⟨by first | (rw [bI_t (by unfold isUn; omega)]) | (rw [bI_f (by unfold isUn; omega)]), rfl⟩
      · refine E_load rfl rfl rfl ?_
        refine E_const rfl ?_
        refine E_cmp3 rfl (by omega) (fun q4 => ?_) (fun q4 => ?_)
        · refine E_const rfl ?_
          refine E_iret rfl (fun _ => by decide) ?_
          exact ⟨by first | (rw [bI_t (by unfold isUn; omega)]) | (rw [bI_f (by unfold isUn; omega)]), rfl⟩
        · refine E_load rfl rfl rfl ?_
          refine E_load rfl rfl rfl ?_
          refine E_const rfl ?_
          refine E_add rfl ?_
          refine E_cmp1 rfl (by omega) (fun q5 => ?_) (fun q5 => ?_)
          · refine E_const rfl ?_
            refine E_iret rfl (fun _ => by decide) ?_
            exact ⟨by first | (rw [bI_t (by unfold isUn; omega)]) | (rw [bI_f (by unfold isUn; omega)]), rfl⟩
          · refine E_const rfl ?_
            refine E_goto rfl ?_
            refine E_iret rfl (fun _ => by decide) ?_
            exact ⟨by first | (rw [bI_t (by unfold isUn; omega)]) | (rw [bI_f (by unfold isUn; omega)]), rfl⟩
set_option maxHeartbeats 4000000 in
set_option maxRecDepth 100000 in
theorem n_as {d : Nat} {h : Hp} {c : Nat → Nat → Int} {s : Nat → Int} (hL : Lay h) (hM : Mc c) (hs : c 44 = s) (hA : Inv s) {x : Int} (hx : inR x) {k : Int} (hk : inR k) : Ok (d + 6) 223 [(1, ((43 : Nat) : Int)), (0, x), (0, k)] (wC h c) (fun r h2 => r = some (0, a_as s x k) ∧ ∃ c2, h2 = wC h c2 ∧ Eqk PQ c c2) := by
  show Ex _ none t_X11_as 0 0 _ [] (wC h c) _
  obtain ⟨hI, hH, ⟨⟨n29, n30, n31, n32, n33, n34, n36⟩, nM⟩, hX⟩ := hA
  refine E_load rfl rfl rfl ?_
  refine E_load rfl rfl rfl ?_
  refine E_V1 (q := 43) (c := 12) (y := 143) rfl rfl (hL.lt 43 rfl) (hL.k 43 rfl) rfl rfl rfl rfl (n_isBottle hL hM hs (by omega) (by omega)) (fun r h2 hq => ?_)
  obtain ⟨rfl, hh⟩ := hq
  subst hh
  refine E_if0 rfl (bI_R _) (fun q1 => ?_) (fun q1 => ?_)
  · replace q1 := bI_z q1
    refine E_const rfl ?_
    refine E_iret rfl (fun h => absurd h (by decide)) ?_
    refine qryl ?_ Eqk.nil
    unfold a_as
    try simp only [Int.toNat_natCast]
    (repeat' split) <;> first | rfl | (exfalso; omega) | (congr 1; omega) | omega
  · replace q1 := bI_nz q1
    obtain ⟨b, rfl⟩ := Int.eq_ofNat_of_zero_le q1.1
    have iB := hI b (by omega)
    refine E_load rfl rfl rfl ?_
    refine E_const rfl ?_
    refine E_const rfl ?_
    refine E_S3 (y := 139) rfl rfl rfl rfl rfl (m_in (by omega) (by omega) (by omega)) (fun r h2 hq => ?_)
    obtain ⟨rfl, hh⟩ := hq
    subst hh
    refine E_if1 rfl (bI_R _) (fun q2 => ?_) (fun q2 => ?_)
    · replace q2 := bI_nz q2
      refine E_load rfl rfl rfl ?_
      refine E_getr (c := 12) (r := 44) rfl (hL.lt 43 rfl) (hL.k 43 rfl) rfl hM.c1 ?_
      refine E_const rfl ?_
      refine E_load rfl rfl rfl ?_
      refine E_add rfl ?_
      refine E_ialn (n := 943) (v := (s ((37 + b)))) rfl (hL.lt 44 rfl) (hL.k 44 rfl) (hL.l 44 rfl) (by omega) (rdS hs (by omega)) ?_
      refine E_load rfl rfl rfl ?_
      refine E_S2 (y := 214) rfl rfl rfl rfl rfl (n_isUnder (by omega) (by omega) (by omega)) (fun r h2 hq => ?_)
      obtain ⟨rfl, hh⟩ := hq
      subst hh
      refine E_if0 rfl (bI_R _) (fun q3 => ?_) (fun q3 => ?_)
      · replace q3 := bI_z q3
        refine E_const rfl ?_
        refine E_iret rfl (fun h => absurd h (by decide)) ?_
        refine qryl ?_ Eqk.nil
        unfold a_as
        try simp only [Int.toNat_natCast]
        (repeat' split) <;> first | rfl | (exfalso; omega) | (congr 1; omega) | omega
      · replace q3 := bI_nz q3
        refine E_load rfl rfl rfl ?_
        refine E_getr (c := 12) (r := 44) rfl (hL.lt 43 rfl) (hL.k 43 rfl) rfl hM.c1 ?_
        refine E_const rfl ?_
        refine E_load rfl rfl rfl ?_
        refine E_add rfl ?_
        refine E_ialn (n := 943) (v := (s ((43 + b)))) rfl (hL.lt 44 rfl) (hL.k 44 rfl) (hL.l 44 rfl) (by omega) (rdS hs (by omega)) ?_
        refine E_goto rfl ?_
        refine E_iret rfl (fun h => absurd h (by decide)) ?_
        refine qryl ?_ Eqk.nil
        unfold a_as
        try simp only [Int.toNat_natCast]
        (repeat' split) <;> first | rfl | (exfalso; omega) | (congr 1; omega) | omega
    · replace q2 := bI_z q2
      refine E_const rfl ?_
      refine E_iret rfl (fun h => absurd h (by decide)) ?_
      refine qryl ?_ Eqk.nil
      unfold a_as
      try simp only [Int.toNat_natCast]
      (repeat' split) <;> first | rfl | (exfalso; omega) | (congr 1; omega) | omega
set_option maxHeartbeats 4000000 in
set_option maxRecDepth 100000 in
theorem n_of {d : Nat} {h : Hp} {c : Nat → Nat → Int} {s : Nat → Int} (hL : Lay h) (hM : Mc c) (hs : c 44 = s) (hA : Inv s) {x : Int} (hx : inR x) {w : Int} (hw : inR w) : Ok (d + 6) 170 [(1, ((43 : Nat) : Int)), (0, x), (0, w)] (wC h c) (fun r h2 => r = some (0, a_of s x w) ∧ ∃ c2, h2 = wC h c2 ∧ Eqk PQ c c2) := by
  show Ex _ none t_X11_of 0 0 _ [] (wC h c) _
  obtain ⟨hI, hH, ⟨⟨n29, n30, n31, n32, n33, n34, n36⟩, nM⟩, hX⟩ := hA
  refine E_load rfl rfl rfl ?_
  refine E_load rfl rfl rfl ?_
  refine E_V1 (q := 43) (c := 12) (y := 143) rfl rfl (hL.lt 43 rfl) (hL.k 43 rfl) rfl rfl rfl rfl (n_isBottle hL hM hs (by omega) (by omega)) (fun r h2 hq => ?_)
  obtain ⟨rfl, hh⟩ := hq
  subst hh
  refine E_if0 rfl (bI_R _) (fun q1 => ?_) (fun q1 => ?_)
  · replace q1 := bI_z q1
    refine E_const rfl ?_
    refine E_iret rfl (fun h => absurd h (by decide)) ?_
    refine qryl ?_ Eqk.nil
    unfold a_of
    first | (rw [if_pos (by omega)]) | (rw [if_neg (by omega)]; rfl)
  · replace q1 := bI_nz q1
    obtain ⟨b, rfl⟩ := Int.eq_ofNat_of_zero_le q1.1
    have iB := hI b (by omega)
    refine E_load rfl rfl rfl ?_
    refine E_const rfl ?_
    refine E_const rfl ?_
    refine E_S3 (y := 139) rfl rfl rfl rfl rfl (m_in (by omega) (by omega) (by omega)) (fun r h2 hq => ?_)
    obtain ⟨rfl, hh⟩ := hq
    subst hh
    refine E_if1 rfl (bI_R _) (fun q2 => ?_) (fun q2 => ?_)
    · replace q2 := bI_nz q2
      refine E_load rfl rfl rfl ?_
      rcases (show w = 0 ∨ w = 1 ∨ w = 2 ∨ w = 3 ∨ w = 4 ∨ w = 5 ∨ w = 6 ∨ w = 7 by omega) with rfl | rfl | rfl | rfl | rfl | rfl | rfl | rfl
      · refine E_sw (t := 68) rfl (by omega) (rfl) ?_
        refine E_load rfl rfl rfl ?_
        refine E_getr (c := 12) (r := 44) rfl (hL.lt 43 rfl) (hL.k 43 rfl) rfl hM.c1 ?_
        refine E_const rfl ?_
        refine E_load rfl rfl rfl ?_
        refine E_add rfl ?_
        refine E_ialn (n := 943) (v := (s ((37 + b)))) rfl (hL.lt 44 rfl) (hL.k 44 rfl) (hL.l 44 rfl) (by omega) (rdS hs (by omega)) ?_
        refine E_iret rfl (fun h => absurd h (by decide)) ?_
        refine qryl ?_ Eqk.nil
        unfold a_of
        first | (rw [if_pos (by omega)]) | (rw [if_neg (by omega)]; rfl)
      · refine E_sw (t := 78) rfl (by omega) (rfl) ?_
        refine E_load rfl rfl rfl ?_
        refine E_getr (c := 12) (r := 44) rfl (hL.lt 43 rfl) (hL.k 43 rfl) rfl hM.c1 ?_
        refine E_const rfl ?_
        refine E_load rfl rfl rfl ?_
        refine E_add rfl ?_
        refine E_ialn (n := 943) (v := (s ((43 + b)))) rfl (hL.lt 44 rfl) (hL.k 44 rfl) (hL.l 44 rfl) (by omega) (rdS hs (by omega)) ?_
        refine E_iret rfl (fun h => absurd h (by decide)) ?_
        refine qryl ?_ Eqk.nil
        unfold a_of
        first | (rw [if_pos (by omega)]) | (rw [if_neg (by omega)]; rfl)
      · refine E_sw (t := 100) rfl (by omega) (rfl) ?_
        refine E_load rfl rfl rfl ?_
        refine E_getr (c := 12) (r := 44) rfl (hL.lt 43 rfl) (hL.k 43 rfl) rfl hM.c1 ?_
        refine E_const rfl ?_
        refine E_const rfl ?_
        refine E_load rfl rfl rfl ?_
        refine E_const rfl ?_
        refine E_sub rfl ?_
        refine E_mul rfl ?_
        refine E_add rfl ?_
        refine E_load rfl rfl rfl ?_
        refine E_add rfl ?_
        refine E_ialn (n := 943) (v := (s (((1 + (6 * 0)) + b)))) rfl (hL.lt 44 rfl) (hL.k 44 rfl) (hL.l 44 rfl) (by omega) (rdS hs (by omega)) ?_
        refine E_iret rfl (fun h => absurd h (by decide)) ?_
        refine qryl ?_ Eqk.nil
        unfold a_of
        first | (rw [if_pos (by omega)]) | (rw [if_neg (by omega)]; rfl)
      · refine E_sw (t := 100) rfl (by omega) (rfl) ?_
        refine E_load rfl rfl rfl ?_
        refine E_getr (c := 12) (r := 44) rfl (hL.lt 43 rfl) (hL.k 43 rfl) rfl hM.c1 ?_
        refine E_const rfl ?_
        refine E_const rfl ?_
        refine E_load rfl rfl rfl ?_
        refine E_const rfl ?_
        refine E_sub rfl ?_
        refine E_mul rfl ?_
        refine E_add rfl ?_
        refine E_load rfl rfl rfl ?_
        refine E_add rfl ?_
        refine E_ialn (n := 943) (v := (s (((1 + (6 * 1)) + b)))) rfl (hL.lt 44 rfl) (hL.k 44 rfl) (hL.l 44 rfl) (by omega) (rdS hs (by omega)) ?_
        refine E_iret rfl (fun h => absurd h (by decide)) ?_
        refine qryl ?_ Eqk.nil
        unfold a_of
        first | (rw [if_pos (by omega)]) | (rw [if_neg (by omega)]; rfl)
      · refine E_sw (t := 100) rfl (by omega) (rfl) ?_
        refine E_load rfl rfl rfl ?_
        refine E_getr (c := 12) (r := 44) rfl (hL.lt 43 rfl) (hL.k 43 rfl) rfl hM.c1 ?_
        refine E_const rfl ?_
        refine E_const rfl ?_
        refine E_load rfl rfl rfl ?_
        refine E_const rfl ?_
        refine E_sub rfl ?_
        refine E_mul rfl ?_
        refine E_add rfl ?_
        refine E_load rfl rfl rfl ?_
        refine E_add rfl ?_
        refine E_ialn (n := 943) (v := (s (((1 + (6 * 2)) + b)))) rfl (hL.lt 44 rfl) (hL.k 44 rfl) (hL.l 44 rfl) (by omega) (rdS hs (by omega)) ?_
        refine E_iret rfl (fun h => absurd h (by decide)) ?_
        refine qryl ?_ Eqk.nil
        unfold a_of
        first | (rw [if_pos (by omega)]) | (rw [if_neg (by omega)]; rfl)
      · refine E_sw (t := 100) rfl (by omega) (rfl) ?_
        refine E_load rfl rfl rfl ?_
        refine E_getr (c := 12) (r := 44) rfl (hL.lt 43 rfl) (hL.k 43 rfl) rfl hM.c1 ?_
        refine E_const rfl ?_
        refine E_const rfl ?_
        refine E_load rfl rfl rfl ?_
        refine E_const rfl ?_
        refine E_sub rfl ?_
        refine E_mul rfl ?_
        refine E_add rfl ?_
        refine E_load rfl rfl rfl ?_
        refine E_add rfl ?_
        refine E_ialn (n := 943) (v := (s (((1 + (6 * 3)) + b)))) rfl (hL.lt 44 rfl) (hL.k 44 rfl) (hL.l 44 rfl) (by omega) (rdS hs (by omega)) ?_
        refine E_iret rfl (fun h => absurd h (by decide)) ?_
        refine qryl ?_ Eqk.nil
        unfold a_of
        first | (rw [if_pos (by omega)]) | (rw [if_neg (by omega)]; rfl)
      · refine E_sw (t := 88) rfl (by omega) (rfl) ?_
        refine E_load rfl rfl rfl ?_
        refine E_load rfl rfl rfl ?_
        refine E_V1 (q := 43) (c := 12) (y := 166) rfl rfl (hL.lt 43 rfl) (hL.k 43 rfl) rfl rfl rfl rfl (n_softOf hL hM hs (by omega) hI hH) (fun r h2 hq => ?_)
        obtain ⟨rfl, c_1, hh, hE0_1⟩ := hq
        subst hh
        have hE_1 : Eqk PQ c c_1 := hE0_1.mono P47_PQ
        have hM_1 : Mc c_1 := hM.of (hE0_1.row 43 (fun _ => rfl))
        have hs_1 : c_1 44 = s := (hE0_1.row 44 (fun _ => rfl)).trans hs
        refine E_iret rfl (fun h => absurd h (by decide)) ?_
        refine qryl ?_ hE_1
        unfold a_of
        first | (rw [if_pos (by omega)]) | (rw [if_neg (by omega)]; rfl)
      · refine E_sw (t := 94) rfl (by omega) (rfl) ?_
        refine E_load rfl rfl rfl ?_
        refine E_load rfl rfl rfl ?_
        refine E_V1 (q := 43) (c := 12) (y := 167) rfl rfl (hL.lt 43 rfl) (hL.k 43 rfl) rfl rfl rfl rfl (n_saysOf hL hM hs (by omega) hI hH) (fun r h2 hq => ?_)
        obtain ⟨rfl, c_2, hh, hE0_2⟩ := hq
        subst hh
        have hE_2 : Eqk PQ c c_2 := hE0_2.mono P47_PQ
        have hM_2 : Mc c_2 := hM.of (hE0_2.row 43 (fun _ => rfl))
        have hs_2 : c_2 44 = s := (hE0_2.row 44 (fun _ => rfl)).trans hs
        refine E_iret rfl (fun h => absurd h (by decide)) ?_
        refine qryl ?_ hE_2
        unfold a_of
        first | (rw [if_pos (by omega)]) | (rw [if_neg (by omega)]; rfl)
    · replace q2 := bI_z q2
      refine E_const rfl ?_
      refine E_iret rfl (fun h => absurd h (by decide)) ?_
      refine qryl ?_ Eqk.nil
      unfold a_of
      first | (rw [if_pos (by omega)]) | (rw [if_neg (by omega)]; rfl)
