set_option maxHeartbeats 4000000 in
set_option maxRecDepth 100000 in
theorem C_image {d : Nat} {h : Hp} {c : Nat → Nat → Int} {B : Nat → Nat} {s im : Nat → Int} {hi : Int} {L : List Int} (hL : Lay h) (hR : RepC h c B s im hi L) (hA : Inv s) : Ok (d + 5) 108 [(1, ((0 : Nat) : Int))] (wC h c) (fun r h2 => r = some (0, s 29) ∧ ∃ c2, h2 = wC h c2 ∧ RepC h c2 B s s 1 L ∧ EqP FrC c c2) := by
  obtain ⟨hI, hH, ⟨⟨n29, n30, n31, n32, n33, n34, n36⟩, nM⟩, hX⟩ := hA
  have hG : InvG s := ⟨hI, hH, ⟨n29, n30, n31, n32, n33, n34, n36⟩, nM⟩
  show Ex _ none t_X10_image 0 0 _ [] (wC h c) _
  refine E_load rfl rfl rfl ?_
  refine E_getr (c := 11) (r := 1) rfl (hL.lt 0 rfl) (hL.k 0 rfl) rfl (hR.C.g 0 0 1 (by decide)) ?_
  refine E_V0 (q := 1) (c := 8) (y := 64) rfl rfl (hL.lt 1 rfl) (hL.k 1 rfl) rfl rfl rfl rfl (s_keep (sh1 hL hR.C) (by decide) (by decide)) (fun r h2 hq => ?_)
  obtain ⟨rfl, c_1, hh, k1, j1, e1⟩ := hq
  subst hh
  have hR_1 := hR.kp (kp0_B e1 (fun a k e => by unfold kp0; omega))
  refine E_load rfl rfl rfl ?_
  refine E_getr (c := 11) (r := 4) rfl (hL.lt 0 rfl) (hL.k 0 rfl) rfl (hR_1.C.g 0 1 4 (by decide)) ?_
  refine E_V0 (q := 4) (c := 8) (y := 64) rfl rfl (hL.lt 4 rfl) (hL.k 4 rfl) rfl rfl rfl rfl (s_keep (sh4 hL hR_1.C) (by decide) (by decide)) (fun r h2 hq => ?_)
  obtain ⟨rfl, c_2, hh, k2, j2, e2⟩ := hq
  subst hh
  have hR_2 := hR_1.kp (kp0_B e2 (fun a k e => by unfold kp0; omega))
  refine E_load rfl rfl rfl ?_
  refine E_getr (c := 11) (r := 10) rfl (hL.lt 0 rfl) (hL.k 0 rfl) rfl (hR_2.C.g 0 3 10 (by decide)) ?_
  refine E_V0 (q := 10) (c := 8) (y := 64) rfl rfl (hL.lt 10 rfl) (hL.k 10 rfl) rfl rfl rfl rfl (s_keep (sh10 hL hR_2.C) (by decide) (by decide)) (fun r h2 hq => ?_)
  obtain ⟨rfl, c_3, hh, k3, j3, e3⟩ := hq
  subst hh
  have hR_3 := hR_2.kp (kp0_B e3 (fun a k e => by unfold kp0; omega))
  refine E_load rfl rfl rfl ?_
  refine E_getr (c := 11) (r := 13) rfl (hL.lt 0 rfl) (hL.k 0 rfl) rfl (hR_3.C.g 0 4 13 (by decide)) ?_
  refine E_V0 (q := 13) (c := 8) (y := 64) rfl rfl (hL.lt 13 rfl) (hL.k 13 rfl) rfl rfl rfl rfl (s_keep (sh13 hL hR_3.C) (by decide) (by decide)) (fun r h2 hq => ?_)
  obtain ⟨rfl, c_4, hh, k4, j4, e4⟩ := hq
  subst hh
  have hR_4 := hR_3.kp (kp0_B e4 (fun a k e => by unfold kp0; omega))
  refine E_load rfl rfl rfl ?_
  refine E_getr (c := 11) (r := 16) rfl (hL.lt 0 rfl) (hL.k 0 rfl) rfl (hR_4.C.g 0 5 16 (by decide)) ?_
  refine E_V0 (q := 16) (c := 8) (y := 64) rfl rfl (hL.lt 16 rfl) (hL.k 16 rfl) rfl rfl rfl rfl (s_keep (sh16 hL hR_4.C) (by decide) (by decide)) (fun r h2 hq => ?_)
  obtain ⟨rfl, c_5, hh, k5, j5, e5⟩ := hq
  subst hh
  have hR_5 := hR_4.kp (kp0_B e5 (fun a k e => by unfold kp0; omega))
  refine E_load rfl rfl rfl ?_
  refine E_getr (c := 11) (r := 28) rfl (hL.lt 0 rfl) (hL.k 0 rfl) rfl (hR_5.C.g 0 9 28 (by decide)) ?_
  refine E_V0 (q := 28) (c := 2) (y := 21) rfl rfl (hL.lt 28 rfl) (hL.k 28 rfl) rfl rfl rfl rfl (c_hkeep hL hR_5) (fun r h2 hq => ?_)
  obtain ⟨rfl, c_6, hh, k6, e6⟩ := hq
  subst hh
  have hR_6 := hR_5.kp (kp0_B e6 (fun a k e => by unfold kp0; omega))
  have hK : KepS c_6 s := by
    refine ⟨⟨(((((e6 1 4 (by omega)).trans (e5 1 4 (by omega))).trans (e4 1 4 (by omega))).trans (e3 1 4 (by omega))).trans (e2 1 4 (by omega))).trans (k1.trans hR.tape.1), fun k hk => ?_⟩, ⟨((((e6 4 4 (by omega)).trans (e5 4 4 (by omega))).trans (e4 4 4 (by omega))).trans (e3 4 4 (by omega))).trans (k2.trans hR_1.mood.1), fun k hk => ?_⟩, ⟨(((e6 10 4 (by omega)).trans (e5 10 4 (by omega))).trans (e4 10 4 (by omega))).trans (k3.trans hR_2.seen.1), fun k hk => ?_⟩, ⟨((e6 13 4 (by omega)).trans (e5 13 4 (by omega))).trans (k4.trans hR_3.eve.1), fun k hk => ?_⟩, ⟨(e6 16 4 (by omega)).trans (k5.trans hR_4.book.1), fun k hk => ?_⟩, k6⟩
    · exact (((((e6 3 k (by omega)).trans (e5 3 k (by omega))).trans (e4 3 k (by omega))).trans (e3 3 k (by omega))).trans (e2 3 k (by omega))).trans ((j1 k (by omega)).trans (hR.tape.2 k hk))
    · exact ((((e6 6 k (by omega)).trans (e5 6 k (by omega))).trans (e4 6 k (by omega))).trans (e3 6 k (by omega))).trans ((j2 k (by omega)).trans (hR_1.mood.2 k hk))
    · exact ⟨(((e6 12 (3 * k) (by omega)).trans (e5 12 (3 * k) (by omega))).trans (e4 12 (3 * k) (by omega))).trans ((j3 (3 * k) (by omega)).trans (hR_2.seen.2 k hk).1), (((e6 12 (3 * k + 1) (by omega)).trans (e5 12 (3 * k + 1) (by omega))).trans (e4 12 (3 * k + 1) (by omega))).trans ((j3 (3 * k + 1) (by omega)).trans (hR_2.seen.2 k hk).2.1), (((e6 12 (3 * k + 2) (by omega)).trans (e5 12 (3 * k + 2) (by omega))).trans (e4 12 (3 * k + 2) (by omega))).trans ((j3 (3 * k + 2) (by omega)).trans (hR_2.seen.2 k hk).2.2)⟩
    · exact ⟨((e6 15 (3 * k) (by omega)).trans (e5 15 (3 * k) (by omega))).trans ((j4 (3 * k) (by omega)).trans (hR_3.eve.2 k hk).1), ((e6 15 (3 * k + 1) (by omega)).trans (e5 15 (3 * k + 1) (by omega))).trans ((j4 (3 * k + 1) (by omega)).trans (hR_3.eve.2 k hk).2.1), ((e6 15 (3 * k + 2) (by omega)).trans (e5 15 (3 * k + 2) (by omega))).trans ((j4 (3 * k + 2) (by omega)).trans (hR_3.eve.2 k hk).2.2)⟩
    · exact ⟨(e6 18 (2 * k) (by omega)).trans ((j5 (2 * k) (by omega)).trans (hR_4.book.2 k hk).1), (e6 18 (2 * k + 1) (by omega)).trans ((j5 (2 * k + 1) (by omega)).trans (hR_4.book.2 k hk).2)⟩
  refine E_const rfl ?_
  refine E_store rfl rfl rfl ?_
  refine (Cl_image hL hG rfl _ 0 (Nat.zero_add _) c_6 hR_6 hK (fun b hb => absurd hb (Nat.not_lt_zero b))).mono ?_
  rintro r hE ⟨q1, c9, q2, q4, q3⟩
  refine ⟨q1, c9, q2, q4, EqP.trans (fun a k hk => ?_) q3⟩
  unfold FrC at hk
  exact (e6 a k (by omega)).trans ((e5 a k (by omega)).trans ((e4 a k (by omega)).trans ((e3 a k (by omega)).trans ((e2 a k (by omega)).trans (e1 a k (by omega))))))
