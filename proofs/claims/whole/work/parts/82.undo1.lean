set_option maxHeartbeats 4000000 in
set_option maxRecDepth 100000 in
theorem c_hrest {d : Nat} {h : Hp} {c : Nat → Nat → Int} {im : Nat → Int} (hL : Lay h) (hC : Cc c) (hH : HeldR (c 29 4) (c 31) (c 32 4) (c 34) im) : Ok (d + 2) 22 [(1, ((28 : Nat) : Int))] (wC h c) (fun r h2 => r = none ∧ ∃ c2, h2 = wC h c2 ∧ HeldR (c2 29 3) (c2 30) (c2 32 3) (c2 33) im ∧ EqP (fun a k => a = 30 ∨ a = 33 ∨ (k = 3 ∧ (a = 29 ∨ a = 32))) c c2) := by
  show Ex _ none t_X1_restore 0 0 _ [] (wC h c) _
  refine E_load rfl rfl rfl ?_
  refine E_getr (c := 2) (r := 29) rfl (hL.lt 28 rfl) (hL.k 28 rfl) rfl (hC.g 28 1 29 (by decide)) ?_
  refine E_V0 (q := 29) (c := 8) (y := 65) rfl rfl (hL.lt 29 rfl) (hL.k 29 rfl) rfl rfl rfl rfl (s_restore (sh29 hL hC) (by decide) (by decide)) (fun r h2 hq => ?_)
  obtain ⟨rfl, c_1, hh, k1, k2, e1⟩ := hq
  subst hh
  have hC1 : Cc c_1 := hC.of fun e he => e1 _ _ (by
    have : ∀ e ∈ CT, e.1 ≠ 30 ∧ (e.1 ≠ 29 ∨ e.2.1 ≠ 3) := by decide
    have := this e he
    omega)
  refine E_load rfl rfl rfl ?_
  refine E_getr (c := 2) (r := 32) rfl (hL.lt 28 rfl) (hL.k 28 rfl) rfl (hC1.g 28 2 32 (by decide)) ?_
  refine E_V0 (q := 32) (c := 8) (y := 65) rfl rfl (hL.lt 32 rfl) (hL.k 32 rfl) rfl rfl rfl rfl (s_restore (sh32 hL hC1) (by decide) (by decide)) (fun r h2 hq => ?_)
  obtain ⟨rfl, c_2, hh, k3, k4, e2⟩ := hq
  subst hh
  refine E_vret rfl ?_
  obtain ⟨l, l1, l2⟩ := hH
  exact ⟨rfl, c_2, rfl, ⟨l, l1.of ((e2 29 3 (by omega)).trans k1) (k3.trans (e1 32 4 (by omega))) (fun j hj => (e2 30 j (by omega)).trans (k2 j hj)) (fun j hj => (k4 j hj).trans (e1 34 j (by omega))), l2⟩, fun a k hk => (e2 a k (by omega)).trans (e1 a k (by omega))⟩
