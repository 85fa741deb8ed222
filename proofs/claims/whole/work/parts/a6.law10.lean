/-! THE START OF THE LAW -/
def st0 : Nat → Int := upd1 (fun _ => 0) 35 (-1)
theorem st0_0 {k : Nat} (h : k ≠ 35) : st0 k = 0 := if_neg h
theorem st0_35 : st0 35 = -1 := rfl
theorem I_start : Inv st0 := by
  refine ⟨fun b hb => ?_, Or.inl st0_35, ⟨?_, fun k hk => ?_⟩, ?_, ?_, fun k hk => ?_, fun k hk => ?_, fun k hk => ?_, fun k hk => ?_⟩
  · rw [st0_0 (k := 1 + b) (by omega), st0_0 (k := 7 + b) (by omega), st0_0 (k := 13 + b) (by omega), st0_0 (k := 19 + b) (by omega), st0_0 (k := 37 + b) (by omega), st0_0 (k := 43 + b) (by omega)]
    refine ⟨by omega, by omega, by omega, by omega, by omega, by omega, fun k hk => ?_⟩
    rw [st0_0 (by omega)]
    omega
  · rw [st0_0 (k := 29) (by omega), st0_0 (k := 30) (by omega), st0_0 (k := 31) (by omega), st0_0 (k := 32) (by omega), st0_0 (k := 33) (by omega), st0_0 (k := 34) (by omega), st0_0 (k := 36) (by omega)]
    omega
  · rw [st0_0 (by omega)]
    omega
  · rw [st0_0 (by omega)]
    omega
  · rw [st0_35, st0_0 (by omega)]
    rfl
  · rw [st0_0 (by omega)]
    omega
  · rw [st0_0 (by omega)] at hk
    exact absurd hk (by omega)
  · rw [st0_0 (by omega)] at hk
    exact absurd hk (by omega)
  · rw [st0_0 (by omega)] at hk
    exact absurd hk (by omega)
theorem R_start {h : Hp} {c : Nat → Nat → Int} (hC : Cc c) (h0 : c 0 12 = 0 ∧ c 0 13 = 0 ∧ c 0 14 = -1) (hz : c 1 3 = 0 ∧ c 4 3 = 0 ∧ c 10 3 = 0 ∧ c 13 3 = 0 ∧ c 16 3 = 0 ∧ c 19 3 = 0 ∧ c 29 3 = 0 ∧ c 32 3 = 0) (h42 : c 42 1 = -2 ∧ c 42 2 = 0) (im : Nat → Int) : RepC h c (fun _ => 0) st0 im 0 [] := by
  obtain ⟨z1, z2, z3, z4, z5, z6, z7, z8⟩ := hz
  have n0 : ∀ k : Nat, ¬ ((k : Int) < 0) := fun k => by omega
  have y : ∀ k, k ≠ 35 → ∀ j : Nat, ¬ ((j : Int) < st0 k) := fun k hk j => by rw [st0_0 hk]; omega
  refine ⟨hC, ⟨by rw [h0.1, st0_0 (by omega)], by rw [h0.2.1, st0_0 (by omega)]⟩, ⟨by rw [z1, st0_0 (by omega)], fun k hk => absurd hk (y _ (by omega) k)⟩, ⟨by rw [z2, st0_0 (by omega)], fun k hk => absurd hk (y _ (by omega) k)⟩, ⟨by rw [z3, st0_0 (by omega)], fun k hk => absurd hk (y _ (by omega) k)⟩, ⟨by rw [z4, st0_0 (by omega)], fun k hk => absurd hk (y _ (by omega) k)⟩, ⟨by rw [z5, st0_0 (by omega)], fun k hk => absurd hk (y _ (by omega) k)⟩, ⟨z6, fun j hj => absurd hj (Nat.not_lt_zero j)⟩, ?_, ?_, fun b hb => absurd hb (y _ (by omega) b), fun i j hi hj => absurd hi (y _ (by omega) i), fun _ => h0.2.2, fun e => absurd e (by decide)⟩
  · refine ⟨[], ⟨z7, z8, trivial, trivial, ⟨Nat.zero_le _, Nat.zero_le _⟩, fun x hx => absurd hx List.not_mem_nil⟩, ?_, ?_, ?_⟩
    · unfold stL
      rw [if_pos st0_35]
      rfl
    · unfold tlI
      rw [if_pos st0_35]
      rfl
    · unfold tlI
      rw [if_pos st0_35]
      rfl
  · rw [st0_0 (by omega)]
    exact ⟨h42.2, by omega, Or.inl ⟨h42.1, rfl⟩⟩
set_option maxHeartbeats 4000000 in
set_option maxRecDepth 100000 in
theorem w_start {N : Nat} {xs : Nat → Int} (hx : ∀ k, inR (xs k)) (hN : N ≤ 2048) : Ex 200 (some (N, xs)) t_L_law 3 0 (mEnt 4 [(1, -5)]) [] h0 LwQ := by
  show Ex 200 (some (N, xs)) t_L_law 3 0 [(1, -5), (9, 0), (9, 0), (9, 0)] [] (wC h0 (fun _ _ => 0)) LwQ
  have hN0 : LayN 0 h0 := ⟨rfl, fun a ha => absurd ha (Nat.not_lt_zero _)⟩
  refine E_newg (h := h0) lr_0 rfl ?_
  refine E_dup lr_3 rfl ?_
  have hN1 : LayN (0 + 1) (nwH h0 11 17) := hN0.nw rfl rfl
  show Ex 200 _ _ _ _ _ [(1, ((0 : Nat) : Int)), (1, ((0 : Nat) : Int))] (wC (nwH h0 11 17) (nwC (fun _ _ => 0) 0 (mDef 11))) _
  refine E_V0 (h := wC (nwH h0 11 17) (nwC (fun _ _ => 0) 0 (mDef 11))) (q := 0) (c := 11) (y := 73) lr_4 rfl (show 0 < 1 by decide) (show mK (nwH h0 11 17) 0 = 11 from rfl) rfl rfl rfl rfl (c_newX hN1 nwC_n) (fun r h2 hq => ?_)
  obtain ⟨rfl, h1, c1, hh, hN2, hS2, hC, h0c, hz, h42⟩ := hq
  subst hh
  show Ex 200 _ _ _ _ _ [(1, ((0 : Nat) : Int))] _ _
  refine E_store lr_7 rfl rfl ?_
  refine E_newg (h := h1) lr_8 rfl ?_
  refine E_dup lr_11 rfl ?_
  rw [hN2.1]
  have hN3 : LayN (43 + 1) (nwH h1 12 24) := hN2.nw rfl rfl
  show Ex 200 _ _ _ _ _ [(1, ((43 : Nat) : Int)), (1, ((43 : Nat) : Int))] (wC (nwH h1 12 24) (nwC c1 43 (mDef 12))) _
  refine E_V0 (h := wC (nwH h1 12 24) (nwC c1 43 (mDef 12))) (q := 43) (c := 12) (y := 138) lr_12 rfl (show 43 < mN (nwH h1 12 24) by rw [hN3.1]; omega) (hN3.2 43 (by omega)).1 rfl rfl rfl rfl (c_newM hN3 nwC_n) (fun r h2 hq => ?_)
  obtain ⟨rfl, h3, c3, hh, hN4, hS4, hM, h44, h43, hlo⟩ := hq
  subst hh
  show Ex 200 _ _ _ _ _ [(1, ((43 : Nat) : Int))] _ _
  refine E_store lr_15 rfl rfl ?_
  refine E_const lr_16 ?_
  refine E_store lr_17 rfl rfl ?_
  have lo : ∀ a, a < 43 → c3 a = c1 a := fun a ha => (hlo a ha).trans (nwC_o (by omega))
  have hCT : ∀ e ∈ CT, e.1 < 43 := by decide
  have hC3 : Cc c3 := hC.of fun e he => by rw [lo e.1 (hCT e he)]
  have hR : RepC h3 c3 (fun _ => 0) st0 (c3 45) 0 [] := R_start hC3 (by rw [lo 0 (by omega)]; exact h0c) (by rw [lo 1 (by omega), lo 4 (by omega), lo 10 (by omega), lo 13 (by omega), lo 16 (by omega), lo 19 (by omega), lo 29 (by omega), lo 32 (by omega)]; exact hz) (by rw [lo 42 (by omega)]; exact h42) _
  have hI : LawI h3 c3 (fun _ => 0) st0 (c3 45) 0 [] := ⟨⟨by rw [hN4.1]; omega, fun a ha => hN4.2 a ha⟩, hM, h44, I_start, hR, ⟨h43.2, fun j hj => absurd hj (Nat.not_lt_zero j)⟩, Nat.zero_le _, Or.inl rfl, h43.1, fun _ _ => rfl, fun e => absurd e (by decide)⟩
  have e1 : mS (nwH h1 12 24) = mS h1 + 24 := rfl
  have e2 : mS (nwH h0 11 17) = 17 := rfl
  have e3 := hN4.1
  exact w_loop hx hN 512 0 h3 c3 _ _ _ _ _ hI (by omega) (by omega) (by omega) (by omega) (by omega)
