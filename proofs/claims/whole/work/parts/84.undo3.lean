set_option maxHeartbeats 4000000 in
set_option maxRecDepth 100000 in
theorem j_remove {d : Nat} {h : Hp} {c : Nat → Nat → Int} (hL : Lay h) {n : Nat} {B : Nat → Nat} (hB : LBp h c (n + 1) B) : Ok (d + 2) 8 [(1, ((42 : Nat) : Int)), (0, (n : Int))] (wC h c) (fun r h2 => r = some (1, (B n : Int)) ∧ ∃ c2 : Nat → Nat → Int, ∃ E : Nat, h2 = wC h c2 ∧ LBp h c2 n B ∧ ((55 ≤ E ∧ E < mN h) ∧ ∀ i, i < n + 1 → E < B i ∨ B i + 6 < E) ∧ EqP (fun a k => (a = 42 ∧ (k = 0 ∨ k = 2)) ∨ (a = E ∧ k = n)) c c2) := by
  obtain ⟨b1, b2, b3⟩ := hB
  rcases b3 with ⟨b4, b5⟩ | ⟨E, e1, e2, e3, e4, e5, e6⟩
  · cases b5
  show Ex _ none t_Jx4a65c_remove_915e3 0 0 _ [] (wC h c) _
  refine E_load rfl rfl rfl ?_
  refine E_load rfl rfl rfl ?_
  refine E_getf (c := 0) (v := (0, ((n + 1 : Nat) : Int))) rfl (hL.lt 42 rfl) (hL.k 42 rfl) rfl (fv b1) ?_
  refine E_S2 (y := 229) rfl rfl rfl rfl rfl (j_check (Nat.lt_succ_self n) (by omega)) (fun r h2 hq => ?_)
  obtain ⟨rfl, hh⟩ := hq
  subst hh
  refine E_pop rfl rfl ?_
  refine E_load rfl rfl rfl ?_
  refine E_getr (c := 0) (r := E) rfl (hL.lt 42 rfl) (hL.k 42 rfl) rfl e1 ?_
  refine E_store rfl rfl rfl ?_
  refine E_load rfl rfl rfl ?_
  refine E_load rfl rfl rfl ?_
  refine E_aal rfl e2.2 e3 (by omega) (by rw [show mL (wC h c) _ = _ from e4]; omega) (by omega) ((rdC (by omega)).trans (e5 n (by omega))) ?_
  refine E_store rfl rfl rfl ?_
  refine E_load rfl rfl rfl ?_
  refine E_load rfl rfl rfl ?_
  refine E_load rfl rfl rfl ?_
  refine E_V2 (q := 42) (c := 0) (y := 9) rfl rfl (hL.lt 42 rfl) (hL.k 42 rfl) rfl rfl rfl rfl (j_fast hL ⟨e2, e3, e4⟩ (by omega) (by rw [b1]; omega)) (fun r h2 hq => ?_)
  obtain ⟨rfl, c_1, hh, k1, k2⟩ := hq
  subst hh
  refine E_load rfl rfl rfl ?_
  refine E_aret rfl ?_
  refine ⟨rfl, c_1, E, rfl, ⟨k1, by omega, Or.inr ⟨E, (k2 42 1 (by omega)).trans e1, e2, e3, e4, fun i hi => (k2 E i (by omega)).trans (e5 i (by omega)), fun i hi => e6 i (by omega)⟩⟩, ⟨e2, e6⟩, k2⟩
