set_option maxHeartbeats 4000000 in
set_option maxRecDepth 100000 in
theorem j_fast {d : Nat} {h : Hp} {c : Nat → Nat → Int} (hL : Lay h) {n E : Nat} (hE : (55 ≤ E ∧ E < mN h) ∧ mK h E = 22 ∧ mL h E = 10) (hn : n ≤ 5) (h2 : c 42 2 = (n : Int) + 1) : Ok (d) 9 [(1, ((42 : Nat) : Int)), (1, (E : Int)), (0, (n : Int))] (wC h c) (fun r h2 => r = none ∧ ∃ c2, h2 = wC h c2 ∧ c2 42 2 = (n : Int) ∧ EqP (fun a k => (a = 42 ∧ (k = 0 ∨ k = 2)) ∨ (a = E ∧ k = n)) c c2) := by
  show Ex _ none t_Jx4a65c_fastRemove_b59b0 0 0 _ [] (wC h c) _
  refine E_load rfl rfl rfl ?_
  refine E_dup rfl rfl ?_
  refine E_getf (c := 0) (v := (0, c 42 0)) rfl (hL.lt 42 rfl) (hL.k 42 rfl) rfl (fv rfl) ?_
  refine E_const rfl ?_
  refine E_add rfl ?_
  refine E_putg (cl := 0) rfl (hL.lt 42 rfl) (hL.k 42 rfl) rfl (fun c_1 hc_1 => ?_)
  refine E_load rfl rfl rfl ?_
  refine E_getf (c := 0) (v := (0, (n : Int) + 1)) rfl (hL.lt 42 rfl) (hL.k 42 rfl) rfl (fv (by show c_1 42 2 = _; rw [hc_1]; exact (up2_fldN (by omega)).trans h2)) ?_
  refine E_const rfl ?_
  refine E_sub rfl ?_
  refine E_dup rfl rfl ?_
  refine E_store rfl rfl rfl ?_
  refine E_load rfl rfl rfl ?_
  refine E_cmp5 rfl (by omega) (fun q1 => ?_) (fun q1 => by exfalso; omega)
  refine E_load rfl rfl rfl ?_
  refine E_load rfl rfl rfl ?_
  refine E_load rfl rfl rfl ?_
  refine E_dupx1 rfl rfl rfl ?_
  refine E_putg (cl := 0) rfl (hL.lt 42 rfl) (hL.k 42 rfl) rfl (fun c_2 hc_2 => ?_)
  refine E_nul rfl ?_
  refine E_aas rfl (show E < mN h from hE.1.2) (show mK h E = 22 from hE.2.1) (by omega) (by show (n : Int) + 1 - 1 < ((mL h E : Nat) : Int); rw [hE.2.2]; omega) (by omega) (Or.inl rfl) ?_
  refine E_vret rfl ?_
  refine ⟨rfl, up2 c_2 E n (-1), ?_, ?_, ?_⟩
  · rw [show ((n : Int) + 1 - 1).toNat = n by omega]; rfl
  · rw [hc_2]; exact (up2_fldN (by omega)).trans (up2_same.trans (by omega))
  · rw [hc_2, hc_1]
    exact (EqP.up (by omega)).trans ((EqP.up (by omega)).trans (EqP.up (by omega)))
