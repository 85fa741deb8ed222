def KepS (c : Nat → Nat → Int) (s : Nat → Int) : Prop := TapeR (c 1 4) (c 3) s ∧ MoodR (c 4 4) (c 6) s ∧ SeenR (c 10 4) (c 12) s ∧ EveR (c 13 4) (c 15) s ∧ BookR (c 16 4) (c 18) s ∧ HeldR (c 29 4) (c 31) (c 32 4) (c 34) s
theorem KepS.of {c c2 : Nat → Nat → Int} {s : Nat → Int} (h : KepS c s) (e : ∀ a k, a ≠ 0 → a < 55 → c2 a k = c a k) : KepS c2 s := by
  have row : ∀ a, a ≠ 0 → a < 55 → c2 a = c a := fun a h1 h2 => funext fun k => e a k h1 h2
  obtain ⟨h1, h2, h3, h4, h5, h6⟩ := h
  refine ⟨?_, ?_, ?_, ?_, ?_, ?_⟩
  · rw [row 1 (by omega) (by omega), row 3 (by omega) (by omega)]; exact h1
  · rw [row 4 (by omega) (by omega), row 6 (by omega) (by omega)]; exact h2
  · rw [row 10 (by omega) (by omega), row 12 (by omega) (by omega)]; exact h3
  · rw [row 13 (by omega) (by omega), row 15 (by omega) (by omega)]; exact h4
  · rw [row 16 (by omega) (by omega), row 18 (by omega) (by omega)]; exact h5
  · rw [row 29 (by omega) (by omega), row 31 (by omega) (by omega), row 32 (by omega) (by omega), row 34 (by omega) (by omega)]; exact h6
theorem RepC.kept1 {h : Hp} {c : Nat → Nat → Int} {B : Nat → Nat} {s im : Nat → Int} {L : List Int} (hR : RepC h c B s im 2 L) (hK : KepS c s) (h1 : c 0 14 = s 29) (h2 : c 0 15 = s 30) (h3 : c 0 16 = s 0) (hV : ∀ b : Nat, (b : Int) < s 29 → LaidS c (B b + 3) s b) : RepC h c B s s 1 L := by
  obtain ⟨k1, k2, k3, k4, k5, k6⟩ := hK
  exact ⟨hR.C, ⟨hR.cellars, hR.year⟩, hR.tape, hR.mood, hR.seen, hR.eve, hR.book, hR.bod, hR.held, hR.list, hR.bot, hR.dis, fun e => absurd e (by decide), fun _ => ⟨⟨h1, h2, h3⟩, k1, k2, k3, k4, k5, k6, Int.le_refl _, fun b hb => ⟨hV b hb, rfl⟩⟩⟩
set_option maxHeartbeats 4000000 in
set_option maxRecDepth 100000 in
theorem Cl_imend {d : Nat} {h : Hp} {c : Nat → Nat → Int} {B : Nat → Nat} {s im : Nat → Int} {hi : Int} {L : List Int} (hL : Lay h) (hR : RepC h c B s im hi L) (n29 : 0 ≤ s 29 ∧ s 29 ≤ 6) (hK : KepS c s) (hV : ∀ b : Nat, (b : Int) < s 29 → LaidS c (B b + 3) s b) {i : Int} : Ex (d + 4) none t_X10_image 0 79 [(1, ((0 : Nat) : Int)), (0, i)] [] (wC h c) (fun r h2 => r = some (0, s 29) ∧ ∃ c2, h2 = wC h c2 ∧ RepC h c2 B s s 1 L ∧ EqP FrC c c2) := by
  refine E_load rfl rfl rfl ?_
  refine E_load rfl rfl rfl ?_
  refine E_getr (c := 11) (r := 42) rfl (hL.lt 0 rfl) (hL.k 0 rfl) rfl (hR.C.g 0 11 42 (by decide)) ?_
  refine E_V0 (q := 42) (c := 0) (y := 3) rfl rfl (hL.lt 42 rfl) (hL.k 42 rfl) rfl rfl rfl rfl (j_size hL hR.list) (fun r h2 hq => ?_)
  obtain ⟨rfl, hh⟩ := hq
  subst hh
  refine E_putg (cl := 11) rfl (hL.lt 0 rfl) (hL.k 0 rfl) rfl (fun c_1 hc_1 => ?_)
  refine E_load rfl rfl rfl ?_
  refine E_load rfl rfl rfl ?_
  refine E_getf (c := 11) (v := (0, s 30)) rfl (hL.lt 0 rfl) (hL.k 0 rfl) rfl (fv (by show c_1 0 12 = _; rw [hc_1]; exact (up2_fldN (by omega)).trans hR.cellars)) ?_
  refine E_putg (cl := 11) rfl (hL.lt 0 rfl) (hL.k 0 rfl) rfl (fun c_2 hc_2 => ?_)
  refine E_load rfl rfl rfl ?_
  refine E_load rfl rfl rfl ?_
  refine E_getf (c := 11) (v := (0, s 0)) rfl (hL.lt 0 rfl) (hL.k 0 rfl) rfl (fv (by show c_2 0 13 = _; rw [hc_2, hc_1]; exact (up2_fldN (by omega)).trans ((up2_fldN (by omega)).trans hR.year))) ?_
  refine E_putg (cl := 11) rfl (hL.lt 0 rfl) (hL.k 0 rfl) rfl (fun c_3 hc_3 => ?_)
  refine E_load rfl rfl rfl ?_
  have f1 : c_3 0 14 = s 29 := by
    rw [hc_3, hc_2, hc_1]
    refine (up2_fldN (by omega)).trans ((up2_fldN (by omega)).trans (up2_same.trans ?_))
    exact Int.toNat_of_nonneg n29.1
  refine E_getf (c := 11) (v := (0, s 29)) rfl (hL.lt 0 rfl) (hL.k 0 rfl) rfl (fv f1) ?_
  refine E_iret rfl (fun h => absurd h (by decide)) ?_
  have fe : EqP (fun a k => a = 0 ∧ (k = 14 ∨ k = 15 ∨ k = 16)) c c_3 := by
    rw [hc_3, hc_2, hc_1]
    exact (EqP.up (by omega)).trans ((EqP.up (by omega)).trans (EqP.up (by omega)))
  have hR3 := hR.kp (kp0_B fe (fun a k e => by unfold kp0; omega))
  exact ⟨rfl, c_3, rfl, hR3.kept1 (hK.of fun a k h1 h2 => fe a k (by omega)) f1 (by rw [hc_3, hc_2]; exact (up2_fldN (by omega)).trans up2_same) (by rw [hc_3]; exact up2_same) (fun b hb => by
    have b3 := (hR.bot b hb).2.2
    exact (hV b hb).ofE (fun k => fe _ k (by omega)) (fun k => fe _ k (by omega))), fe.mono (fun a k e => by unfold FrC; omega)⟩
