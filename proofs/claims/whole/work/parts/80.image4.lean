set_option maxHeartbeats 4000000 in
set_option maxRecDepth 100000 in
theorem Cl_image {d : Nat} {h : Hp} {B : Nat → Nat} {s im : Nat → Int} {hi : Int} {L : List Int} (hL : Lay h) (hG : InvG s) (h2i : hi = 2) : ∀ (n i : Nat), i + n = (s 29).toNat → ∀ c, RepC h c B s im hi L → KepS c s → (∀ b : Nat, b < i → LaidS c (B b + 3) s b) → Ex (d + 4) none t_X10_image 0 44 [(1, ((0 : Nat) : Int)), (0, (i : Int))] [] (wC h c) (fun r h2 => r = some (0, s 29) ∧ ∃ c2, h2 = wC h c2 ∧ RepC h c2 B s s 1 L ∧ EqP FrC c c2) := by
  have hGG := hG
  obtain ⟨hI, hH, ⟨⟨n29, n30, n31, n32, n33, n34, n36⟩, nM⟩⟩ := hGG
  subst h2i
  intro n
  induction n with
  | zero =>
    intro i hin   c hR hK hV
    refine E_load rfl rfl rfl ?_
    refine E_load rfl rfl rfl ?_
    refine E_getr (c := 11) (r := 42) rfl (hL.lt 0 rfl) (hL.k 0 rfl) rfl (hR.C.g 0 11 42 (by decide)) ?_
    refine E_V0 (q := 42) (c := 0) (y := 3) rfl rfl (hL.lt 42 rfl) (hL.k 42 rfl) rfl rfl rfl rfl (j_size hL hR.list) (fun r h2 hq => ?_)
    obtain ⟨rfl, hh⟩ := hq
    subst hh
    refine E_cmp3 rfl (by omega) (fun q1 => ?_) (fun q1 => ?_)
    · exact Cl_imend hL hR n29 hK (fun b hb => hV b (by omega))
    · exfalso; omega
  | succ n ih =>
    intro i hin   c hR hK hV
    refine E_load rfl rfl rfl ?_
    refine E_load rfl rfl rfl ?_
    refine E_getr (c := 11) (r := 42) rfl (hL.lt 0 rfl) (hL.k 0 rfl) rfl (hR.C.g 0 11 42 (by decide)) ?_
    refine E_V0 (q := 42) (c := 0) (y := 3) rfl rfl (hL.lt 42 rfl) (hL.k 42 rfl) rfl rfl rfl rfl (j_size hL hR.list) (fun r h2 hq => ?_)
    obtain ⟨rfl, hh⟩ := hq
    subst hh
    refine E_cmp3 rfl (by omega) (fun q1 => ?_) (fun q1 => ?_)
    · exfalso; omega
    · have iB := hI i (by omega)
      obtain ⟨b1, b2, b3⟩ := hR.bot i (by omega)
      refine E_load rfl rfl rfl ?_
      refine E_getr (c := 11) (r := 42) rfl (hL.lt 0 rfl) (hL.k 0 rfl) rfl (hR.C.g 0 11 42 (by decide)) ?_
      refine E_load rfl rfl rfl ?_
      refine E_V1 (q := 42) (c := 0) (y := 5) rfl rfl (hL.lt 42 rfl) (hL.k 42 rfl) rfl rfl rfl rfl (j_get hL hR.list (by omega)) (fun r h2 hq => ?_)
      obtain ⟨rfl, hh⟩ := hq
      subst hh
      refine E_castB rfl (show (B i) < mN h by have := (hR.bot i (by omega)).1.1.1; omega) (hR.bot i (by omega)).1.isB ?_
      refine E_V0 (q := (B i)) (c := (mK h (B i))) (y := 11) rfl rfl (show (B i) < mN h by have := (hR.bot i (by omega)).1.1.1; omega) rfl (by have e := (hR.bot i (by omega)).1.isB; rcases e with e | e | e | e | e | e | e <;> rw [e] <;> rfl) rfl rfl rfl (b_keep b1 b2 (by have := iB.2.2.2.1; omega)) (fun r h2 hq => ?_)
      obtain ⟨rfl, c_1, hh, hv_1, he_1⟩ := hq
      subst hh
      have hE_1 : EqP (kpS B (s 29)) c c_1 := he_1.mono (fun a k e => Or.inr ⟨i, by omega, e⟩)
      have hR_1 := hR.kp hE_1
      refine E_iinc rfl rfl rfl ?_
      refine E_goto rfl ?_
      have b3 := (hR.bot i (by omega)).2.2
      refine (ih (i + 1) (by omega) c_1 hR_1 (hK.of fun a k h1 h2 => he_1 a k (by omega)) (fun b hb => ?_)).mono ?_
      · by_cases e : b = i
        · subst e; exact hv_1
        · have hd := hR.dis b i (by omega) (by omega) e
          exact (hV b (by omega)).ofE (fun k => he_1 _ k (by omega)) (fun k => he_1 _ k (by omega))
      · rintro r hE ⟨e1, c9, e2, e4, e3⟩
        exact ⟨e1, c9, e2, e4, EqP.trans (he_1.mono (fun a k e => by unfold FrC; omega)) e3⟩
