/-! UNDO: a row that is like another's in its 943 places -/
def Lk (t s : Nat → Int) : Prop := ∀ k, k < 943 → t k = s k
theorem HoldS.lk {t s : Nat → Int} {l : List CLA} (e : Lk t s) (hH : InvH s) (h : HoldS s l) : HoldS t l := by
  have e35 := e 35 (by omega)
  obtain ⟨h1, h2, h3⟩ := h
  refine ⟨?_, ?_, ?_⟩
  · rw [← h1]
    unfold stL
    rw [e35]
    by_cases hc : s 35 = -1
    · rw [if_pos hc, if_pos hc]
    · rw [if_neg hc, if_neg hc]
      rcases hH with hH | ⟨g1, g2, g3, g4, g5⟩
      · exact absurd hH hc
      · rw [e (238 + s 35).toNat (by omega)]
        refine List.map_congr_left fun i hi => ?_
        have := List.mem_range.mp hi
        exact e _ (by omega)
  · rw [← h2]
    unfold tlI
    rw [e35]
    by_cases hc : s 35 = -1
    · rw [if_pos hc, if_pos hc]
    · rw [if_neg hc, if_neg hc]
      rcases hH with hH | ⟨g1, -⟩
      · exact absurd hH hc
      · exact e _ (by omega)
  · rw [← h3]
    unfold tlI
    rw [e35]
    by_cases hc : s 35 = -1
    · rw [if_pos hc, if_pos hc]
    · rw [if_neg hc, if_neg hc]
      rcases hH with hH | ⟨g1, -⟩
      · exact absurd hH hc
      · exact e _ (by omega)
theorem RepC.lk {h : Hp} {c : Nat → Nat → Int} {B : Nat → Nat} {s t im : Nat → Int} {hi : Int} {L : List Int} (hR : RepC h c B s im hi L) (hA : Inv s) (e : Lk t s) : RepC h c B t im hi L := by
  obtain ⟨hI, hH, ⟨⟨n29, n30, n31, n32, n33, n34, n36⟩, nM⟩, hX⟩ := hA
  have e29 := e 29 (by omega)
  refine ⟨hR.C, ⟨hR.cellars.trans (e 30 (by omega)).symm, hR.year.trans (e 0 (by omega)).symm⟩, ⟨hR.tape.1.trans (e 34 (by omega)).symm, fun k hk => ?_⟩, ⟨hR.mood.1.trans (e 36 (by omega)).symm, fun k hk => ?_⟩, ⟨hR.seen.1.trans (e 31 (by omega)).symm, fun k hk => ?_⟩, ⟨hR.eve.1.trans (e 32 (by omega)).symm, fun k hk => ?_⟩, ⟨hR.book.1.trans (e 33 (by omega)).symm, fun k hk => ?_⟩, hR.bod, ?_, by rw [e29]; exact hR.list, fun b hb => ?_, by rw [e29]; exact hR.dis, hR.none, fun h1 => ?_⟩
  · rw [e 34 (by omega)] at hk
    rw [e _ (by omega)]; exact hR.tape.2 k hk
  · rw [e 36 (by omega)] at hk
    rw [e _ (by omega)]; exact hR.mood.2 k hk
  · rw [e 31 (by omega)] at hk
    rw [e (73 + k) (by omega), e (78 + k) (by omega), e (83 + k) (by omega)]; exact hR.seen.2 k hk
  · rw [e 32 (by omega)] at hk
    rw [e (88 + k) (by omega), e (96 + k) (by omega), e (104 + k) (by omega)]; exact hR.eve.2 k hk
  · rw [e 33 (by omega)] at hk
    rw [e (112 + k) (by omega), e (120 + k) (by omega)]; exact hR.book.2 k hk
  · obtain ⟨l, k1, k2⟩ := hR.held
    exact ⟨l, k1, k2.lk e hH⟩
  · rw [e29] at hb
    obtain ⟨b1, b2, b3⟩ := hR.bot b hb
    rw [e (37 + b) (by omega)]
    exact ⟨b1, LaidS.tr b2 (by omega) (fun k hk => e k (by omega)), b3⟩
  · obtain ⟨k1, k2, k3, k4, k5, k6, k7, k8, k9⟩ := hR.kept h1
    refine ⟨k1, k2, k3, k4, k5, k6, k7, by rw [e29]; exact k8, fun b hb => ?_⟩
    rw [e (37 + b) (by omega)]
    exact k9 b hb
theorem unS_lk {s im : Nat → Int} : Lk (unS s im) im := fun k hk => if_pos hk
