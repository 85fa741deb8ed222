/-! THE LAW'S LOOP, CLOSED -/
def LwQ (r : Option AV) (hE : Hp) : Prop := r = some (0, 1) ∧ mN hE ≤ 600000 ∧ mS hE ≤ 7302250
section LAWM
variable {h : Hp} {c : Nat → Nat → Int} {B : Nat → Nat} {s im : Nat → Int} {hi : Int} {L : List Int} {N : Nat} {xs : Nat → Int} {i : Int}
set_option maxHeartbeats 4000000 in
set_option maxRecDepth 100000 in
theorem w_sw {z : Int} {Q : Option AV → Hp → Prop} (hz : inR z) (hI : LawI h c B s im hi L) (hx : ∀ k, inR (xs k)) (h0 : 0 ≤ i) (h3 : i + 3 < (N : Int)) (hN : N ≤ 2048) (k : LawK N xs h i Q) : Ex 200 (some (N, xs)) t_L_law 3 32 [(1, -5), (1, ((0 : Nat) : Int)), (1, ((43 : Nat) : Int)), (0, i)] [(0, z)] (wC h c) Q := by
  by_cases e0 : z = 0
  · exact E_sw (t := 196) lr_32 hz (by rw [e0]; rfl) (w_feed hI hx h0 h3 hN k)
  by_cases e1 : z = 1
  · exact E_sw (t := 219) lr_32 hz (by rw [e1]; rfl) (w_cellar hI hx h0 h3 hN k)
  by_cases e2 : z = 2
  · exact E_sw (t := 232) lr_32 hz (by rw [e2]; rfl) (w_bottle hI hx h0 h3 hN k)
  by_cases e3 : z = 3
  · exact E_sw (t := 275) lr_32 hz (by rw [e3]; rfl) (w_guest hI hx h0 h3 hN k)
  by_cases e4 : z = 4
  · exact E_sw (t := 298) lr_32 hz (by rw [e4]; rfl) (w_of hI hx h0 h3 hN k)
  by_cases e5 : z = 5
  · exact E_sw (t := 331) lr_32 hz (by rw [e5]; rfl) (w_row hI hx h0 h3 hN k)
  by_cases e6 : z = 6
  · exact E_sw (t := 374) lr_32 hz (by rw [e6]; rfl) (w_set hI hx h0 h3 hN k)
  by_cases e7 : z = 7
  · exact E_sw (t := 417) lr_32 hz (by rw [e7]; rfl) (w_mood hI hx h0 h3 hN k)
  by_cases e8 : z = 8
  · exact E_sw (t := 440) lr_32 hz (by rw [e8]; rfl) (w_told hI hx h0 h3 hN k)
  by_cases e9 : z = 9
  · exact E_sw (t := 463) lr_32 hz (by rw [e9]; rfl) (w_pour hI hx h0 h3 hN k)
  by_cases e10 : z = 10
  · exact E_sw (t := 496) lr_32 hz (by rw [e10]; rfl) (w_both hI hx h0 h3 hN k)
  by_cases e11 : z = 11
  · exact E_sw (t := 539) lr_32 hz (by rw [e11]; rfl) (w_pass hI hx h0 h3 hN k)
  by_cases e12 : z = 12
  · exact E_sw (t := 562) lr_32 hz (by rw [e12]; rfl) (w_on hI hx h0 h3 hN k)
  by_cases e13 : z = 13
  · exact E_sw (t := 595) lr_32 hz (by rw [e13]; rfl) (w_when hI hx h0 h3 hN k)
  by_cases e14 : z = 14
  · exact E_sw (t := 628) lr_32 hz (by rw [e14]; rfl) (w_ripe hI hx h0 h3 hN k)
  by_cases e15 : z = 15
  · exact E_sw (t := 651) lr_32 hz (by rw [e15]; rfl) (w_lies hI hx h0 h3 hN k)
  by_cases e16 : z = 16
  · exact E_sw (t := 674) lr_32 hz (by rw [e16]; rfl) (w_choose hI hx h0 h3 hN k)
  by_cases e17 : z = 17
  · exact E_sw (t := 707) lr_32 hz (by rw [e17]; rfl) (w_line hI hx h0 h3 hN k)
  by_cases e18 : z = 18
  · exact E_sw (t := 740) lr_32 hz (by rw [e18]; rfl) (w_pair hI hx h0 h3 hN k)
  by_cases e19 : z = 19
  · exact E_sw (t := 753) lr_32 hz (by rw [e19]; rfl) (w_match hI hx h0 h3 hN k)
  by_cases e20 : z = 20
  · exact E_sw (t := 776) lr_32 hz (by rw [e20]; rfl) (w_words hI hx h0 h3 hN k)
  by_cases e21 : z = 21
  · exact E_sw (t := 819) lr_32 hz (by rw [e21]; rfl) (w_see hI hx h0 h3 hN k)
  by_cases e22 : z = 22
  · exact E_sw (t := 862) lr_32 hz (by rw [e22]; rfl) (w_old hI hx h0 h3 hN k)
  by_cases e23 : z = 23
  · exact E_sw (t := 895) lr_32 hz (by rw [e23]; rfl) (w_firm hI hx h0 h3 hN k)
  by_cases e24 : z = 24
  · exact E_sw (t := 928) lr_32 hz (by rw [e24]; rfl) (w_whose hI hx h0 h3 hN k)
  by_cases e25 : z = 25
  · exact E_sw (t := 961) lr_32 hz (by rw [e25]; rfl) (w_odds hI hx h0 h3 hN k)
  by_cases e26 : z = 26
  · exact E_sw (t := 1005) lr_32 hz (by rw [e26]; rfl) (w_mean hI hx h0 h3 hN k)
  by_cases e27 : z = 27
  · exact E_sw (t := 1039) lr_32 hz (by rw [e27]; rfl) (w_evening hI hx h0 h3 hN k)
  by_cases e28 : z = 28
  · exact E_sw (t := 1082) lr_32 hz (by rw [e28]; rfl) (w_done hI hx h0 h3 hN k)
  by_cases e29 : z = 29
  · exact E_sw (t := 1105) lr_32 hz (by rw [e29]; rfl) (w_book hI hx h0 h3 hN k)
  by_cases e30 : z = 30
  · exact E_sw (t := 1138) lr_32 hz (by rw [e30]; rfl) (w_looked hI hx h0 h3 hN k)
  by_cases e31 : z = 31
  · exact E_sw (t := 1151) lr_32 hz (by rw [e31]; rfl) (w_act hI hx h0 h3 hN k)
  by_cases e32 : z = 32
  · exact E_sw (t := 1194) lr_32 hz (by rw [e32]; rfl) (w_trace hI hx h0 h3 hN k)
  by_cases e33 : z = 33
  · exact E_sw (t := 1217) lr_32 hz (by rw [e33]; rfl) (w_as hI hx h0 h3 hN k)
  by_cases e34 : z = 34
  · exact E_sw (t := 1250) lr_32 hz (by rw [e34]; rfl) (w_image hI hx h0 h3 hN k)
  by_cases e35 : z = 35
  · exact E_sw (t := 1263) lr_32 hz (by rw [e35]; rfl) (w_undo hI hx h0 h3 hN k)
  by_cases e36 : z = 36
  · exact E_sw (t := 1276) lr_32 hz (by rw [e36]; rfl) (w_count hI hx h0 h3 hN k)
  refine E_sw (t := 1299) lr_32 hz ?_ (w_end rfl (k _ _ _ _ _ _ _ hI (Nat.le_add_right _ _) (Nat.le_add_right _ _)))
  simp only [List.lookup]
  (repeat' split) <;> first | rfl | (exfalso; simp at *; omega)
set_option maxHeartbeats 4000000 in
set_option maxRecDepth 100000 in
theorem w_loop (hx : ∀ k, inR (xs k)) (hN : N ≤ 2048) : ∀ (m : Nat) (i : Int) (h : Hp) (c : Nat → Nat → Int) (B : Nat → Nat) (s im : Nat → Int) (hi : Int) (L : List Int), LawI h c B s im hi L → 0 ≤ i → i ≤ (N : Int) + 4 → (N : Int) ≤ i + 4 * (m : Int) + 3 → mN h + 8 * m ≤ 600000 → mS h + 46 * m ≤ 7302250 → Ex 200 (some (N, xs)) t_L_law 3 18 [(1, -5), (1, ((0 : Nat) : Int)), (1, ((43 : Nat) : Int)), (0, i)] [] (wC h c) LwQ := by
  intro m
  induction m with
  | zero =>
    intro i h c B s im hi L hI h0 h4 hm hn hs
    refine E_load lr_18 rfl rfl ?_
    refine E_load lr_19 rfl rfl ?_
    refine E_lenS lr_20 ?_
    refine E_const lr_21 ?_
    refine E_sub lr_22 ?_
    refine E_cmp4 lr_23 ⟨by unfold inR; omega, by unfold inR; omega⟩ (fun _ => ?_) (fun e => absurd e (by omega))
    refine E_const lr_1305 ?_
    exact E_iret lr_1306 (fun _ => Or.inr rfl) ⟨rfl, by show mN h ≤ _; omega, by show mS h ≤ _; omega⟩
  | succ m ih =>
    intro i h c B s im hi L hI h0 h4 hm hn hs
    refine E_load lr_18 rfl rfl ?_
    refine E_load lr_19 rfl rfl ?_
    refine E_lenS lr_20 ?_
    refine E_const lr_21 ?_
    refine E_sub lr_22 ?_
    refine E_cmp4 lr_23 ⟨by unfold inR; omega, by unfold inR; omega⟩ (fun _ => ?_) (fun e => ?_)
    · refine E_const lr_1305 ?_
      exact E_iret lr_1306 (fun _ => Or.inr rfl) ⟨rfl, by show mN h ≤ _; omega, by show mS h ≤ _; omega⟩
    · refine E_load lr_26 rfl rfl ?_
      refine E_load lr_27 rfl rfl ?_
      refine E_sal lr_28 h0 (by omega) (by omega) ?_
      refine E_const lr_29 ?_
      refine E_bit lr_31 rfl rfl ?_
      refine w_sw (mBit_R _ _ _) hI hx h0 (by omega) hN ?_
      intro h' c' B' s' im' hi' L' hI' hn' hs'
      exact ih (i + 4) h' c' B' s' im' hi' L' hI' (by omega) (by omega) (by omega) (by omega) (by omega)
end LAWM
