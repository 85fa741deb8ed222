/-! THE REFERENCE'S READER: its fields and what it reads -/
def hrV (g : Nat → Int) (n k : Nat) : Int := if k < n then g k else -1
theorem hrV_or {g : Nat → Int} {n : Nat} (h : Ends g n) (k : Nat) : (hrV g n k = g k ∧ 0 ≤ g k ∧ g k ≤ 127) ∨ (hrV g n k = -1 ∧ g k = 0) := by
  unfold hrV
  by_cases hk : k < n
  · rw [if_pos hk]; exact Or.inl ⟨rfl, h.2.2 k⟩
  · rw [if_neg hk]; exact Or.inr ⟨rfl, h.2.1 k (by omega)⟩
def RS (c : Nat → Nat → Int) (s : Nat → Int) (act n k : Nat) (w o : Int) : Prop := Mc c ∧ c 44 = s ∧ c 43 5 = (act : Int) ∧ c 43 6 = (k : Int) ∧ c 43 7 = (n : Int) ∧ c 43 8 = w ∧ c 43 9 = o
def TpR (s g : Nat → Int) (n : Nat) : Prop := ∀ j, j < n → s (128 + j) = g j
def Rg (act : Nat) (s s2 : Nat → Int) : Prop := ∀ k, k ≠ 238 + act → ¬ (243 + 140 * act ≤ k ∧ k < 383 + 140 * act) → s2 k = s k
def StR (s : Nat → Int) (act : Nat) (L : List Int) : Prop := s (238 + act) = (L.length : Int) ∧ ∀ i, i < L.length → s (243 + 140 * act + i) = L.getD i 0
theorem Rg.nil {act : Nat} {s : Nat → Int} : Rg act s s := fun _ _ _ => rfl
theorem Rg.trans {act : Nat} {s s1 s2 : Nat → Int} (h1 : Rg act s s1) (h2 : Rg act s1 s2) : Rg act s s2 := fun k a b => (h2 k a b).trans (h1 k a b)
theorem TpR.rg {act : Nat} {s s2 g : Nat → Int} {n : Nat} (h : TpR s g n) (hg : Rg act s s2) (hn : n ≤ 100) : TpR s2 g n := fun j hj => (hg _ (by omega) (by omega)).trans (h j hj)
theorem gdL {a b : List Int} {i : Nat} (h : i < a.length) : (a ++ b).getD i 0 = a.getD i 0 := by rw [List.getD_eq_getElem?_getD, List.getD_eq_getElem?_getD, List.getElem?_append_left h]
theorem gdR {a b : List Int} {i : Nat} (h : a.length ≤ i) : (a ++ b).getD i 0 = b.getD (i - a.length) 0 := by rw [List.getD_eq_getElem?_getD, List.getD_eq_getElem?_getD, List.getElem?_append_right h]
theorem StR.add {s : Nat → Int} {act : Nat} {L : List Int} {x : Int} (h : StR s act L) (hl : L.length ≤ 100) : StR (upd1 (upd1 s (243 + 140 * act + L.length) x) (238 + act) ((L.length : Int) + 1)) act (L ++ [x]) := by
  refine ⟨?_, fun i hi => ?_⟩
  · rw [upd1_same, List.length_append]; rfl
  · rw [List.length_append] at hi
    have hi : i < L.length + 1 := hi
    rw [upd1_ne (by omega)]
    by_cases e : i = L.length
    · subst e
      rw [upd1_same, gdR (Nat.le_refl _), Nat.sub_self]
      rfl
    · rw [upd1_ne (by omega), h.2 i (by omega), gdL (by omega)]
theorem Rg.add {s : Nat → Int} {act m : Nat} {x y : Int} (hl : m ≤ 100) : Rg act s (upd1 (upd1 s (243 + 140 * act + m) x) (238 + act) y) := fun k a b => by rw [upd1_ne a, upd1_ne (by omega)]
theorem prLen {kt : Nat} (hk : kt < 10) : mPrim txt 0 [(1, -10 - (kt : Int))] = some (0, ((txt kt).length : Int)) := by
  show (if -10 - (kt : Int) ≤ -10 ∧ -20 < -10 - (kt : Int) then some (0, ((txt (-10 - (-10 - (kt : Int))).toNat).length : Int)) else none) = _
  rw [if_pos (by omega), show (-10 - (-10 - (kt : Int))).toNat = kt by omega]
theorem prAt {kt i : Nat} (hk : kt < 10) (hi : i < (txt kt).length) : mPrim txt 1 [(1, -10 - (kt : Int)), (0, (i : Int))] = some (0, (((txt kt).getD i 0 : Nat) : Int)) := by
  show (if -10 - (kt : Int) ≤ -10 ∧ -20 < -10 - (kt : Int) ∧ 0 ≤ (i : Int) ∧ (i : Int).toNat < (txt (-10 - (-10 - (kt : Int))).toNat).length then some (0, (((txt (-10 - (-10 - (kt : Int))).toNat).getD (i : Int).toNat 0 : Nat) : Int)) else none) = _
  rw [show (-10 - (-10 - (kt : Int))).toNat = kt by omega, Int.toNat_natCast, if_pos (by omega)]
theorem txtC : ∀ kt, kt < 10 → ∀ c ∈ txt kt, 0 < c ∧ c ≤ 127 := by decide
set_option maxHeartbeats 4000000 in
set_option maxRecDepth 100000 in
theorem n_here {d : Nat} {h : Hp} {c : Nat → Nat → Int} {s g : Nat → Int} {act n k : Nat} {w o : Int} (hL : Lay h) (hR : RS c s act n k w o) (hE : Ends g n) (hT : TpR s g n) (hk : k ≤ n) : Ok (d) 150 [(1, ((43 : Nat) : Int))] (wC h c) (fun r h2 => r = some (0, hrV g n k) ∧ h2 = wC h c) := by
  show Ex _ none t_X11_here 0 0 _ [] (wC h c) _
  obtain ⟨hM, hs, f5, f6, f7, f8, f9⟩ := hR
  have hn := hE.1
  refine E_load rfl rfl rfl ?_
  refine E_getf (c := 12) (v := (0, ((k : Nat) : Int))) rfl (hL.lt 43 rfl) (hL.k 43 rfl) rfl (fv f6) ?_
  refine E_load rfl rfl rfl ?_
  refine E_getf (c := 12) (v := (0, ((n : Nat) : Int))) rfl (hL.lt 43 rfl) (hL.k 43 rfl) rfl (fv f7) ?_
  refine E_cmp3 rfl (by omega) (fun q1 => ?_) (fun q1 => ?_)
  · refine E_const rfl ?_
    refine E_iret rfl (fun h => absurd h (by decide)) ?_
    exact ⟨by unfold hrV; first | (rw [if_neg (by omega)]) | (rw [if_pos (by omega)]), rfl⟩
  · refine E_load rfl rfl rfl ?_
    refine E_getr (c := 12) (r := 44) rfl (hL.lt 43 rfl) (hL.k 43 rfl) rfl hM.c1 ?_
    refine E_const rfl ?_
    refine E_load rfl rfl rfl ?_
    refine E_getf (c := 12) (v := (0, ((k : Nat) : Int))) rfl (hL.lt 43 rfl) (hL.k 43 rfl) rfl (fv f6) ?_
    refine E_add rfl ?_
    refine E_ialn (n := 943) (v := (g k)) rfl (hL.lt 44 rfl) (hL.k 44 rfl) (hL.l 44 rfl) (by omega) ((rdS hs (by omega)).trans (hT k (by omega))) ?_
    refine E_goto rfl ?_
    refine E_iret rfl (fun h => absurd h (by decide)) ?_
    exact ⟨by unfold hrV; first | (rw [if_neg (by omega)]) | (rw [if_pos (by omega)]), rfl⟩
set_option maxHeartbeats 4000000 in
set_option maxRecDepth 100000 in
theorem n_must {d : Nat} {h : Hp} {c : Nat → Nat → Int} {s g : Nat → Int} {act n k : Nat} {w o : Int} (hL : Lay h) (hR : RS c s act n k w o) (hE : Ends g n) (hT : TpR s g n) (hk : k ≤ n) {x : Int} (hx : 0 < x ∧ x ≤ 127) (hw : w = 0 ∨ w = 1) : Ok (d + 1) 151 [(1, ((43 : Nat) : Int)), (0, x)] (wC h c) (fun r h2 => r = none ∧ ∃ c2, h2 = wC h c2 ∧ RS c2 s act n (if w = 0 ∧ g k = x then k + 1 else k) (if w = 0 ∧ g k = x then 0 else 1) o ∧ Eqk PS c c2) := by
  show Ex _ none t_X11_must 0 0 _ [] (wC h c) _
  obtain ⟨hM, hs, f5, f6, f7, f8, f9⟩ := hR
  have hn := hE.1
  have hr := hrV_or hE k
  refine E_load rfl rfl rfl ?_
  refine E_load rfl rfl rfl ?_
  refine E_getf (c := 12) (v := (0, w)) rfl (hL.lt 43 rfl) (hL.k 43 rfl) rfl (fv f8) ?_
  refine E_if1 rfl (by omega) (fun q1 => ?_) (fun q1 => ?_)
  · refine E_const rfl ?_
    refine E_goto rfl ?_
    refine E_putzg (cl := 12) rfl (hL.lt 43 rfl) (hL.k 43 rfl) rfl (by decide) (fun c_1 hc_1 => ?_)
    have hE_1 : Eqk PS c c_1 := by rw [hc_1]; exact Eqk.up rfl
    have hM_1 : Mc c_1 := by rw [hc_1]; exact hM.up43 rfl
    have hs_1 : c_1 44 = s := by rw [hc_1]; exact (up2_oth rfl).trans hs
    have hf5_1 : c_1 43 5 = ((act : Nat) : Int) := by rw [hc_1]; exact (up2_fld rfl).trans f5
    have hf6_1 : c_1 43 6 = ((k : Nat) : Int) := by rw [hc_1]; exact (up2_fld rfl).trans f6
    have hf7_1 : c_1 43 7 = ((n : Nat) : Int) := by rw [hc_1]; exact (up2_fld rfl).trans f7
    have hf9_1 : c_1 43 9 = o := by rw [hc_1]; exact (up2_fld rfl).trans f9
    have hf8_1 : c_1 43 8 = 1 := by rw [hc_1]; exact up2_same
    refine E_load rfl rfl rfl ?_
    refine E_dup rfl rfl ?_
    refine E_getf (c := 12) (v := (0, ((k : Nat) : Int))) rfl (hL.lt 43 rfl) (hL.k 43 rfl) rfl (fv hf6_1) ?_
    refine E_load rfl rfl rfl ?_
    refine E_getf (c := 12) (v := (0, 1)) rfl (hL.lt 43 rfl) (hL.k 43 rfl) rfl (fv hf8_1) ?_
    refine E_if0 rfl (by omega) (fun q2 => ?_) (fun q2 => ?_)
    · exfalso; omega
    · refine E_const rfl ?_
      refine E_goto rfl ?_
      refine E_add rfl ?_
      refine E_putg (cl := 12) rfl (hL.lt 43 rfl) (hL.k 43 rfl) rfl (fun c_2 hc_2 => ?_)
      have hE_2 : Eqk PS c_1 c_2 := by rw [hc_2]; exact Eqk.up rfl
      have hM_2 : Mc c_2 := by rw [hc_2]; exact hM_1.up43 rfl
      have hs_2 : c_2 44 = s := by rw [hc_2]; exact (up2_oth rfl).trans hs_1
      have hf5_2 : c_2 43 5 = ((act : Nat) : Int) := by rw [hc_2]; exact (up2_fld rfl).trans hf5_1
      have hf7_2 : c_2 43 7 = ((n : Nat) : Int) := by rw [hc_2]; exact (up2_fld rfl).trans hf7_1
      have hf8_2 : c_2 43 8 = 1 := by rw [hc_2]; exact (up2_fld rfl).trans hf8_1
      have hf9_2 : c_2 43 9 = o := by rw [hc_2]; exact (up2_fld rfl).trans hf9_1
      have hf6_2 : c_2 43 6 = (((k : Nat) : Int) + 0) := by rw [hc_2]; exact up2_same
      refine E_vret rfl ?_
      refine ⟨rfl, c_2, rfl, ?_, (hE_1.trans hE_2)⟩
      first
        | (rw [if_pos (show w = 0 ∧ g k = x by omega), if_pos (show w = 0 ∧ g k = x by omega)]; exact ⟨hM_2, hs_2, hf5_2, hf6_2, hf7_2, hf8_2, hf9_2⟩)
        | (rw [if_neg (show ¬ (w = 0 ∧ g k = x) by omega), if_neg (show ¬ (w = 0 ∧ g k = x) by omega)]; exact ⟨hM_2, hs_2, hf5_2, hf6_2.trans (Int.add_zero _), hf7_2, hf8_2, hf9_2⟩)
  · refine E_load rfl rfl rfl ?_
    refine E_V0 (q := 43) (c := 12) (y := 150) rfl rfl (hL.lt 43 rfl) (hL.k 43 rfl) rfl rfl rfl rfl (n_here (k := k) hL ⟨hM, hs, f5, f6, f7, f8, f9⟩ hE hT (by omega)) (fun r h2 hq => ?_)
    obtain ⟨rfl, hh⟩ := hq
    subst hh
    refine E_load rfl rfl rfl ?_
    refine E_cmp0 rfl (by omega) (fun q3 => ?_) (fun q3 => ?_)
    · refine E_const rfl ?_
      refine E_putzg (cl := 12) rfl (hL.lt 43 rfl) (hL.k 43 rfl) rfl (by decide) (fun c_3 hc_3 => ?_)
      have hE_3 : Eqk PS c c_3 := by rw [hc_3]; exact Eqk.up rfl
      have hM_3 : Mc c_3 := by rw [hc_3]; exact hM.up43 rfl
      have hs_3 : c_3 44 = s := by rw [hc_3]; exact (up2_oth rfl).trans hs
      have hf5_3 : c_3 43 5 = ((act : Nat) : Int) := by rw [hc_3]; exact (up2_fld rfl).trans f5
      have hf6_3 : c_3 43 6 = ((k : Nat) : Int) := by rw [hc_3]; exact (up2_fld rfl).trans f6
      have hf7_3 : c_3 43 7 = ((n : Nat) : Int) := by rw [hc_3]; exact (up2_fld rfl).trans f7
      have hf9_3 : c_3 43 9 = o := by rw [hc_3]; exact (up2_fld rfl).trans f9
      have hf8_3 : c_3 43 8 = 0 := by rw [hc_3]; exact up2_same
      refine E_load rfl rfl rfl ?_
      refine E_dup rfl rfl ?_
      refine E_getf (c := 12) (v := (0, ((k : Nat) : Int))) rfl (hL.lt 43 rfl) (hL.k 43 rfl) rfl (fv hf6_3) ?_
      refine E_load rfl rfl rfl ?_
      refine E_getf (c := 12) (v := (0, 0)) rfl (hL.lt 43 rfl) (hL.k 43 rfl) rfl (fv hf8_3) ?_
      refine E_if0 rfl (by omega) (fun q4 => ?_) (fun q4 => ?_)
      · refine E_const rfl ?_
        refine E_add rfl ?_
        refine E_putg (cl := 12) rfl (hL.lt 43 rfl) (hL.k 43 rfl) rfl (fun c_4 hc_4 => ?_)
        have hE_4 : Eqk PS c_3 c_4 := by rw [hc_4]; exact Eqk.up rfl
        have hM_4 : Mc c_4 := by rw [hc_4]; exact hM_3.up43 rfl
        have hs_4 : c_4 44 = s := by rw [hc_4]; exact (up2_oth rfl).trans hs_3
        have hf5_4 : c_4 43 5 = ((act : Nat) : Int) := by rw [hc_4]; exact (up2_fld rfl).trans hf5_3
        have hf7_4 : c_4 43 7 = ((n : Nat) : Int) := by rw [hc_4]; exact (up2_fld rfl).trans hf7_3
        have hf8_4 : c_4 43 8 = 0 := by rw [hc_4]; exact (up2_fld rfl).trans hf8_3
        have hf9_4 : c_4 43 9 = o := by rw [hc_4]; exact (up2_fld rfl).trans hf9_3
        have hf6_4 : c_4 43 6 = (((k : Nat) : Int) + 1) := by rw [hc_4]; exact up2_same
        refine E_vret rfl ?_
        refine ⟨rfl, c_4, rfl, ?_, (hE_3.trans hE_4)⟩
        first
          | (rw [if_pos (show w = 0 ∧ g k = x by omega), if_pos (show w = 0 ∧ g k = x by omega)]; exact ⟨hM_4, hs_4, hf5_4, hf6_4, hf7_4, hf8_4, hf9_4⟩)
          | (rw [if_neg (show ¬ (w = 0 ∧ g k = x) by omega), if_neg (show ¬ (w = 0 ∧ g k = x) by omega)]; exact ⟨hM_4, hs_4, hf5_4, hf6_4.trans (Int.add_zero _), hf7_4, hf8_4, hf9_4⟩)
      · exfalso; omega
    · refine E_const rfl ?_
      refine E_goto rfl ?_
      refine E_putzg (cl := 12) rfl (hL.lt 43 rfl) (hL.k 43 rfl) rfl (by decide) (fun c_5 hc_5 => ?_)
      have hE_5 : Eqk PS c c_5 := by rw [hc_5]; exact Eqk.up rfl
      have hM_5 : Mc c_5 := by rw [hc_5]; exact hM.up43 rfl
      have hs_5 : c_5 44 = s := by rw [hc_5]; exact (up2_oth rfl).trans hs
      have hf5_5 : c_5 43 5 = ((act : Nat) : Int) := by rw [hc_5]; exact (up2_fld rfl).trans f5
      have hf6_5 : c_5 43 6 = ((k : Nat) : Int) := by rw [hc_5]; exact (up2_fld rfl).trans f6
      have hf7_5 : c_5 43 7 = ((n : Nat) : Int) := by rw [hc_5]; exact (up2_fld rfl).trans f7
      have hf9_5 : c_5 43 9 = o := by rw [hc_5]; exact (up2_fld rfl).trans f9
      have hf8_5 : c_5 43 8 = 1 := by rw [hc_5]; exact up2_same
      refine E_load rfl rfl rfl ?_
      refine E_dup rfl rfl ?_
      refine E_getf (c := 12) (v := (0, ((k : Nat) : Int))) rfl (hL.lt 43 rfl) (hL.k 43 rfl) rfl (fv hf6_5) ?_
      refine E_load rfl rfl rfl ?_
      refine E_getf (c := 12) (v := (0, 1)) rfl (hL.lt 43 rfl) (hL.k 43 rfl) rfl (fv hf8_5) ?_
      refine E_if0 rfl (by omega) (fun q5 => ?_) (fun q5 => ?_)
      · exfalso; omega
      · refine E_const rfl ?_
        refine E_goto rfl ?_
        refine E_add rfl ?_
        refine E_putg (cl := 12) rfl (hL.lt 43 rfl) (hL.k 43 rfl) rfl (fun c_6 hc_6 => ?_)
        have hE_6 : Eqk PS c_5 c_6 := by rw [hc_6]; exact Eqk.up rfl
        have hM_6 : Mc c_6 := by rw [hc_6]; exact hM_5.up43 rfl
        have hs_6 : c_6 44 = s := by rw [hc_6]; exact (up2_oth rfl).trans hs_5
        have hf5_6 : c_6 43 5 = ((act : Nat) : Int) := by rw [hc_6]; exact (up2_fld rfl).trans hf5_5
        have hf7_6 : c_6 43 7 = ((n : Nat) : Int) := by rw [hc_6]; exact (up2_fld rfl).trans hf7_5
        have hf8_6 : c_6 43 8 = 1 := by rw [hc_6]; exact (up2_fld rfl).trans hf8_5
        have hf9_6 : c_6 43 9 = o := by rw [hc_6]; exact (up2_fld rfl).trans hf9_5
        have hf6_6 : c_6 43 6 = (((k : Nat) : Int) + 0) := by rw [hc_6]; exact up2_same
        refine E_vret rfl ?_
        refine ⟨rfl, c_6, rfl, ?_, (hE_5.trans hE_6)⟩
        first
          | (rw [if_pos (show w = 0 ∧ g k = x by omega), if_pos (show w = 0 ∧ g k = x by omega)]; exact ⟨hM_6, hs_6, hf5_6, hf6_6, hf7_6, hf8_6, hf9_6⟩)
          | (rw [if_neg (show ¬ (w = 0 ∧ g k = x) by omega), if_neg (show ¬ (w = 0 ∧ g k = x) by omega)]; exact ⟨hM_6, hs_6, hf5_6, hf6_6.trans (Int.add_zero _), hf7_6, hf8_6, hf9_6⟩)
