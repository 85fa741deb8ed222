/-! THE START: both constructors -/
def LayN (n : Nat) (h : Hp) : Prop := mN h = n ∧ ∀ a, a < n → mK h a = K0.getD a 0 ∧ mL h a = L0.getD a 0
theorem LayN.nw {n : Nat} {h : Hp} {kd ln : Nat} (hL : LayN n h) (hk : K0.getD n 0 = kd) (hl : L0.getD n 0 = ln) : LayN (n + 1) (nwH h kd ln) := by
  obtain ⟨h1, h2⟩ := hL
  refine ⟨by rw [nwN, h1], fun a ha => ?_⟩
  by_cases e : a = n
  · subst e
    rw [hk, hl]
    refine ⟨?_, ?_⟩
    · show (if a = mN h then kd else mK h a) = kd
      rw [if_pos h1.symm]
    · show (if a = mN h then ln else mL h a) = ln
      rw [if_pos h1.symm]
  · have := h2 a (by omega)
    refine ⟨?_, ?_⟩
    · show (if a = mN h then kd else mK h a) = _
      rw [if_neg (by omega)]; exact this.1
    · show (if a = mN h then ln else mL h a) = _
      rw [if_neg (by omega)]; exact this.2
set_option maxHeartbeats 4000000 in
set_option maxRecDepth 100000 in
theorem c_shelfI {d : Nat} {h : Hp} {c : Nat → Nat → Int} {q w m M : Nat} (hq : q < mN h) (hk : mK h q = 8) (hM : w * m = M) (hM2 : M < 100000) : Ok (d + 1) 58 [(1, ((q : Nat) : Int)), (0, (w : Int)), (0, (m : Int))] (wC h c) (fun r h2 => r = none ∧ ∃ c', h2 = wC (nwH (nwH h 20 M) 20 M) c' ∧ (c' q 0 = (w : Int) ∧ c' q 1 = (mN h : Int) ∧ c' q 2 = ((mN h + 1 : Nat) : Int)) ∧ (∀ k, 3 ≤ k → c' q k = c q k) ∧ ∀ a, a < mN h → a ≠ q → c' a = c a) := by
  show Ex _ none t_X7_init 0 0 _ [] (wC h c) _
  have hp : (w : Int) * (m : Int) = (M : Int) := by rw [← hM, Int.natCast_mul]
  refine E_load rfl rfl rfl ?_
  refine E_obj rfl hq rfl ?_
  refine E_load rfl rfl rfl ?_
  refine E_load rfl rfl rfl ?_
  refine E_putg (cl := 8) (q := q) rfl hq hk rfl (fun c_1 hc_1 => ?_)
  refine E_load rfl rfl rfl ?_
  refine E_const rfl ?_
  refine E_load rfl rfl rfl ?_
  refine E_load rfl rfl rfl ?_
  refine E_mul rfl ?_
  refine E_max rfl (by omega) rfl ?_
  refine E_newag (m := M) rfl (Or.inl rfl) (by rw [hp]; split <;> omega) hM2 ?_
  have hx1 : Hx h (nwH h 20 M) := Hx.nw
  have hq1 : q < mN (nwH h 20 M) := Nat.lt_of_lt_of_le hq hx1.1
  have hk1 : mK (nwH h 20 M) q = 8 := (hx1.2 q hq).1.trans hk
  refine E_putg (h := nwH h 20 M) (cl := 8) (q := q) rfl hq1 hk1 rfl (fun c_2 hc_2 => ?_)
  have g1 : c_2 q 1 = (mN h : Int) := by rw [hc_2]; exact up2_same
  refine E_load rfl rfl rfl ?_
  refine E_load rfl rfl rfl ?_
  refine E_getr (h := wC (nwH h 20 M) c_2) (c := 8) (r := mN h) rfl hq1 hk1 rfl g1 ?_
  refine E_len (h := wC (nwH h 20 M) c_2) (n := M) rfl (show mN h < mN h + 1 from Nat.lt_succ_self _) (by rw [show mK (wC (nwH h 20 M) c_2) (mN h) = 20 from nwK (h := h) (kd := 20) (ln := M)]; omega) (nwL (h := h) (kd := 20) (ln := M)) ?_
  refine E_newag (h := nwH h 20 M) (m := M) rfl (Or.inl rfl) rfl hM2 ?_
  have hx2 : Hx (nwH h 20 M) (nwH (nwH h 20 M) 20 M) := Hx.nw
  refine E_putg (h := nwH (nwH h 20 M) 20 M) (cl := 8) (q := q) rfl (Nat.lt_of_lt_of_le hq1 hx2.1) ((hx2.2 q hq1).1.trans hk1) rfl (fun c_3 hc_3 => ?_)
  refine E_vret rfl ?_
  have e1 : ∀ a k, a < mN h → (a ≠ q ∨ (k ≠ 0 ∧ k ≠ 1 ∧ k ≠ 2)) → c_3 a k = c a k := fun a k ha hk => by
    rw [hc_3, up2_fldN (by omega), nwC_o (show a ≠ mN (nwH h 20 M) by rw [nwN]; omega), hc_2, up2_fldN (by omega), nwC_o (by omega), hc_1]
    exact up2_fldN (by omega)
  refine ⟨rfl, c_3, rfl, ⟨?_, ?_, ?_⟩, fun k hk => e1 q k hq (by omega), fun a ha hne => funext fun k => e1 a k ha (Or.inl hne)⟩
  · rw [hc_3, up2_fldN (by omega), nwC_o (show q ≠ mN (nwH h 20 M) by rw [nwN]; omega), hc_2, up2_fldN (by omega), nwC_o (by omega), hc_1]
    exact up2_same
  · rw [hc_3, up2_fldN (by omega), nwC_o (show q ≠ mN (nwH h 20 M) by rw [nwN]; omega)]
    exact g1
  · rw [hc_3]
    exact up2_same
theorem E_newShelf {d : Nat} {sc : Option (Nat × (Nat → Int))} {tb : List ME} {rk pc p1 p2 p3 p4 p5 site : Nat} {a2 b1 b2 b3 b4 : Int} {l1 l2 l3 l4 l5 : List (Int × Int)} {lv st : List AV} {h : Hp} {c : Nat → Nat → Int} {Q : Option AV → Hp → Prop} {n w m M : Nat} {w' m' : Int} (h1 : mAt tb pc = some (p1, 25, 8, b1, l1)) (h2 : mAt tb p1 = some (p2, 11, a2, b2, l2)) (h3 : mAt tb p2 = some (p3, 0, w', b3, l3)) (h4 : mAt tb p3 = some (p4, 0, m', b4, l4)) (h5 : mAt tb p4 = some (p5, 51, (site : Int), 2, l5)) (hv : (vt site).lookup 8 = some 58) (hw : w' = (w : Int)) (hm : m' = (m : Int)) (hc : Nat.ble (mCats ((1, (mN h : Int)) :: st)) 8 = true) (hN : LayN n h) (hM : w * m = M) (hM2 : M < 100000) (k1 : K0.getD n 0 = 8 ∧ L0.getD n 0 = 5) (k2 : K0.getD (n + 1) 0 = 20 ∧ L0.getD (n + 1) 0 = M) (k3 : K0.getD (n + 2) 0 = 20 ∧ L0.getD (n + 2) 0 = M)
    (k : ∀ h' c', LayN (n + 3) h' → mS h' = mS h + 5 + M + M → (c' n 0 = (w : Int) ∧ c' n 1 = ((n + 1 : Nat) : Int) ∧ c' n 2 = ((n + 2 : Nat) : Int) ∧ c' n 3 = 0 ∧ c' n 4 = 0) → (∀ a, a < n → c' a = c a) → Ex (d + 2) sc tb rk p5 lv ((1, (n : Int)) :: st) (wC h' c') Q) : Ex (d + 2) sc tb rk pc lv st (wC h c) Q := by
  subst hw hm
  have hn := hN.1
  refine E_newg h1 rfl ?_
  refine E_dup h2 rfl ?_
  refine E_const h3 ?_
  refine E_const h4 ?_
  show Ex (d + 2) sc tb rk p4 lv ((0, (m : Int)) :: (0, (w : Int)) :: (1, (mN h : Int)) :: (1, (mN h : Int)) :: st) (wC (nwH h 8 5) (nwC c (mN h) (mDef 8))) Q
  refine E_V2 (q := mN h) (c := 8) (y := 58) h5 rfl (show mN h < mN h + 1 from Nat.lt_succ_self _) (nwK (h := h) (kd := 8) (ln := 5)) (by rw [Int.toNat_natCast]; exact hv) rfl hc rfl (c_shelfI (h := nwH h 8 5) (show mN h < mN h + 1 from Nat.lt_succ_self _) (nwK (h := h) (kd := 8) (ln := 5)) hM hM2) (fun r h2 hq => ?_)
  obtain ⟨rfl, c', hh, ⟨f0, f1, f2⟩, f3, f4⟩ := hq
  subst hh
  have e1 : mN (nwH h 8 5) = n + 1 := by rw [nwN, hn]
  rw [e1] at f1 f2 f4
  rw [hn] at f0 f1 f2 f3 f4 ⊢
  refine k _ c' ((hN.nw k1.1 k1.2).nw k2.1 k2.2 |>.nw k3.1 k3.2) (by rw [nwS, nwS, nwS]) ⟨f0, f1, f2, ?_, ?_⟩ fun a ha => ?_
  · rw [f3 3 (by omega), nwC_n]; rfl
  · rw [f3 4 (by omega), nwC_n]; rfl
  · rw [f4 a (by omega) (by omega), nwC_o (by omega)]
