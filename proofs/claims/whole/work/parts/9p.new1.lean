/-! NEW CELLS -/
def nwH (h : Hp) (kd ln : Nat) : Hp := (mN h + 1, mS h + ln, fun b => if b = mN h then kd else mK h b, fun b => if b = mN h then ln else mL h b, fun _ _ => 0)
def nwC (c : Nat → Nat → Int) (N : Nat) (v : Nat → Int) : Nat → Nat → Int := fun b j => if b = N then v j else c b j
def Hx (h h' : Hp) : Prop := mN h ≤ mN h' ∧ ∀ a, a < mN h → mK h' a = mK h a ∧ mL h' a = mL h a
theorem Hx.refl {h : Hp} : Hx h h := ⟨Nat.le_refl _, fun _ _ => ⟨rfl, rfl⟩⟩
theorem Hx.trans {h h1 h2 : Hp} (a : Hx h h1) (b : Hx h1 h2) : Hx h h2 := ⟨Nat.le_trans a.1 b.1, fun x hx => ⟨((b.2 x (Nat.lt_of_lt_of_le hx a.1)).1).trans (a.2 x hx).1, ((b.2 x (Nat.lt_of_lt_of_le hx a.1)).2).trans (a.2 x hx).2⟩⟩
theorem Hx.nw {h : Hp} {kd ln : Nat} : Hx h (nwH h kd ln) := ⟨Nat.le_succ _, fun x hx => ⟨if_neg (by omega), if_neg (by omega)⟩⟩
theorem nwK {h : Hp} {kd ln : Nat} : mK (nwH h kd ln) (mN h) = kd := if_pos rfl
theorem nwL {h : Hp} {kd ln : Nat} : mL (nwH h kd ln) (mN h) = ln := if_pos rfl
theorem nwN {h : Hp} {kd ln : Nat} : mN (nwH h kd ln) = mN h + 1 := rfl
theorem nwS {h : Hp} {kd ln : Nat} : mS (nwH h kd ln) = mS h + ln := rfl
theorem nwC_n {c : Nat → Nat → Int} {N : Nat} {v : Nat → Int} : nwC c N v N = v := funext fun j => if_pos rfl
theorem nwC_o {c : Nat → Nat → Int} {N a : Nat} {v : Nat → Int} (h : a ≠ N) : nwC c N v a = c a := funext fun j => if_neg h
theorem Lay.x {h h' : Hp} (hL : Lay h) (hx : Hx h h') : Lay h' := ⟨Nat.le_trans hL.1 hx.1, fun a ha => by
  have := hL.1
  have e := hx.2 a (by omega)
  rw [e.1, e.2]
  exact hL.2 a ha⟩
theorem La.x {h h' : Hp} {c : Nat → Nat → Int} {q : Nat} (h1 : La h c q) (hx : Hx h h') : La h' c q := by
  obtain ⟨a1, a2, a3, a4, a5⟩ := h1
  have e1 := hx.2 q (by omega)
  have e2 := hx.2 (q + 1) a1
  have := hx.1
  exact ⟨by omega, e1.1.trans a2, e2.1.trans a3, e2.2.trans a4, a5⟩
theorem Bot.x {h h' : Hp} {c : Nat → Nat → Int} {p b : Nat} {kind : Int} (hB : Bot h c p b kind) (hx : Hx h h') : Bot h' c p b kind := by
  have e := hx.2 p (by have := hB.1.1; omega)
  have := hx.1
  exact ⟨⟨by have := hB.1.1; omega, e.1.trans hB.1.2⟩, hB.2.1, hB.2.2.1.x hx, hB.2.2.2.1.x hx, hB.2.2.2.2.x hx⟩
section EN
variable {d : Nat} {sc : Option (Nat × (Nat → Int))} {tb : List ME} {rk pc nx : Nat} {a b : Int} {l : List (Int × Int)} {lv st : List AV} {h : Hp} {c : Nat → Nat → Int} {Q : Option AV → Hp → Prop}
theorem E_newg (hat : mAt tb pc = some (nx, 25, a, b, l)) (ha : Nat.blt a.toNat 13 = true) (k : Ex d sc tb rk nx lv ((1, (mN h : Int)) :: st) (wC (nwH h a.toNat (mFt a.toNat).length) (nwC c (mN h) (mDef a.toNat))) Q) : Ex d sc tb rk pc lv st (wC h c) Q := E_new (h := wC h c) hat ha k
theorem E_newag {n : Int} {m : Nat} (hat : mAt tb pc = some (nx, 26, a, b, l)) (ha : a = 20 ∨ a = 21) (hn : n = (m : Int)) (h0 : m < 100000) (k : Ex d sc tb rk nx lv ((1, (mN h : Int)) :: st) (wC (nwH h a.toNat m) (nwC c (mN h) (fun _ => 0))) Q) : Ex d sc tb rk pc lv ((0, n) :: st) (wC h c) Q := by
  subst hn
  exact E_newa (h := wC h c) hat ha ⟨by omega, by omega⟩ k
theorem E_newqg {n : Int} {m : Nat} (hat : mAt tb pc = some (nx, 27, a, b, l)) (hn : n = (m : Int)) (h0 : m < 100000) (k : Ex d sc tb rk nx lv ((1, (mN h : Int)) :: st) (wC (nwH h 22 m) (nwC c (mN h) (fun _ => -1))) Q) : Ex d sc tb rk pc lv ((0, n) :: st) (wC h c) Q := by
  subst hn
  exact E_newq (h := wC h c) hat ⟨by omega, by omega⟩ k
theorem E_putB {q t : Nat} {x : Int} (hat : mAt tb pc = some (nx, 17, a, 1, l)) (hq : q < mN h) (hk : IsB (mK h q)) (hc : (Nat.blt a.toNat 6 && t == (if Nat.blt a.toNat 2 then 0 else 1)) = true) (k : ∀ c2, c2 = up2 c q a.toNat x → Ex d sc tb rk nx lv st (wC h c2) Q) : Ex d sc tb rk pc lv ((t, x) :: (1, (q : Int)) :: st) (wC h c) Q := by
  obtain ⟨f1, f2, f3⟩ := hk.ft
  simp only [Bool.and_eq_true] at hc
  have h6 : a.toNat < 6 := Nat.le_of_ble_eq_true hc.1
  have ht : t = (if Nat.blt a.toNat 2 then 0 else 1) := by simpa using hc.2
  subst ht
  have hkw : mK (wC h c) q = mK h q := rfl
  have g1 : (if Nat.blt a.toNat 2 then 0 else 1) = mTag ((mFt (mK h q)).getD a.toNat 0) := by
    rw [f1]
    rcases (show a.toNat = 0 ∨ a.toNat = 1 ∨ a.toNat = 2 ∨ a.toNat = 3 ∨ a.toNat = 4 ∨ a.toNat = 5 by omega) with e | e | e | e | e | e <;> rw [e] <;> rfl
  have g2 : (mFt (mK h q)).getD a.toNat 0 = 3 → x = 0 ∨ x = 1 := by
    rw [f1]
    intro h3
    exfalso
    rcases (show a.toNat = 0 ∨ a.toNat = 1 ∨ a.toNat = 2 ∨ a.toNat = 3 ∨ a.toNat = 4 ∨ a.toNat = 5 by omega) with e | e | e | e | e | e <;> rw [e] at h3 <;> exact absurd h3 (by decide)
  have e0 : mStep sc 17 a 1 l nx lv (((if Nat.blt a.toNat 2 then 0 else 1), x) :: (1, (q : Int)) :: st) (wC h c) = some (nx, lv, st, mPut (wC h c) q a.toNat x) := by
    simp only [mStep, mAd_of (show q < mN (wC h c) from hq), hkw]
    exact if_pos ⟨f3, f2, by rw [f1]; exact h6, g1, g2⟩
  exact Ex.step hat rfl e0 (k _ rfl)
end EN
set_option maxHeartbeats 4000000 in
set_option maxRecDepth 100000 in
theorem c_laidI {d : Nat} {h : Hp} {c : Nat → Nat → Int} {q : Nat} (hq : q < mN h) (hk : mK h q = 6) : Ok (d + 1) 50 [(1, ((q : Nat) : Int))] (wC h c) (fun r h2 => r = none ∧ h2 = wC (nwH h 20 4) (up2 (nwC c (mN h) (fun _ => 0)) q 0 (mN h : Int))) := by
  show Ex _ none t_X5_init 0 0 _ [] (wC h c) _
  refine E_load rfl rfl rfl ?_
  refine E_obj rfl hq rfl ?_
  refine E_load rfl rfl rfl ?_
  refine E_const rfl ?_
  refine E_newag (m := 4) rfl (Or.inl rfl) rfl (by decide) ?_
  refine E_putg (cl := 6) (q := q) rfl (Nat.lt_succ_of_lt hq) (((Hx.nw.2 q hq).1).trans hk) rfl (fun c_1 hc_1 => ?_)
  refine E_vret rfl ?_
  exact ⟨rfl, by rw [hc_1]; rfl⟩
theorem E_newLaid {d : Nat} {sc : Option (Nat × (Nat → Int))} {tb : List ME} {rk pc p1 p2 p3 : Nat} {a2 b1 b2 : Int} {l1 l2 l3 : List (Int × Int)} {lv st : List AV} {h : Hp} {c : Nat → Nat → Int} {Q : Option AV → Hp → Prop} (h1 : mAt tb pc = some (p1, 25, 6, b1, l1)) (h2 : mAt tb p1 = some (p2, 11, a2, b2, l2)) (h3 : mAt tb p2 = some (p3, 51, 6, 0, l3)) (hc : Nat.ble (mCats ((1, (mN h : Int)) :: st)) 8 = true)
    (k : ∀ h' c', Hx h h' → mN h' = mN h + 2 → mS h' = mS h + 10 → La h' c' (mN h) → LV c' (mN h) 0 0 0 0 0 (fun _ => 0) → (∀ a, a < mN h → c' a = c a) → Ex (d + 2) sc tb rk p3 lv ((1, (mN h : Int)) :: st) (wC h' c') Q) : Ex (d + 2) sc tb rk pc lv st (wC h c) Q := by
  refine E_newg h1 rfl ?_
  refine E_dup h2 rfl ?_
  have hx1 : Hx h (nwH h 6 6) := Hx.nw
  show Ex (d + 2) sc tb rk p2 lv ((1, (mN h : Int)) :: (1, (mN h : Int)) :: st) (wC (nwH h 6 6) (nwC c (mN h) (mDef 6))) Q
  refine E_V0 (q := mN h) (c := 6) (y := 50) h3 rfl (show mN h < mN h + 1 from Nat.lt_succ_self _) (nwK (h := h) (kd := 6) (ln := 6)) rfl rfl hc rfl (c_laidI (h := nwH h 6 6) (show mN h < mN h + 1 from Nat.lt_succ_self _) (nwK (h := h) (kd := 6) (ln := 6))) (fun r h2 hq => ?_)
  obtain ⟨rfl, hh⟩ := hq
  subst hh
  have e0 : ∀ j, (nwC (nwC c (mN h) (mDef 6)) (mN (nwH h 6 6)) (fun _ => 0)) (mN h) j = mDef 6 j := fun j => by
    rw [nwC_o (show mN h ≠ mN (nwH h 6 6) from Nat.ne_of_lt (Nat.lt_succ_self _)), nwC_n]
  refine k _ _ (hx1.trans Hx.nw) rfl rfl ⟨?_, ?_, ?_, ?_, ?_⟩ ⟨⟨?_, ?_, ?_, ?_, ?_⟩, fun j hj => ?_⟩ (fun a ha => ?_)
  · show mN h + 1 < mN h + 1 + 1; omega
  · exact ((Hx.nw.2 (mN h) (Nat.lt_succ_self _)).1).trans nwK
  · exact nwK (h := nwH h 6 6)
  · exact nwL (h := nwH h 6 6)
  · exact up2_same
  · exact (up2_fldN (by omega)).trans (e0 1)
  · exact (up2_fldN (by omega)).trans (e0 2)
  · exact (up2_fldN (by omega)).trans (e0 3)
  · exact (up2_fldN (by omega)).trans (e0 4)
  · exact (up2_fldN (by omega)).trans (e0 5)
  · refine (up2_fldN (by omega)).trans ?_
    rw [show mN h + 1 = mN (nwH h 6 6) from rfl, nwC_n]
  · rw [up2_othN (by omega), nwC_o (by show a ≠ mN h + 1; omega), nwC_o (by omega)]
