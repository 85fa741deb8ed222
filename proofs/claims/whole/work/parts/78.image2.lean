theorem SerP_of {f g : Nat → Int} : ∀ (l : List PRT) (j : Nat), (∀ k, k < 3 * (j + l.length) → g k = f k) → SerP f j l → SerP g j l
  | [], _, _, _ => True.intro
  | p :: r, j, e, hs => by
    have e2 : ∀ k, k < 3 * (j + (r.length + 1)) → g k = f k := e
    exact ⟨⟨(e2 _ (by omega)).trans hs.1.1, (e2 _ (by omega)).trans hs.1.2.1, (e2 _ (by omega)).trans hs.1.2.2⟩, SerP_of r (j + 1) (fun k hk => e2 k (by omega)) hs.2⟩
theorem SerC_of {f g : Nat → Int} : ∀ (l : List CLA) (i n : Nat), (∀ k, k < 3 * (i + l.length) → g k = f k) → SerC f i n l → SerC g i n l
  | [], _, _, _, _ => True.intro
  | p :: r, j, n, e, hs => by
    have e2 : ∀ k, k < 3 * (j + (r.length + 1)) → g k = f k := e
    exact ⟨⟨(e2 _ (by omega)).trans hs.1.1, (e2 _ (by omega)).trans hs.1.2.1, (e2 _ (by omega)).trans hs.1.2.2⟩, SerC_of r (j + 1) _ (fun k hk => e2 k (by omega)) hs.2⟩
theorem HoldC.of {nc np nc2 np2 : Int} {cl pa cl2 pa2 : Nat → Int} {l : List CLA} (hh : HoldC nc cl np pa l) (e1 : nc2 = nc) (e2 : np2 = np) (e3 : ∀ j, j < 30 → cl2 j = cl j) (e4 : ∀ j, j < 300 → pa2 j = pa j) : HoldC nc2 cl2 np2 pa2 l := by
  obtain ⟨h1, h2, h3, h4, h5, h6⟩ := hh
  exact ⟨e1.trans h1, e2.trans h2, SerC_of l 0 0 (fun k hk => e3 k (by omega)) h3, SerP_of _ 0 (fun k hk => e4 k (by omega)) h4, h5, h6⟩
set_option maxHeartbeats 4000000 in
set_option maxRecDepth 100000 in
theorem c_hkeep {d : Nat} {h : Hp} {c : Nat → Nat → Int} {B : Nat → Nat} {s im : Nat → Int} {hi : Int} {L : List Int} (hL : Lay h) (hR : RepC h c B s im hi L) : Ok (d + 2) 21 [(1, ((28 : Nat) : Int))] (wC h c) (fun r h2 => r = none ∧ ∃ c2, h2 = wC h c2 ∧ HeldR (c2 29 4) (c2 31) (c2 32 4) (c2 34) s ∧ EqP (fun a k => a = 31 ∨ a = 34 ∨ (k = 4 ∧ (a = 29 ∨ a = 32))) c c2) := by
  show Ex _ none t_X1_keep 0 0 _ [] (wC h c) _
  refine E_load rfl rfl rfl ?_
  refine E_getr (c := 2) (r := 29) rfl (hL.lt 28 rfl) (hL.k 28 rfl) rfl (hR.C.g 28 1 29 (by decide)) ?_
  refine E_V0 (q := 29) (c := 8) (y := 64) rfl rfl (hL.lt 29 rfl) (hL.k 29 rfl) rfl rfl rfl rfl (s_keep (sh29 hL hR.C) (by decide) (by decide)) (fun r h2 hq => ?_)
  obtain ⟨rfl, c_1, hh, k1, k2, e1⟩ := hq
  subst hh
  have hR1 := hR.kp (kp0_B e1 (fun a k e => by unfold kp0; omega))
  refine E_load rfl rfl rfl ?_
  refine E_getr (c := 2) (r := 32) rfl (hL.lt 28 rfl) (hL.k 28 rfl) rfl (hR1.C.g 28 2 32 (by decide)) ?_
  refine E_V0 (q := 32) (c := 8) (y := 64) rfl rfl (hL.lt 32 rfl) (hL.k 32 rfl) rfl rfl rfl rfl (s_keep (sh32 hL hR1.C) (by decide) (by decide)) (fun r h2 hq => ?_)
  obtain ⟨rfl, c_2, hh, k3, k4, e2⟩ := hq
  subst hh
  refine E_vret rfl ?_
  obtain ⟨l, l1, l2⟩ := hR.held
  exact ⟨rfl, c_2, rfl, ⟨l, l1.of ((e2 29 4 (by omega)).trans k1) (k3.trans (e1 32 3 (by omega))) (fun j hj => (e2 31 j (by omega)).trans (k2 j hj)) (fun j hj => (k4 j hj).trans (e1 33 j (by omega))), l2⟩, fun a k hk => (e2 a k (by omega)).trans (e1 a k (by omega))⟩
