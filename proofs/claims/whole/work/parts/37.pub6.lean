theorem alB_le {p : Nat → Bool} {i n : Nat} (h : alB p i = false) (hin : i ≤ n) : alB p n = false := by
  induction hin with
  | refl => exact h
  | step _ ih => rw [alB, ih]; rfl
theorem alB_s {p : Nat → Bool} {i : Nat} (h : alB p i = true) : alB p (i + 1) = p i := by rw [alB, h]; rfl
theorem isq_t {s : Nat → Int} {n : Int} {k : Nat} (h : s (83 + k) ≠ n ∨ syS s (s (73 + k)).toNat = s (78 + k)) : isq s n k = true := decide_eq_true h
theorem isq_f {s : Nat → Int} {n : Int} {k : Nat} (h1 : s (83 + k) = n) (h : syS s (s (73 + k)).toNat ≠ s (78 + k)) : isq s n k = false := decide_eq_false (by rintro (h2 | h2); exact h2 h1; exact h h2)
def InvS (s : Nat → Int) : Prop := ∀ k : Nat, (k : Int) < s 31 → (0 ≤ s (73 + k) ∧ s (73 + k) < s 29) ∧ (-999 ≤ s (78 + k) ∧ s (78 + k) ≤ 999) ∧ (0 ≤ s (83 + k) ∧ s (83 + k) ≤ 20)
theorem InvS.ofE {s t : Nat → Int} (h : InvS s) (e : ∀ k, 29 ≤ k → k < 37 ∨ 73 ≤ k → t k = s k) : InvS t := fun k hk => by
  rw [e 31 (by omega) (by omega)] at hk
  rw [e 29 (by omega) (by omega), e (73 + k) (by omega) (by omega), e (78 + k) (by omega) (by omega), e (83 + k) (by omega) (by omega)]
  exact h k hk
theorem InvG.v {s : Nat → Int} (h : InvG s) {b : Nat} (hb : b < 6) {x : Int} (hx : 0 ≤ x ∧ x ≤ 9) : InvG (upd1 s (43 + b) x) := by
  obtain ⟨hI, hH, hN, hM⟩ := h
  have e : ∀ k, k ≠ 43 + b → upd1 s (43 + b) x k = s k := fun k hk => upd1_ne hk
  refine ⟨fun b2 hb2 => ?_, ?_, ?_, fun k hk => ?_⟩
  · obtain ⟨i1, i2, i3, i4, i5, i6, i7⟩ := hI b2 hb2
    rw [e (1 + b2) (by omega), e (7 + b2) (by omega), e (13 + b2) (by omega), e (19 + b2) (by omega), e (37 + b2) (by omega)]
    refine ⟨i1, i2, i3, i4, i5, ?_, fun k hk => ?_⟩
    · unfold upd1; split <;> omega
    · rw [e _ (by omega)]; exact i7 k hk
  · have e35 := e 35 (by omega)
    rcases hH with h | ⟨h1, h2, h3, h4, h5⟩
    · exact Or.inl (by omega)
    · have eS : stL (upd1 s (43 + b) x) = stL s := by
        unfold stL
        rw [e35, if_neg (by omega), if_neg (by omega), e (238 + s 35).toNat (by omega)]
        congr 1
        funext i
        exact e _ (by omega)
      refine Or.inr ⟨by omega, ?_, ?_, ?_, ?_⟩
      · rw [e35, e _ (by omega)]; exact h2
      · rw [e35, e _ (by omega)]; exact h3
      · rw [e35, e _ (by omega)]; exact h4
      · rw [eS]; exact h5
  · rw [e 29 (by omega), e 30 (by omega), e 31 (by omega), e 32 (by omega), e 33 (by omega), e 34 (by omega), e 36 (by omega)]; exact hN
  · rw [e _ (by omega)]; exact hM k hk
set_option maxHeartbeats 4000000 in
set_option maxRecDepth 100000 in
theorem l_isSeen {d : Nat} {h : Hp} {s : Nat → Int} (hL : Lay h) (hGG : InvG s) (hS : InvS s) {m : Nat} (hm : m < 1000) : ∀ (n i : Nat), i + n = (s 31).toNat → ∀ (a : Int), a = bB (alB (isq s m) i) → ∀ c, Mc c → c 44 = s → Ex (d + 4) none t_X11_isAsSeen 3 4 [(1, ((43 : Nat) : Int)), (0, (m : Int)), (0, a), (0, (i : Int))] [] (wC h c) (fun r h2 => r = some (0, bB (isqA s m)) ∧ ∃ c2, h2 = wC h c2 ∧ Eqk P47 c c2) := by
  intro n
  induction n with
  | zero =>
    intro i hi a ha c hM hs 
    have hG := hGG
    obtain ⟨hI, hH, ⟨n29, n30, n31, n32, n33, n34, n36⟩, nM⟩ := hGG
    have har : inR a := by rw [ha]; exact bB_R _
    refine E_load rfl rfl rfl ?_
    refine E_load rfl rfl rfl ?_
    refine E_getr (c := 12) (r := 44) rfl (hL.lt 43 rfl) (hL.k 43 rfl) rfl hM.c1 ?_
    refine E_const rfl ?_
    refine E_ialn (n := 943) (v := (s 31)) rfl (hL.lt 44 rfl) (hL.k 44 rfl) (hL.l 44 rfl) (by omega) (rdS hs (by omega)) ?_
    refine E_cmp3 rfl (by omega) (fun q1 => ?_) (fun q1 => ?_)
    · refine E_load rfl rfl rfl ?_
      refine E_iret rfl (fun _ => by rw [ha]; exact bB_01 _) ?_
      exact ⟨by rw [ha]; unfold isqA; rw [show i = (s 31).toNat by omega], c, rfl, Eqk.nil⟩
    · exfalso; omega
  | succ n ih =>
    intro i hi a ha c hM hs 
    have hG := hGG
    obtain ⟨hI, hH, ⟨n29, n30, n31, n32, n33, n34, n36⟩, nM⟩ := hGG
    have har : inR a := by rw [ha]; exact bB_R _
    refine E_load rfl rfl rfl ?_
    refine E_load rfl rfl rfl ?_
    refine E_getr (c := 12) (r := 44) rfl (hL.lt 43 rfl) (hL.k 43 rfl) rfl hM.c1 ?_
    refine E_const rfl ?_
    refine E_ialn (n := 943) (v := (s 31)) rfl (hL.lt 44 rfl) (hL.k 44 rfl) (hL.l 44 rfl) (by omega) (rdS hs (by omega)) ?_
    refine E_cmp3 rfl (by omega) (fun q1 => ?_) (fun q1 => ?_)
    · exfalso; omega
    · refine E_load rfl rfl rfl ?_
      refine E_if0 rfl (by omega) (fun q2 => ?_) (fun q2 => ?_)
      · refine E_load rfl rfl rfl ?_
        refine E_iret rfl (fun _ => by rw [ha]; exact bB_01 _) ?_
        exact ⟨by rw [q2]; unfold isqA; rw [alB_le (bB_z (by omega)) (show i ≤ (s 31).toNat by omega)]; rfl, c, rfl, Eqk.nil⟩
      · obtain ⟨x1, x2, x3⟩ := hS i (by omega)
        obtain ⟨b, hb⟩ := Int.eq_ofNat_of_zero_le x1.1
        have hy := hG.bs (b := b) (by omega)
        have hbn : (s (73 + i)).toNat = b := by omega
        refine E_load rfl rfl rfl ?_
        refine E_getr (c := 12) (r := 44) rfl (hL.lt 43 rfl) (hL.k 43 rfl) rfl hM.c1 ?_
        refine E_const rfl ?_
        refine E_load rfl rfl rfl ?_
        refine E_add rfl ?_
        refine E_ialn (n := 943) (v := (s ((83 + i)))) rfl (hL.lt 44 rfl) (hL.k 44 rfl) (hL.l 44 rfl) (by omega) (rdS hs (by omega)) ?_
        refine E_load rfl rfl rfl ?_
        refine E_cmp1 rfl (by omega) (fun q3 => ?_) (fun q3 => ?_)
        · refine E_const rfl ?_
          refine E_goto rfl ?_
          refine E_store rfl rfl rfl ?_
          refine E_iinc rfl rfl rfl ?_
          refine E_goto rfl ?_
          refine (ih (i + 1) (by omega) _ (by rw [alB_s (bB_nz (by omega)), isq_t (Or.inl (by omega))]; rfl) c hM hs).mono ?_
          rintro r hE ⟨e1, c9, e2, e3⟩
          exact ⟨e1, c9, e2, Eqk.trans Eqk.nil e3⟩
        · refine E_load rfl rfl rfl ?_
          refine E_load rfl rfl rfl ?_
          refine E_getr (c := 12) (r := 44) rfl (hL.lt 43 rfl) (hL.k 43 rfl) rfl hM.c1 ?_
          refine E_const rfl ?_
          refine E_load rfl rfl rfl ?_
          refine E_add rfl ?_
          refine E_ialn (n := 943) (v := ((b : Nat) : Int)) rfl (hL.lt 44 rfl) (hL.k 44 rfl) (hL.l 44 rfl) (by omega) ((rdS hs (by omega)).trans hb) ?_
          refine E_V1 (q := 43) (c := 12) (y := 167) rfl rfl (hL.lt 43 rfl) (hL.k 43 rfl) rfl rfl rfl rfl (n_saysOf hL hM hs (by omega) hI hH) (fun r h2 hq => ?_)
          obtain ⟨rfl, c_1, hh, hE0_1⟩ := hq
          subst hh
          have hE_1 : Eqk P47 c c_1 := hE0_1
          have hM_1 : Mc c_1 := hM.of (hE0_1.row 43 (fun _ => rfl))
          have hs_1 : c_1 44 = s := (hE0_1.row 44 (fun _ => rfl)).trans hs
          refine E_load rfl rfl rfl ?_
          refine E_getr (c := 12) (r := 44) rfl (hL.lt 43 rfl) (hL.k 43 rfl) rfl hM_1.c1 ?_
          refine E_const rfl ?_
          refine E_load rfl rfl rfl ?_
          refine E_add rfl ?_
          refine E_ialn (n := 943) (v := (s ((78 + i)))) rfl (hL.lt 44 rfl) (hL.k 44 rfl) (hL.l 44 rfl) (by omega) (rdS hs_1 (by omega)) ?_
          refine E_cmp1 rfl (by omega) (fun q4 => ?_) (fun q4 => ?_)
          · refine E_const rfl ?_
            refine E_store rfl rfl rfl ?_
            refine E_iinc rfl rfl rfl ?_
            refine E_goto rfl ?_
            refine (ih (i + 1) (by omega) _ (by rw [alB_s (bB_nz (by omega)), isq_f (by omega) (by rw [hbn]; omega)]; rfl) c_1 hM_1 hs_1).mono ?_
            rintro r hE ⟨e1, c9, e2, e3⟩
            exact ⟨e1, c9, e2, Eqk.trans hE_1 e3⟩
          · refine E_const rfl ?_
            refine E_goto rfl ?_
            refine E_store rfl rfl rfl ?_
            refine E_iinc rfl rfl rfl ?_
            refine E_goto rfl ?_
            refine (ih (i + 1) (by omega) _ (by rw [alB_s (bB_nz (by omega)), isq_t (Or.inr (by rw [hbn]; omega))]; rfl) c_1 hM_1 hs_1).mono ?_
            rintro r hE ⟨e1, c9, e2, e3⟩
            exact ⟨e1, c9, e2, Eqk.trans hE_1 e3⟩
set_option maxHeartbeats 4000000 in
set_option maxRecDepth 100000 in
theorem n_isSeen {d : Nat} {h : Hp} {c : Nat → Nat → Int} {s : Nat → Int} (hL : Lay h) (hM : Mc c) (hs : c 44 = s) (hG : InvG s) (hS : InvS s) {m : Nat} (hm : m < 1000) : Ok (d + 4) 200 [(1, ((43 : Nat) : Int)), (0, (m : Int))] (wC h c) (fun r h2 => r = some (0, bB (isqA s m)) ∧ ∃ c2, h2 = wC h c2 ∧ Eqk P47 c c2) := by
  show Ex _ none t_X11_isAsSeen 3 0 _ [] (wC h c) _
  refine E_const rfl ?_
  refine E_store rfl rfl rfl ?_
  refine E_const rfl ?_
  refine E_store rfl rfl rfl ?_
  exact l_isSeen hL hG hS hm _ 0 (Nat.zero_add _) 1 rfl c hM hs
theorem P44_P44 : ∀ a k, P44 a k = false → P44 a k = false := fun _ _ h => h
set_option maxHeartbeats 4000000 in
set_option maxRecDepth 100000 in
theorem l_areSeen {d : Nat} {h : Hp} {s : Nat → Int} (hL : Lay h) (hG : InvG s) (hS : InvS s) {u f46 : Nat → Int} (h46 : ∀ k, k < 29 → f46 k = u k) (hu : ∀ k, 29 ≤ k → s k = u k) : ∀ (n i : Nat), i + n = 21 → ∀ (a : Int), a = bB (alB (fun n => isqA (goN s n) (n : Int)) i) → ∀ c, Mc c → c 44 = goN s i → c 46 = f46 → Ex (d + 6) none t_X11_areAsSeen 3 4 [(1, ((43 : Nat) : Int)), (0, a), (0, (i : Int))] [] (wC h c) (fun r h2 => r = some (0, bB (arS s)) ∧ ∃ c2, h2 = wC h c2 ∧ c2 44 = u ∧ Eqk P44 c c2) := by
  intro n
  induction n with
  | zero =>
    intro i hi a ha c hM hs h46c
    have hGi := hG.goN i
    have hSi : InvS (goN s i) := hS.ofE fun k hk _ => goN_hi hG hk i
    have har : inR a := by rw [ha]; exact bB_R _
    refine E_load rfl rfl rfl ?_
    refine E_const rfl ?_
    refine E_cmp4 rfl (by omega) (fun q1 => ?_) (fun q1 => ?_)
    · refine E_load rfl rfl rfl ?_
      refine E_V0 (q := 43) (c := 12) (y := 148) rfl rfl (hL.lt 43 rfl) (hL.k 43 rfl) rfl rfl rfl rfl (n_goesBack (s0 := u) hL hM hs (fun k hk => by rw [h46c]; exact h46 k hk) (fun k hk => (goN_hi hG hk _).trans (hu k hk))) (fun r h2 hq => ?_)
      obtain ⟨rfl, c_1, hh, hs_1, hE0_1⟩ := hq
      subst hh
      have hE_1 : Eqk P44 c c_1 := hE0_1
      have hM_1 : Mc c_1 := hM.of (hE0_1.row 43 (fun _ => rfl))
      have hr46_1 : c_1 46 = f46 := (hE0_1.row 46 (fun _ => rfl)).trans h46c
      refine E_load rfl rfl rfl ?_
      refine E_iret rfl (fun _ => by rw [ha]; exact bB_01 _) ?_
      exact ⟨by rw [ha]; unfold arS; rw [show i = 21 by omega], c_1, rfl, hs_1, hE_1⟩
    · exfalso; omega
  | succ n ih =>
    intro i hi a ha c hM hs h46c
    have hGi := hG.goN i
    have hSi : InvS (goN s i) := hS.ofE fun k hk _ => goN_hi hG hk i
    have har : inR a := by rw [ha]; exact bB_R _
    refine E_load rfl rfl rfl ?_
    refine E_const rfl ?_
    refine E_cmp4 rfl (by omega) (fun q1 => ?_) (fun q1 => ?_)
    · exfalso; omega
    · refine E_load rfl rfl rfl ?_
      refine E_if0 rfl (by omega) (fun q2 => ?_) (fun q2 => ?_)
      · refine E_load rfl rfl rfl ?_
        refine E_V0 (q := 43) (c := 12) (y := 148) rfl rfl (hL.lt 43 rfl) (hL.k 43 rfl) rfl rfl rfl rfl (n_goesBack (s0 := u) hL hM hs (fun k hk => by rw [h46c]; exact h46 k hk) (fun k hk => (goN_hi hG hk _).trans (hu k hk))) (fun r h2 hq => ?_)
        obtain ⟨rfl, c_1, hh, hs_1, hE0_1⟩ := hq
        subst hh
        have hE_1 : Eqk P44 c c_1 := hE0_1
        have hM_1 : Mc c_1 := hM.of (hE0_1.row 43 (fun _ => rfl))
        have hr46_1 : c_1 46 = f46 := (hE0_1.row 46 (fun _ => rfl)).trans h46c
        refine E_load rfl rfl rfl ?_
        refine E_iret rfl (fun _ => by rw [ha]; exact bB_01 _) ?_
        exact ⟨by rw [q2]; unfold arS; rw [alB_le (bB_z (by omega)) (show i ≤ 21 by omega)]; rfl, c_1, rfl, hs_1, hE_1⟩
      · refine E_load rfl rfl rfl ?_
        refine E_load rfl rfl rfl ?_
        refine E_V1 (q := 43) (c := 12) (y := 200) rfl rfl (hL.lt 43 rfl) (hL.k 43 rfl) rfl rfl rfl rfl (n_isSeen hL hM hs hGi hSi (by omega)) (fun r h2 hq => ?_)
        obtain ⟨rfl, c_2, hh, hE0_2⟩ := hq
        subst hh
        have hE_2 : Eqk P44 c c_2 := hE0_2.mono P47_P44
        have hM_2 : Mc c_2 := hM.of (hE0_2.row 43 (fun _ => rfl))
        have hs_2 : c_2 44 = goN s i := (hE0_2.row 44 (fun _ => rfl)).trans hs
        have hr46_2 : c_2 46 = f46 := (hE0_2.row 46 (fun _ => rfl)).trans h46c
        refine E_store rfl rfl rfl ?_
        refine E_load rfl rfl rfl ?_
        refine E_V0 (q := 43) (c := 12) (y := 182) rfl rfl (hL.lt 43 rfl) (hL.k 43 rfl) rfl rfl rfl rfl (n_goes hL hM_2 hs_2 hGi) (fun r h2 hq => ?_)
        obtain ⟨rfl, c_3, hh, hs_3, hE0_3⟩ := hq
        subst hh
        have hE_3 : Eqk P44 c_2 c_3 := hE0_3
        have hM_3 : Mc c_3 := hM_2.of (hE0_3.row 43 (fun _ => rfl))
        have hr46_3 : c_3 46 = f46 := (hE0_3.row 46 (fun _ => rfl)).trans hr46_2
        refine E_iinc rfl rfl rfl ?_
        refine E_goto rfl ?_
        refine (ih (i + 1) (by omega) _ (by rw [alB_s (bB_nz (by omega))]) c_3 hM_3 hs_3 hr46_3).mono ?_
        rintro r hE ⟨e1, c9, e2, e4, e3⟩
        exact ⟨e1, c9, e2, e4, Eqk.trans (hE_2.trans hE_3) e3⟩
set_option maxHeartbeats 4000000 in
set_option maxRecDepth 100000 in
theorem n_areSeen {d : Nat} {h : Hp} {c : Nat → Nat → Int} {s : Nat → Int} (hL : Lay h) (hM : Mc c) (hs : c 44 = s) (hG : InvG s) (hS : InvS s) {u f46 : Nat → Int} (h46c : c 46 = f46) (h46 : ∀ k, k < 29 → f46 k = u k) (hu : ∀ k, 29 ≤ k → s k = u k) : Ok (d + 6) 201 [(1, ((43 : Nat) : Int))] (wC h c) (fun r h2 => r = some (0, bB (arS s)) ∧ ∃ c2, h2 = wC h c2 ∧ c2 44 = u ∧ Eqk P44 c c2) := by
  show Ex _ none t_X11_areAsSeen 3 0 _ [] (wC h c) _
  refine E_const rfl ?_
  refine E_store rfl rfl rfl ?_
  refine E_const rfl ?_
  refine E_store rfl rfl rfl ?_
  exact l_areSeen hL hG hS h46 hu 21 0 rfl 1 rfl c hM hs h46c
set_option maxHeartbeats 4000000 in
set_option maxRecDepth 100000 in
theorem l_old {d : Nat} {h : Hp} {s : Nat → Int} (hL : Lay h) (hG : InvG s) (hS : InvS s) {b : Nat} (hb : b < 6) {w : Int} (hw : inR w) {f46 : Nat → Int} (h46 : ∀ k, k < 29 → f46 k = s k) : ∀ (n i : Nat), i + n = 100 → ∀ (a1 a2 y : Int) (v6 : AV), (y = 99 - (i : Int) ∧ (a1, a2) = odL s b i) → ∀ c, Mc c → c 44 = s → c 46 = f46 → Ex (d + 9) none t_X11_old 0 33 [(1, ((43 : Nat) : Int)), (0, (b : Int)), (0, w), (0, a1), (0, a2), (0, y), v6] [] (wC h c) (fun r h2 => r = some (0, if w = 0 then (odL s b 100).1 else (odL s b 100).2) ∧ ∃ c2, h2 = wC h c2 ∧ c2 44 = s ∧ Eqk PS c c2) := by
  intro n
  induction n with
  | zero =>
    intro i hi a1 a2 y v6 ha c hM hs h46c
    refine E_load rfl rfl rfl ?_
    refine E_if2 rfl (by omega) (fun q1 => ?_) (fun q1 => ?_)
    · refine E_load rfl rfl rfl ?_
      refine E_if1 rfl (by omega) (fun q2 => ?_) (fun q2 => ?_)
      · refine E_load rfl rfl rfl ?_
        refine E_iret rfl (fun h => absurd h (by decide)) ?_
        exact ⟨by have e := ha.2; rw [if_neg (by omega), show (100 : Nat) = i by omega, ← e], c, rfl, hs, Eqk.nil⟩
      · refine E_load rfl rfl rfl ?_
        refine E_goto rfl ?_
        refine E_iret rfl (fun h => absurd h (by decide)) ?_
        exact ⟨by have e := ha.2; rw [if_pos (by omega), show (100 : Nat) = i by omega, ← e], c, rfl, hs, Eqk.nil⟩
    · exfalso; omega
  | succ n ih =>
    intro i hi a1 a2 y v6 ha c hM hs h46c
    refine E_load rfl rfl rfl ?_
    refine E_if2 rfl (by omega) (fun q1 => ?_) (fun q1 => ?_)
    · exfalso; omega
    · refine E_load rfl rfl rfl ?_
      refine E_getr (c := 12) (r := 44) rfl (hL.lt 43 rfl) (hL.k 43 rfl) rfl hM.c1 ?_
      refine E_const rfl ?_
      refine E_load rfl rfl rfl ?_
      refine E_add rfl ?_
      refine E_load rfl rfl rfl ?_
      refine E_iasg (n := 943) (j := (7 + b)) rfl (hL.lt 44 rfl) (hL.k 44 rfl) (hL.l 44 rfl) (by omega) (by omega) (fun c_1 hc_1 => ?_)
      have hE_1 : Eqk PS c c_1 := by rw [hc_1]; exact Eqk.up rfl
      have hM_1 : Mc c_1 := by rw [hc_1]; exact hM.upo rfl
      have hs_1 : c_1 44 = upd1 s (7 + b) y := by rw [hc_1]; exact up2_rowS hs
      replace hs_1 : c_1 44 = upd1 s (7 + b) (99 - (i : Int)) := hs_1.trans (by rw [ha.1])
      have hr46_1 : c_1 46 = f46 := by rw [hc_1]; exact (up2_oth rfl).trans h46c
      have hGi := hG.years hb (x := 99 - (i : Int)) (by omega)
      have hSi : InvS (upd1 s (7 + b) (99 - (i : Int))) := hS.ofE fun k hk _ => upd1_ne (by omega)
      refine E_load rfl rfl rfl ?_
      refine E_V0 (q := 43) (c := 12) (y := 201) rfl rfl (hL.lt 43 rfl) (hL.k 43 rfl) rfl rfl rfl rfl (n_areSeen (u := s) hL hM_1 hs_1 hGi hSi hr46_1 h46 (fun k hk => upd1_ne (by omega))) (fun r h2 hq => ?_)
      obtain ⟨rfl, c_2, hh, hs_2, hE0_2⟩ := hq
      subst hh
      have hE_2 : Eqk PS c_1 c_2 := hE0_2.mono P44_PS
      have hM_2 : Mc c_2 := hM_1.of (hE0_2.row 43 (fun _ => rfl))
      have hr46_2 : c_2 46 = f46 := (hE0_2.row 46 (fun _ => rfl)).trans hr46_1
      refine E_store rfl rfl rfl ?_
      refine E_load rfl rfl rfl ?_
      refine E_load rfl rfl rfl ?_
      refine E_if0 rfl (bB_R _) (fun q2 => ?_) (fun q2 => ?_)
      · replace q2 := bB_z q2
        refine E_const rfl ?_
        refine E_add rfl ?_
        refine E_store rfl rfl rfl ?_
        refine E_load rfl rfl rfl ?_
        refine E_if0 rfl (bB_R _) (fun q3 => ?_) (fun q3 => ?_)
        · replace q3 := bB_z q3
          refine E_load rfl rfl rfl ?_
          refine E_store rfl rfl rfl ?_
          refine E_iinc rfl rfl rfl ?_
          refine E_goto rfl ?_
          refine (ih (i + 1) (by omega) _ _ _ _ ⟨by omega, odL_f ha.2 q2⟩ c_2 hM_2 hs_2 hr46_2).mono ?_
          rintro r hE ⟨e1, c9, e2, e4, e3⟩
          exact ⟨e1, c9, e2, e4, Eqk.trans (hE_1.trans hE_2) e3⟩
        · replace q3 := bB_nz q3
          refine E_load rfl rfl rfl ?_
          refine E_goto rfl ?_
          refine E_store rfl rfl rfl ?_
          refine E_iinc rfl rfl rfl ?_
          refine E_goto rfl ?_
          exact absurd (q3.symm.trans q2) (by decide)
      · replace q2 := bB_nz q2
        refine E_const rfl ?_
        refine E_goto rfl ?_
        refine E_add rfl ?_
        refine E_store rfl rfl rfl ?_
        refine E_load rfl rfl rfl ?_
        refine E_if0 rfl (bB_R _) (fun q4 => ?_) (fun q4 => ?_)
        · replace q4 := bB_z q4
          refine E_load rfl rfl rfl ?_
          refine E_store rfl rfl rfl ?_
          refine E_iinc rfl rfl rfl ?_
          refine E_goto rfl ?_
          exact absurd (q4.symm.trans q2) (by decide)
        · replace q4 := bB_nz q4
          refine E_load rfl rfl rfl ?_
          refine E_goto rfl ?_
          refine E_store rfl rfl rfl ?_
          refine E_iinc rfl rfl rfl ?_
          refine E_goto rfl ?_
          refine (ih (i + 1) (by omega) _ _ _ _ ⟨by omega, (by rw [ha.1]; exact odL_t ha.2 q2)⟩ c_2 hM_2 hs_2 hr46_2).mono ?_
          rintro r hE ⟨e1, c9, e2, e4, e3⟩
          exact ⟨e1, c9, e2, e4, Eqk.trans (hE_1.trans hE_2) e3⟩
set_option maxHeartbeats 4000000 in
set_option maxRecDepth 100000 in
theorem n_old {d : Nat} {h : Hp} {c : Nat → Nat → Int} {s : Nat → Int} (hL : Lay h) (hM : Mc c) (hs : c 44 = s) (hA : Inv s) {x : Int} (hx : inR x) {w : Int} (hw : inR w) : Ok (d + 9) 202 [(1, ((43 : Nat) : Int)), (0, x), (0, w)] (wC h c) (fun r h2 => r = some (0, a_old s x w) ∧ ∃ c2, h2 = wC h c2 ∧ Eqk PQ c c2) := by
  show Ex _ none t_X11_old 0 0 _ [] (wC h c) _
  have hG := hA.G
  obtain ⟨hI, hH, ⟨⟨n29, n30, n31, n32, n33, n34, n36⟩, nM⟩, hX⟩ := hA
  refine E_load rfl rfl rfl ?_
  refine E_load rfl rfl rfl ?_
  refine E_V1 (q := 43) (c := 12) (y := 143) rfl rfl (hL.lt 43 rfl) (hL.k 43 rfl) rfl rfl rfl rfl (n_isBottle hL hM hs (by omega) (by omega)) (fun r h2 hq => ?_)
  obtain ⟨rfl, hh⟩ := hq
  subst hh
  refine E_if0 rfl (bI_R _) (fun q1 => ?_) (fun q1 => ?_)
  · replace q1 := bI_z q1
    refine E_const rfl ?_
    refine E_iret rfl (fun h => absurd h (by decide)) ?_
    refine qryl ?_ (Eqk.PQ_of Eqk.nil (hs.trans hs.symm))
    unfold a_old
    try simp only [Int.toNat_natCast]
    first | (exfalso; omega) | (rw [if_pos (by omega)]; done) | (rw [if_neg (by omega), if_pos (by omega)]; done) | (rw [if_neg (by omega)]; done) | (rw [if_neg (by omega), if_neg (by omega), if_pos (by omega)]; done) | (rw [if_neg (by omega), if_neg (by omega)]; done) | (rw [if_neg (by omega), if_neg (by omega), if_neg (by omega), if_pos (by omega)]; done) | (rw [if_neg (by omega), if_neg (by omega), if_neg (by omega)]; done) | (rw [if_neg (by omega), if_neg (by omega), if_neg (by omega), if_neg (by omega), if_pos (by omega)]; done) | (rw [if_neg (by omega), if_neg (by omega), if_neg (by omega), if_neg (by omega)]; done) | (rw [if_neg (by omega), if_neg (by omega), if_neg (by omega), if_neg (by omega), if_neg (by omega), if_pos (by omega)]; done) | (rw [if_neg (by omega), if_neg (by omega), if_neg (by omega), if_neg (by omega), if_neg (by omega)]; done) | (rw [if_neg (by omega), if_neg (by omega), if_neg (by omega), if_neg (by omega), if_neg (by omega), if_neg (by omega), if_pos (by omega)]; done) | (rw [if_neg (by omega), if_neg (by omega), if_neg (by omega), if_neg (by omega), if_neg (by omega), if_neg (by omega)]; done)
  · replace q1 := bI_nz q1
    obtain ⟨b, rfl⟩ := Int.eq_ofNat_of_zero_le q1.1
    have iB := hI b (by omega)
    refine E_load rfl rfl rfl ?_
    refine E_const rfl ?_
    refine E_const rfl ?_
    refine E_S3 (y := 139) rfl rfl rfl rfl rfl (m_in (by omega) (by omega) (by omega)) (fun r h2 hq => ?_)
    obtain ⟨rfl, hh⟩ := hq
    subst hh
    refine E_if1 rfl (bI_R _) (fun q2 => ?_) (fun q2 => ?_)
    · replace q2 := bI_nz q2
      refine E_const rfl ?_
      refine E_store rfl rfl rfl ?_
      refine E_const rfl ?_
      refine E_store rfl rfl rfl ?_
      refine E_load rfl rfl rfl ?_
      refine E_V0 (q := 43) (c := 12) (y := 147) rfl rfl (hL.lt 43 rfl) (hL.k 43 rfl) rfl rfl rfl rfl (n_keeps hL hM hs) (fun r h2 hq => ?_)
      obtain ⟨rfl, c_1, hh, h46_1, hE0_1⟩ := hq
      subst hh
      have hE_1 : Eqk PS c c_1 := hE0_1.mono P46_PS
      have hM_1 : Mc c_1 := hM.of (hE0_1.row 43 (fun _ => rfl))
      have hs_1 : c_1 44 = s := (hE0_1.row 44 (fun _ => rfl)).trans hs
      obtain ⟨f46, hr46_1⟩ : ∃ f, c_1 46 = f := ⟨_, rfl⟩
      have h46 : ∀ k, k < 29 → f46 k = s k := fun k hk => by rw [← hr46_1]; exact h46_1 k hk
      refine E_const rfl ?_
      refine E_store rfl rfl rfl ?_
      have hS : InvS s := hX.2.2.2.1
      refine (l_old hL hG hS (by omega) hw h46 100 0 rfl _ _ _ _ ⟨rfl, rfl⟩ c_1 hM_1 hs_1 hr46_1).mono ?_
      rintro r hE ⟨rfl, c9, rfl, e4, e3⟩
      refine qryl ?_ (Eqk.PQ_of (Eqk.trans hE_1 e3) (e4.trans hs.symm))
      unfold a_old
      try simp only [Int.toNat_natCast]
      rw [if_neg (by omega)]
    · replace q2 := bI_z q2
      refine E_const rfl ?_
      refine E_iret rfl (fun h => absurd h (by decide)) ?_
      refine qryl ?_ (Eqk.PQ_of Eqk.nil (hs.trans hs.symm))
      unfold a_old
      try simp only [Int.toNat_natCast]
      first | (exfalso; omega) | (rw [if_pos (by omega)]; done) | (rw [if_neg (by omega), if_pos (by omega)]; done) | (rw [if_neg (by omega)]; done) | (rw [if_neg (by omega), if_neg (by omega), if_pos (by omega)]; done) | (rw [if_neg (by omega), if_neg (by omega)]; done) | (rw [if_neg (by omega), if_neg (by omega), if_neg (by omega), if_pos (by omega)]; done) | (rw [if_neg (by omega), if_neg (by omega), if_neg (by omega)]; done) | (rw [if_neg (by omega), if_neg (by omega), if_neg (by omega), if_neg (by omega), if_pos (by omega)]; done) | (rw [if_neg (by omega), if_neg (by omega), if_neg (by omega), if_neg (by omega)]; done) | (rw [if_neg (by omega), if_neg (by omega), if_neg (by omega), if_neg (by omega), if_neg (by omega), if_pos (by omega)]; done) | (rw [if_neg (by omega), if_neg (by omega), if_neg (by omega), if_neg (by omega), if_neg (by omega)]; done) | (rw [if_neg (by omega), if_neg (by omega), if_neg (by omega), if_neg (by omega), if_neg (by omega), if_neg (by omega), if_pos (by omega)]; done) | (rw [if_neg (by omega), if_neg (by omega), if_neg (by omega), if_neg (by omega), if_neg (by omega), if_neg (by omega)]; done)
set_option maxHeartbeats 4000000 in
set_option maxRecDepth 100000 in
theorem l_firm {d : Nat} {h : Hp} {s : Nat → Int} (hL : Lay h) (hG : InvG s) (hS : InvS s) {b : Nat} (hb : b < 6) {w : Int} (hw : inR w) {f46 : Nat → Int} (h46 : ∀ k, k < 29 → f46 k = s k) : ∀ (n i : Nat), i + n = 10 → ∀ (a1 a2 y : Int) (v6 : AV) (t : Nat → Int), (y = 9 - (i : Int) ∧ (a1, a2) = fiL s b i ∧ (∀ z : Int, upd1 t (43 + b) z = upd1 s (43 + b) z) ∧ (∀ k, k < 29 → t k = s k)) → ∀ c, Mc c → c 44 = t → c 46 = f46 → Ex (d + 9) none t_X11_firm 0 44 [(1, ((43 : Nat) : Int)), (0, (b : Int)), (0, w), (0, s (43 + b)), (0, a1), (0, a2), (0, y), v6] [] (wC h c) (fun r h2 => r = some (0, if w = 0 then (fiL s b 10).1 else (fiL s b 10).2) ∧ ∃ c2, h2 = wC h c2 ∧ c2 44 = s ∧ Eqk PS c c2) := by
  intro n
  induction n with
  | zero =>
    intro i hi a1 a2 y v6 t ha c hM hs h46c
    refine E_load rfl rfl rfl ?_
    refine E_if2 rfl (by omega) (fun q1 => ?_) (fun q1 => ?_)
    · refine E_load rfl rfl rfl ?_
      refine E_getr (c := 12) (r := 44) rfl (hL.lt 43 rfl) (hL.k 43 rfl) rfl hM.c1 ?_
      refine E_const rfl ?_
      refine E_load rfl rfl rfl ?_
      refine E_add rfl ?_
      refine E_load rfl rfl rfl ?_
      refine E_iasg (n := 943) (j := (43 + b)) rfl (hL.lt 44 rfl) (hL.k 44 rfl) (hL.l 44 rfl) (by omega) (by omega) (fun c_1 hc_1 => ?_)
      have hE_1 : Eqk PS c c_1 := by rw [hc_1]; exact Eqk.up rfl
      have hM_1 : Mc c_1 := by rw [hc_1]; exact hM.upo rfl
      have hs_1 : c_1 44 = upd1 t (43 + b) (s ((43 + b))) := by rw [hc_1]; exact up2_rowS hs
      replace hs_1 : c_1 44 = s := hs_1.trans ((ha.2.2.1 _).trans upd1_self)
      have hr46_1 : c_1 46 = f46 := by rw [hc_1]; exact (up2_oth rfl).trans h46c
      refine E_load rfl rfl rfl ?_
      refine E_if1 rfl (by omega) (fun q2 => ?_) (fun q2 => ?_)
      · refine E_load rfl rfl rfl ?_
        refine E_iret rfl (fun h => absurd h (by decide)) ?_
        exact ⟨by have e := ha.2.1; rw [if_neg (by omega), show (10 : Nat) = i by omega, ← e], c_1, rfl, hs_1, hE_1⟩
      · refine E_load rfl rfl rfl ?_
        refine E_goto rfl ?_
        refine E_iret rfl (fun h => absurd h (by decide)) ?_
        exact ⟨by have e := ha.2.1; rw [if_pos (by omega), show (10 : Nat) = i by omega, ← e], c_1, rfl, hs_1, hE_1⟩
    · exfalso; omega
  | succ n ih =>
    intro i hi a1 a2 y v6 t ha c hM hs h46c
    refine E_load rfl rfl rfl ?_
    refine E_if2 rfl (by omega) (fun q1 => ?_) (fun q1 => ?_)
    · exfalso; omega
    · refine E_load rfl rfl rfl ?_
      refine E_getr (c := 12) (r := 44) rfl (hL.lt 43 rfl) (hL.k 43 rfl) rfl hM.c1 ?_
      refine E_const rfl ?_
      refine E_load rfl rfl rfl ?_
      refine E_add rfl ?_
      refine E_load rfl rfl rfl ?_
      refine E_iasg (n := 943) (j := (43 + b)) rfl (hL.lt 44 rfl) (hL.k 44 rfl) (hL.l 44 rfl) (by omega) (by omega) (fun c_1 hc_1 => ?_)
      have hE_1 : Eqk PS c c_1 := by rw [hc_1]; exact Eqk.up rfl
      have hM_1 : Mc c_1 := by rw [hc_1]; exact hM.upo rfl
      have hs_1 : c_1 44 = upd1 t (43 + b) y := by rw [hc_1]; exact up2_rowS hs
      replace hs_1 : c_1 44 = upd1 s (43 + b) (9 - (i : Int)) := hs_1.trans (by rw [ha.2.2.1, ha.1])
      have hr46_1 : c_1 46 = f46 := by rw [hc_1]; exact (up2_oth rfl).trans h46c
      have hGi := hG.v hb (x := 9 - (i : Int)) (by omega)
      have hSi : InvS (upd1 s (43 + b) (9 - (i : Int))) := hS.ofE fun k hk hk2 => upd1_ne (by omega)
      refine E_load rfl rfl rfl ?_
      refine E_V0 (q := 43) (c := 12) (y := 201) rfl rfl (hL.lt 43 rfl) (hL.k 43 rfl) rfl rfl rfl rfl (n_areSeen (u := upd1 s (43 + b) (9 - (i : Int))) hL hM_1 hs_1 hGi hSi hr46_1 (fun k hk => (h46 k hk).trans (upd1_ne (by omega)).symm) (fun k hk => rfl)) (fun r h2 hq => ?_)
      obtain ⟨rfl, c_2, hh, hs_2, hE0_2⟩ := hq
      subst hh
      have hE_2 : Eqk PS c_1 c_2 := hE0_2.mono P44_PS
      have hM_2 : Mc c_2 := hM_1.of (hE0_2.row 43 (fun _ => rfl))
      have hr46_2 : c_2 46 = f46 := (hE0_2.row 46 (fun _ => rfl)).trans hr46_1
      refine E_store rfl rfl rfl ?_
      refine E_load rfl rfl rfl ?_
      refine E_load rfl rfl rfl ?_
      refine E_if0 rfl (bB_R _) (fun q2 => ?_) (fun q2 => ?_)
      · replace q2 := bB_z q2
        refine E_const rfl ?_
        refine E_add rfl ?_
        refine E_store rfl rfl rfl ?_
        refine E_load rfl rfl rfl ?_
        refine E_if0 rfl (bB_R _) (fun q3 => ?_) (fun q3 => ?_)
        · replace q3 := bB_z q3
          refine E_load rfl rfl rfl ?_
          refine E_store rfl rfl rfl ?_
          refine E_iinc rfl rfl rfl ?_
          refine E_goto rfl ?_
          refine (ih (i + 1) (by omega) _ _ _ _ _ ⟨by omega, fiL_f ha.2.1 q2, fun z => upd1_upd1, fun k hk => (upd1_ne (by omega)).trans rfl⟩ c_2 hM_2 hs_2 hr46_2).mono ?_
          rintro r hE ⟨e1, c9, e2, e4, e3⟩
          exact ⟨e1, c9, e2, e4, Eqk.trans (hE_1.trans hE_2) e3⟩
        · replace q3 := bB_nz q3
          refine E_load rfl rfl rfl ?_
          refine E_goto rfl ?_
          refine E_store rfl rfl rfl ?_
          refine E_iinc rfl rfl rfl ?_
          refine E_goto rfl ?_
          exact absurd (q3.symm.trans q2) (by decide)
      · replace q2 := bB_nz q2
        refine E_const rfl ?_
        refine E_goto rfl ?_
        refine E_add rfl ?_
        refine E_store rfl rfl rfl ?_
        refine E_load rfl rfl rfl ?_
        refine E_if0 rfl (bB_R _) (fun q4 => ?_) (fun q4 => ?_)
        · replace q4 := bB_z q4
          refine E_load rfl rfl rfl ?_
          refine E_store rfl rfl rfl ?_
          refine E_iinc rfl rfl rfl ?_
          refine E_goto rfl ?_
          exact absurd (q4.symm.trans q2) (by decide)
        · replace q4 := bB_nz q4
          refine E_load rfl rfl rfl ?_
          refine E_goto rfl ?_
          refine E_store rfl rfl rfl ?_
          refine E_iinc rfl rfl rfl ?_
          refine E_goto rfl ?_
          refine (ih (i + 1) (by omega) _ _ _ _ _ ⟨by omega, (by rw [ha.1]; exact fiL_t ha.2.1 q2), fun z => upd1_upd1, fun k hk => (upd1_ne (by omega)).trans rfl⟩ c_2 hM_2 hs_2 hr46_2).mono ?_
          rintro r hE ⟨e1, c9, e2, e4, e3⟩
          exact ⟨e1, c9, e2, e4, Eqk.trans (hE_1.trans hE_2) e3⟩
set_option maxHeartbeats 4000000 in
set_option maxRecDepth 100000 in
theorem n_firm {d : Nat} {h : Hp} {c : Nat → Nat → Int} {s : Nat → Int} (hL : Lay h) (hM : Mc c) (hs : c 44 = s) (hA : Inv s) {x : Int} (hx : inR x) {w : Int} (hw : inR w) : Ok (d + 9) 203 [(1, ((43 : Nat) : Int)), (0, x), (0, w)] (wC h c) (fun r h2 => r = some (0, a_firm s x w) ∧ ∃ c2, h2 = wC h c2 ∧ Eqk PQ c c2) := by
  show Ex _ none t_X11_firm 0 0 _ [] (wC h c) _
  have hG := hA.G
  obtain ⟨hI, hH, ⟨⟨n29, n30, n31, n32, n33, n34, n36⟩, nM⟩, hX⟩ := hA
  refine E_load rfl rfl rfl ?_
  refine E_load rfl rfl rfl ?_
  refine E_V1 (q := 43) (c := 12) (y := 143) rfl rfl (hL.lt 43 rfl) (hL.k 43 rfl) rfl rfl rfl rfl (n_isBottle hL hM hs (by omega) (by omega)) (fun r h2 hq => ?_)
  obtain ⟨rfl, hh⟩ := hq
  subst hh
  refine E_if0 rfl (bI_R _) (fun q1 => ?_) (fun q1 => ?_)
  · replace q1 := bI_z q1
    refine E_const rfl ?_
    refine E_iret rfl (fun h => absurd h (by decide)) ?_
    refine qryl ?_ (Eqk.PQ_of Eqk.nil (hs.trans hs.symm))
    unfold a_firm
    try simp only [Int.toNat_natCast]
    first | (exfalso; omega) | (rw [if_pos (by omega)]; done) | (rw [if_neg (by omega), if_pos (by omega)]; done) | (rw [if_neg (by omega)]; done) | (rw [if_neg (by omega), if_neg (by omega), if_pos (by omega)]; done) | (rw [if_neg (by omega), if_neg (by omega)]; done) | (rw [if_neg (by omega), if_neg (by omega), if_neg (by omega), if_pos (by omega)]; done) | (rw [if_neg (by omega), if_neg (by omega), if_neg (by omega)]; done) | (rw [if_neg (by omega), if_neg (by omega), if_neg (by omega), if_neg (by omega), if_pos (by omega)]; done) | (rw [if_neg (by omega), if_neg (by omega), if_neg (by omega), if_neg (by omega)]; done) | (rw [if_neg (by omega), if_neg (by omega), if_neg (by omega), if_neg (by omega), if_neg (by omega), if_pos (by omega)]; done) | (rw [if_neg (by omega), if_neg (by omega), if_neg (by omega), if_neg (by omega), if_neg (by omega)]; done) | (rw [if_neg (by omega), if_neg (by omega), if_neg (by omega), if_neg (by omega), if_neg (by omega), if_neg (by omega), if_pos (by omega)]; done) | (rw [if_neg (by omega), if_neg (by omega), if_neg (by omega), if_neg (by omega), if_neg (by omega), if_neg (by omega)]; done)
  · replace q1 := bI_nz q1
    obtain ⟨b, rfl⟩ := Int.eq_ofNat_of_zero_le q1.1
    have iB := hI b (by omega)
    refine E_load rfl rfl rfl ?_
    refine E_const rfl ?_
    refine E_const rfl ?_
    refine E_S3 (y := 139) rfl rfl rfl rfl rfl (m_in (by omega) (by omega) (by omega)) (fun r h2 hq => ?_)
    obtain ⟨rfl, hh⟩ := hq
    subst hh
    refine E_if1 rfl (bI_R _) (fun q2 => ?_) (fun q2 => ?_)
    · replace q2 := bI_nz q2
      refine E_load rfl rfl rfl ?_
      refine E_getr (c := 12) (r := 44) rfl (hL.lt 43 rfl) (hL.k 43 rfl) rfl hM.c1 ?_
      refine E_const rfl ?_
      refine E_load rfl rfl rfl ?_
      refine E_add rfl ?_
      refine E_ialn (n := 943) (v := (s ((43 + b)))) rfl (hL.lt 44 rfl) (hL.k 44 rfl) (hL.l 44 rfl) (by omega) (rdS hs (by omega)) ?_
      refine E_store rfl rfl rfl ?_
      refine E_const rfl ?_
      refine E_store rfl rfl rfl ?_
      refine E_const rfl ?_
      refine E_store rfl rfl rfl ?_
      refine E_load rfl rfl rfl ?_
      refine E_V0 (q := 43) (c := 12) (y := 147) rfl rfl (hL.lt 43 rfl) (hL.k 43 rfl) rfl rfl rfl rfl (n_keeps hL hM hs) (fun r h2 hq => ?_)
      obtain ⟨rfl, c_1, hh, h46_1, hE0_1⟩ := hq
      subst hh
      have hE_1 : Eqk PS c c_1 := hE0_1.mono P46_PS
      have hM_1 : Mc c_1 := hM.of (hE0_1.row 43 (fun _ => rfl))
      have hs_1 : c_1 44 = s := (hE0_1.row 44 (fun _ => rfl)).trans hs
      obtain ⟨f46, hr46_1⟩ : ∃ f, c_1 46 = f := ⟨_, rfl⟩
      have h46 : ∀ k, k < 29 → f46 k = s k := fun k hk => by rw [← hr46_1]; exact h46_1 k hk
      refine E_const rfl ?_
      refine E_store rfl rfl rfl ?_
      have hS : InvS s := hX.2.2.2.1
      refine (l_firm hL hG hS (by omega) hw h46 10 0 rfl _ _ _ _ s ⟨rfl, rfl, fun _ => rfl, fun _ _ => rfl⟩ c_1 hM_1 hs_1 hr46_1).mono ?_
      rintro r hE ⟨rfl, c9, rfl, e4, e3⟩
      refine qryl ?_ (Eqk.PQ_of (Eqk.trans hE_1 e3) (e4.trans hs.symm))
      unfold a_firm
      try simp only [Int.toNat_natCast]
      rw [if_neg (by omega)]
    · replace q2 := bI_z q2
      refine E_const rfl ?_
      refine E_iret rfl (fun h => absurd h (by decide)) ?_
      refine qryl ?_ (Eqk.PQ_of Eqk.nil (hs.trans hs.symm))
      unfold a_firm
      try simp only [Int.toNat_natCast]
      first | (exfalso; omega) | (rw [if_pos (by omega)]; done) | (rw [if_neg (by omega), if_pos (by omega)]; done) | (rw [if_neg (by omega)]; done) | (rw [if_neg (by omega), if_neg (by omega), if_pos (by omega)]; done) | (rw [if_neg (by omega), if_neg (by omega)]; done) | (rw [if_neg (by omega), if_neg (by omega), if_neg (by omega), if_pos (by omega)]; done) | (rw [if_neg (by omega), if_neg (by omega), if_neg (by omega)]; done) | (rw [if_neg (by omega), if_neg (by omega), if_neg (by omega), if_neg (by omega), if_pos (by omega)]; done) | (rw [if_neg (by omega), if_neg (by omega), if_neg (by omega), if_neg (by omega)]; done) | (rw [if_neg (by omega), if_neg (by omega), if_neg (by omega), if_neg (by omega), if_neg (by omega), if_pos (by omega)]; done) | (rw [if_neg (by omega), if_neg (by omega), if_neg (by omega), if_neg (by omega), if_neg (by omega)]; done) | (rw [if_neg (by omega), if_neg (by omega), if_neg (by omega), if_neg (by omega), if_neg (by omega), if_neg (by omega), if_pos (by omega)]; done) | (rw [if_neg (by omega), if_neg (by omega), if_neg (by omega), if_neg (by omega), if_neg (by omega), if_neg (by omega)]; done)
