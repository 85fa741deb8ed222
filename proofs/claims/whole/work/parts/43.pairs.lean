def pbC (s pt : Nat → Int) (b q : Nat) : Prop := pt q = -5 ∧ s (19 + q) = 0 ∧ szI (syS s b + syS s q) ≤ tlI s 233 5
def pbF (rec : (Nat → Int) → Int → GR) (s : Nat → Int) (b : Nat) (pt : Nat → Int) (many : Int) : Nat → GR
  | 0 => (-1, pt)
  | i + 1 => if pt (b + 1 + i) = -5 ∧ s (19 + (b + 1 + i)) = 0 ∧ szI (syS s b + syS s (b + 1 + i)) ≤ tlI s 233 5 then upG (pbF rec s b pt many i) (rec (upd1 (upd1 pt b ((b + 1 + i : Nat) : Int)) (b + 1 + i) (b : Int)) (many + 1)) else pbF rec s b pt many i
def pbS (s : Nat → Int) : Nat → Nat → (Nat → Int) → Int → GR
  | 0 => fun _ pt many => (many, pt)
  | n + 1 => fun b pt many => if pt b ≠ -5 ∨ s (19 + b) = 1 then pbS s n (b + 1) pt many else upG (pbF (fun pt' m => pbS s n (b + 1) pt' m) s b pt many n) (pbS s n (b + 1) pt many)
def PTr (pt : Nat → Int) : Prop := ∀ j, j < 6 → pt j = -5 ∨ (0 ≤ pt j ∧ pt j < 6)
theorem PTr.up {pt : Nat → Int} (h : PTr pt) {k : Nat} {x : Int} (hx : x = -5 ∨ (0 ≤ x ∧ x < 6)) : PTr (upd1 pt k x) := fun j hj => by
  unfold upd1
  split
  · exact hx
  · exact h j hj
theorem pbF_in {rec : (Nat → Int) → Int → GR} {s : Nat → Int} {b : Nat} {pt : Nat → Int} {many : Int} (hb : b < 6) (hp : PTr pt) (hr : ∀ pt, PTr pt → (rec pt (many + 1)).1 ≤ 50 ∧ -1 ≤ (rec pt (many + 1)).1) : ∀ n, b + n < 6 → -1 ≤ (pbF rec s b pt many n).1 ∧ (pbF rec s b pt many n).1 ≤ 50
  | 0, _ => ⟨by show (-1 : Int) ≤ -1; omega, by show (-1 : Int) ≤ 50; omega⟩
  | n + 1, hn => by
    have ih := pbF_in (s := s) hb hp hr n (by omega)
    have h2 := hr (upd1 (upd1 pt b ((b + 1 + n : Nat) : Int)) (b + 1 + n) (b : Int)) ((hp.up (Or.inr (by omega))).up (Or.inr (by omega)))
    rw [pbF]
    split
    · unfold upG
      split
      · exact ⟨h2.2, h2.1⟩
      · exact ih
    · exact ih
theorem pbS_s {s : Nat → Int} {n b : Nat} {pt : Nat → Int} {many : Int} : pbS s (n + 1) b pt many = if pt b ≠ -5 ∨ s (19 + b) = 1 then pbS s n (b + 1) pt many else upG (pbF (fun pt' m => pbS s n (b + 1) pt' m) s b pt many n) (pbS s n (b + 1) pt many) := rfl
theorem pbS_in {s : Nat → Int} : ∀ (n b : Nat) (pt : Nat → Int) (many : Int), b + n ≤ 6 → PTr pt → (0 ≤ many ∧ many + n ≤ 12) → -1 ≤ (pbS s n b pt many).1 ∧ (pbS s n b pt many).1 ≤ 50
  | 0, _, _, many, _, _, hm => ⟨by show -1 ≤ many; omega, by show many ≤ 50; omega⟩
  | n + 1, b, pt, many, hb, hp, hm => by
    have h0 := pbS_in (s := s) n (b + 1) pt many (by omega) hp (by omega)
    have h1 := pbF_in (rec := fun pt' m => pbS s n (b + 1) pt' m) (s := s) (b := b) (pt := pt) (many := many) (by omega) hp (fun pt' hp' => by
      have := pbS_in (s := s) n (b + 1) pt' (many + 1) (by omega) hp' (by omega)
      exact ⟨this.2, this.1⟩) n (by omega)
    rw [pbS_s]
    split
    · exact h0
    · unfold upG
      split
      · exact h0
      · exact h1
def P53 (a k : Nat) : Bool := a == 52 || (a == 53 || (a == 43 && k == 18))
theorem P53_P53 : ∀ a k, P53 a k = false → P53 a k = false := fun _ _ h => h
theorem P53_PQ : ∀ a k, PQ a k = false → P53 a k = false := by
  intro a k h
  simp only [PQ, P53, Bool.or_eq_false_iff] at h ⊢
  refine ⟨h.2.2.2.2.2.2.1, h.2.2.2.2.2.2.2.1, ?_⟩
  have h9 := h.2.2.2.2.2.2.2.2
  by_cases ha : a = 43
  · subst ha
    simp only [BEq.rfl, Bool.true_and, Bool.or_eq_false_iff] at h9 ⊢
    exact h9.1.1.1.2
  · simp [ha]
theorem Mc.p53 {c c2 : Nat → Nat → Int} (hM : Mc c) (h : Eqk P53 c c2) : Mc c2 := hM.ofk fun k hk => h 43 k (by
  have : k ≠ 18 := fun e => by subst e; cases hk
  simp [P53, this])
def MatR (pt : Nat → Int) (G : GR) (c : Nat → Nat → Int) : Prop := (∀ j, j < 6 → c 52 j = pt j) ∧ c 43 18 = G.1 ∧ ∀ j, j < 6 → c 53 j = G.2 j
theorem l_matC {d : Nat} {h : Hp} {s : Nat → Int} (hL : Lay h) {x y : Int} {p : Nat → Int} {z : Int} : ∀ (n i : Nat), i + n = 6 → ∀ c, Mc c → c 44 = s → (∀ j, j < i → c 53 j = p j) → (∀ j, j < 6 → c 52 j = p j) → c 43 18 = z → Ex (d) none t_X11_pairsFrom 0 26 [(1, ((43 : Nat) : Int)), (0, x), (0, y), (0, (i : Int))] [] (wC h c) (fun r h2 => r = none ∧ ∃ c2, h2 = wC h c2 ∧ MatR p (z, p) c2 ∧ Eqk P53 c c2) := by
  intro n
  induction n with
  | zero =>
    intro i hi c hM hs h51 h50 hz
    refine E_load rfl rfl rfl ?_
    refine E_const rfl ?_
    refine E_cmp3 rfl (by omega) (fun q1 => ?_) (fun q1 => ?_)
    · refine E_vret rfl ?_
      exact ⟨rfl, c, rfl, ⟨h50, hz, fun j hj => h51 j (by omega)⟩, Eqk.nil⟩
    · exfalso; omega
  | succ n ih =>
    intro i hi c hM hs h51 h50 hz
    refine E_load rfl rfl rfl ?_
    refine E_const rfl ?_
    refine E_cmp3 rfl (by omega) (fun q1 => ?_) (fun q1 => ?_)
    · exfalso; omega
    · refine E_load rfl rfl rfl ?_
      refine E_getr (c := 12) (r := 53) rfl (hL.lt 43 rfl) (hL.k 43 rfl) rfl hM.c17 ?_
      refine E_load rfl rfl rfl ?_
      refine E_load rfl rfl rfl ?_
      refine E_getr (c := 12) (r := 52) rfl (hL.lt 43 rfl) (hL.k 43 rfl) rfl hM.c16 ?_
      refine E_load rfl rfl rfl ?_
      refine E_ialn (n := 6) (v := (p i)) rfl (hL.lt 52 rfl) (hL.k 52 rfl) (hL.l 52 rfl) (by omega) ((rdS rfl (by omega)).trans (h50 i (by omega))) ?_
      refine E_iasg (n := 6) (j := i) rfl (hL.lt 53 rfl) (hL.k 53 rfl) (hL.l 53 rfl) (by omega) (by omega) (fun c_1 hc_1 => ?_)
      have hE_1 : Eqk P53 c c_1 := by rw [hc_1]; exact Eqk.up rfl
      have hM_1 : Mc c_1 := by rw [hc_1]; exact hM.upo rfl
      have hs_1 : c_1 44 = s := by rw [hc_1]; exact (up2_oth rfl).trans hs
      refine E_iinc rfl rfl rfl ?_
      refine E_goto rfl ?_
      refine (ih (i + 1) (by omega) c_1 hM_1 hs_1 (fun j hj => ?_) (fun j hj => ?_) ?_).mono ?_
      · rw [hc_1, up2_row]
        unfold upd1
        split
        · next e => rw [e]
        · exact h51 j (by omega)
      · rw [hc_1, up2_oth rfl]; exact h50 j hj
      · rw [hc_1, up2_fld rfl]; exact hz
      rintro r hE ⟨e1, c9, e2, e4, e3⟩
      exact ⟨e1, c9, e2, e4, Eqk.trans hE_1 e3⟩
set_option maxHeartbeats 8000000 in
theorem n_pairs {d : Nat} {h : Hp} {s : Nat → Int} (hL : Lay h) (hG : InvG s) {f49 : Nat → Int} (hsay : SAY s f49) : ∀ (n b : Nat) (many : Int), b + n = (s 29).toNat → (0 ≤ many ∧ many ≤ b) → ∀ (pt : Nat → Int), PTr pt → ∀ (G : GR), (-1 ≤ G.1 ∧ G.1 ≤ 50) → ∀ c, Mc c → c 44 = s → c 49 = f49 → MatR pt G c → Ok (d + n + 1) 196 [(1, ((43 : Nat) : Int)), (0, (b : Int)), (0, many)] (wC h c) (fun r h2 => r = none ∧ ∃ c2, h2 = wC h c2 ∧ MatR pt (upG G (pbS s n b pt many)) c2 ∧ Eqk P53 c c2) := by
  have hG0 := hG
  obtain ⟨hI, hH, ⟨n29, n30, n31, n32, n33, n34, n36⟩, nM⟩ := hG0
  intro n
  induction n with
  | zero =>
    intro b many hbn hm pt hpt G hGr c hM hs h49c hO
    show Ex _ none t_X11_pairsFrom 0 0 _ [] (wC h c) _
    refine E_load rfl rfl rfl ?_
    refine E_load rfl rfl rfl ?_
    refine E_getr (c := 12) (r := 44) rfl (hL.lt 43 rfl) (hL.k 43 rfl) rfl hM.c1 ?_
    refine E_const rfl ?_
    refine E_ialn (n := 943) (v := (s 29)) rfl (hL.lt 44 rfl) (hL.k 44 rfl) (hL.l 44 rfl) (by omega) (rdS hs (by omega)) ?_
    refine E_cmp1 rfl (by omega) (fun q1 => ?_) (fun q1 => ?_)
    · exfalso; omega
    · refine E_load rfl rfl rfl ?_
      refine E_load rfl rfl rfl ?_
      refine E_getf (c := 12) (v := (0, G.1)) rfl (hL.lt 43 rfl) (hL.k 43 rfl) rfl (fv hO.2.1) ?_
      refine E_cmp5 rfl (by omega) (fun q2 => ?_) (fun q2 => ?_)
      · refine E_vret rfl ?_
        exact ⟨rfl, c, rfl, by rw [show upG G (pbS s 0 b pt many) = G from if_neg (show ¬ G.1 < many by omega)]; exact hO, Eqk.nil⟩
      · refine E_load rfl rfl rfl ?_
        refine E_load rfl rfl rfl ?_
        refine E_putg (cl := 12) rfl (hL.lt 43 rfl) (hL.k 43 rfl) rfl (fun c_1 hc_1 => ?_)
        have hE_1 : Eqk P53 c c_1 := by rw [hc_1]; exact Eqk.up rfl
        have hM_1 : Mc c_1 := by rw [hc_1]; exact hM.up43 rfl
        have hs_1 : c_1 44 = s := by rw [hc_1]; exact (up2_oth rfl).trans hs
        have hf18_1 : c_1 43 18 = many := by rw [hc_1]; exact up2_same
        refine E_const rfl ?_
        refine E_store rfl rfl rfl ?_
        refine (l_matC hL (p := pt) 6 0 rfl c_1 hM_1 hs_1 (fun j hj => absurd hj (Nat.not_lt_zero j)) (fun j hj => ?_) (z := many) ?_).mono ?_
        · rw [hc_1, up2_oth rfl]; exact hO.1 j hj
        · rw [hc_1]; exact up2_same
        rintro r hE ⟨e1, c9, e2, e4, e3⟩
        refine ⟨e1, c9, e2, ?_, Eqk.trans hE_1 e3⟩
        rw [show upG G (pbS s 0 b pt many) = (many, pt) from if_pos (show G.1 < many by omega)]
        exact e4
  | succ n ih =>
    intro b many hbn hm pt hpt G hGr c hM hs h49c hO
    have hpb := hpt b (by omega)
    have heb := (hI b (by omega)).2.2.2.1
    have hrec : ∀ pt', PTr pt' → (pbS s n (b + 1) pt' (many + 1)).1 ≤ 50 ∧ -1 ≤ (pbS s n (b + 1) pt' (many + 1)).1 := fun pt' hp' => by
      have := pbS_in (s := s) n (b + 1) pt' (many + 1) (by omega) hp' (by omega)
      exact ⟨this.2, this.1⟩
    have loop : ¬ (pt b ≠ -5 ∨ s (19 + b) = 1) → ∀ (m i : Nat), i + m = n → ∀ c, Mc c → c 44 = s → c 49 = f49 → MatR pt (upG G (pbF (fun pt' m => pbS s n (b + 1) pt' m) s b pt many i)) c → Ex (d + (n + 1) + 1) none t_X11_pairsFrom 0 88 [(1, ((43 : Nat) : Int)), (0, (b : Int)), (0, many), (0, ((b + 1 + i : Nat) : Int))] [] (wC h c) (fun r h2 => r = none ∧ ∃ c2, h2 = wC h c2 ∧ MatR pt (upG G (pbS s (n + 1) b pt many)) c2 ∧ Eqk P53 c c2) := by
      intro hnb m
      induction m with
      | zero =>
        intro i hi c hM hs h49c hO
        have hbin := pbF_in (rec := fun pt' m => pbS s n (b + 1) pt' m) (s := s) (many := many) (b := b) (by omega) hpt hrec i (by omega)
        have hUG : -1 ≤ (upG G (pbF (fun pt' m => pbS s n (b + 1) pt' m) s b pt many i)).1 ∧ (upG G (pbF (fun pt' m => pbS s n (b + 1) pt' m) s b pt many i)).1 ≤ 50 := by
          unfold upG
          split
          · exact hbin
          · exact hGr
        refine E_load rfl rfl rfl ?_
        refine E_load rfl rfl rfl ?_
        refine E_getr (c := 12) (r := 44) rfl (hL.lt 43 rfl) (hL.k 43 rfl) rfl hM.c1 ?_
        refine E_const rfl ?_
        refine E_ialn (n := 943) (v := (s 29)) rfl (hL.lt 44 rfl) (hL.k 44 rfl) (hL.l 44 rfl) (by omega) (rdS hs (by omega)) ?_
        refine E_cmp3 rfl (by omega) (fun q1 => ?_) (fun q1 => ?_)
        · refine E_load rfl rfl rfl ?_
          refine E_load rfl rfl rfl ?_
          refine E_const rfl ?_
          refine E_add rfl ?_
          refine E_load rfl rfl rfl ?_
          refine E_V2 (q := 43) (c := 12) (y := 196) rfl rfl (hL.lt 43 rfl) (hL.k 43 rfl) rfl rfl rfl rfl (ih (b + 1) many (by omega) (by omega) pt hpt _ hUG c hM hs h49c hO) (fun r h2 hq => ?_)
          obtain ⟨rfl, c_1, hh, hO_1, hE_1⟩ := hq
          subst hh
          have hM_1 := hM.p53 hE_1
          have hs_1 : c_1 44 = s := (hE_1.row 44 (fun _ => rfl)).trans hs
          have h49_1 : c_1 49 = f49 := (hE_1.row 49 (fun _ => rfl)).trans h49c
          refine E_vret rfl ?_
          refine ⟨rfl, c_1, rfl, ?_, hE_1⟩
          rw [pbS_s, if_neg hnb, ← upG_assoc, show n = i by omega]
          rw [show n = i by omega] at hO_1
          exact hO_1
        · exfalso; omega
      | succ m ihm =>
        intro i hi c hM hs h49c hO
        have hbin := pbF_in (rec := fun pt' m => pbS s n (b + 1) pt' m) (s := s) (many := many) (b := b) (by omega) hpt hrec i (by omega)
        have hUG : -1 ≤ (upG G (pbF (fun pt' m => pbS s n (b + 1) pt' m) s b pt many i)).1 ∧ (upG G (pbF (fun pt' m => pbS s n (b + 1) pt' m) s b pt many i)).1 ≤ 50 := by
          unfold upG
          split
          · exact hbin
          · exact hGr
        have hpq := hpt (b + 1 + i) (by omega)
        have heq := (hI (b + 1 + i) (by omega)).2.2.2.1
        have y1 := hG.bs (b := b) (by omega)
        have y2 := hG.bs (b := b + 1 + i) (by omega)
        have hpc := tl_peace hH
        have hsz : -1000 ≤ szI (syS s b + syS s (b + 1 + i)) ∧ szI (syS s b + syS s (b + 1 + i)) ≤ 1000 := by unfold szI; split <;> omega
        refine E_load rfl rfl rfl ?_
        refine E_load rfl rfl rfl ?_
        refine E_getr (c := 12) (r := 44) rfl (hL.lt 43 rfl) (hL.k 43 rfl) rfl hM.c1 ?_
        refine E_const rfl ?_
        refine E_ialn (n := 943) (v := (s 29)) rfl (hL.lt 44 rfl) (hL.k 44 rfl) (hL.l 44 rfl) (by omega) (rdS hs (by omega)) ?_
        refine E_cmp3 rfl (by omega) (fun q1 => ?_) (fun q1 => ?_)
        · exfalso; omega
        · refine E_load rfl rfl rfl ?_
          refine E_getr (c := 12) (r := 52) rfl (hL.lt 43 rfl) (hL.k 43 rfl) rfl hM.c16 ?_
          refine E_load rfl rfl rfl ?_
          refine E_ialn (n := 6) (v := (pt (b + 1 + i))) rfl (hL.lt 52 rfl) (hL.k 52 rfl) (hL.l 52 rfl) (by omega) ((rdS rfl (by omega)).trans (hO.1 _ (by omega))) ?_
          refine E_const rfl ?_
          refine E_cmp1 rfl (by omega) (fun q2 => ?_) (fun q2 => ?_)
          · refine E_iinc rfl rfl rfl ?_
            refine E_goto rfl ?_
            exact ihm (i + 1) (by omega) c hM hs h49c (by rw [pbF, if_neg (fun z => by have z2 := z.2.1; have z3 := z.2.2; omega)]; exact hO)
          · refine E_load rfl rfl rfl ?_
            refine E_getr (c := 12) (r := 44) rfl (hL.lt 43 rfl) (hL.k 43 rfl) rfl hM.c1 ?_
            refine E_const rfl ?_
            refine E_load rfl rfl rfl ?_
            refine E_add rfl ?_
            refine E_ialn (n := 943) (v := (s ((19 + (b + 1 + i))))) rfl (hL.lt 44 rfl) (hL.k 44 rfl) (hL.l 44 rfl) (by omega) (rdS hs (by omega)) ?_
            refine E_if1 rfl (by omega) (fun q3 => ?_) (fun q3 => ?_)
            · refine E_iinc rfl rfl rfl ?_
              refine E_goto rfl ?_
              exact ihm (i + 1) (by omega) c hM hs h49c (by rw [pbF, if_neg (fun z => by have z2 := z.2.1; have z3 := z.2.2; omega)]; exact hO)
            · refine E_load rfl rfl rfl ?_
              refine E_getr (c := 12) (r := 49) rfl (hL.lt 43 rfl) (hL.k 43 rfl) rfl hM.c12 ?_
              refine E_load rfl rfl rfl ?_
              refine E_ialn (n := 6) (v := (syS s b)) rfl (hL.lt 49 rfl) (hL.k 49 rfl) (hL.l 49 rfl) (by omega) ((rdS h49c (by omega)).trans (hsay b (by omega))) ?_
              refine E_load rfl rfl rfl ?_
              refine E_getr (c := 12) (r := 49) rfl (hL.lt 43 rfl) (hL.k 43 rfl) rfl hM.c12 ?_
              refine E_load rfl rfl rfl ?_
              refine E_ialn (n := 6) (v := (syS s (b + 1 + i))) rfl (hL.lt 49 rfl) (hL.k 49 rfl) (hL.l 49 rfl) (by omega) ((rdS h49c (by omega)).trans (hsay (b + 1 + i) (by omega))) ?_
              refine E_add rfl ?_
              refine E_S1 (y := 141) rfl rfl rfl rfl rfl (m_size (by omega)) (fun r h2 hq => ?_)
              obtain ⟨rfl, hh⟩ := hq
              subst hh
              refine E_load rfl rfl rfl ?_
              refine E_const rfl ?_
              refine E_const rfl ?_
              refine E_V2 (q := 43) (c := 12) (y := 164) rfl rfl (hL.lt 43 rfl) (hL.k 43 rfl) rfl rfl rfl rfl (n_tellsOf hL hM hs (by omega) hH) (fun r h2 hq => ?_)
              obtain ⟨rfl, hh⟩ := hq
              subst hh
              refine E_cmp4 rfl (by omega) (fun q4 => ?_) (fun q4 => ?_)
              · refine E_iinc rfl rfl rfl ?_
                refine E_goto rfl ?_
                exact ihm (i + 1) (by omega) c hM hs h49c (by rw [pbF, if_neg (fun z => by have z2 := z.2.1; have z3 := z.2.2; omega)]; exact hO)
              · refine E_load rfl rfl rfl ?_
                refine E_getr (c := 12) (r := 52) rfl (hL.lt 43 rfl) (hL.k 43 rfl) rfl hM.c16 ?_
                refine E_load rfl rfl rfl ?_
                refine E_load rfl rfl rfl ?_
                refine E_iasg (n := 6) (j := b) rfl (hL.lt 52 rfl) (hL.k 52 rfl) (hL.l 52 rfl) (by omega) (by omega) (fun c_1 hc_1 => ?_)
                have hE_1 : Eqk P53 c c_1 := by rw [hc_1]; exact Eqk.up rfl
                have hM_1 : Mc c_1 := by rw [hc_1]; exact hM.upo rfl
                have hs_1 : c_1 44 = s := by rw [hc_1]; exact (up2_oth rfl).trans hs
                refine E_load rfl rfl rfl ?_
                refine E_getr (c := 12) (r := 52) rfl (hL.lt 43 rfl) (hL.k 43 rfl) rfl hM_1.c16 ?_
                refine E_load rfl rfl rfl ?_
                refine E_load rfl rfl rfl ?_
                refine E_iasg (n := 6) (j := (b + 1 + i)) rfl (hL.lt 52 rfl) (hL.k 52 rfl) (hL.l 52 rfl) (by omega) (by omega) (fun c_2 hc_2 => ?_)
                have hE_2 : Eqk P53 c_1 c_2 := by rw [hc_2]; exact Eqk.up rfl
                have hM_2 : Mc c_2 := by rw [hc_2]; exact hM_1.upo rfl
                have hs_2 : c_2 44 = s := by rw [hc_2]; exact (up2_oth rfl).trans hs_1
                have hpt2 : PTr (upd1 (upd1 pt b ((b + 1 + i : Nat) : Int)) (b + 1 + i) (b : Int)) := (hpt.up (Or.inr (by omega))).up (Or.inr (by omega))
                have hO2 : MatR (upd1 (upd1 pt b ((b + 1 + i : Nat) : Int)) (b + 1 + i) (b : Int)) (upG G (pbF (fun pt' m => pbS s n (b + 1) pt' m) s b pt many i)) c_2 := by
                  refine ⟨fun j hj => ?_, ?_, fun j hj => ?_⟩
                  · rw [hc_2, up2_row, hc_1, up2_row]
                    unfold upd1
                    by_cases e : j = b + 1 + i
                    · rw [if_pos e, if_pos e]
                    · rw [if_neg e, if_neg e]
                      by_cases e2 : j = b
                      · rw [if_pos e2, if_pos e2]
                      · rw [if_neg e2, if_neg e2]; exact hO.1 j hj
                  · rw [hc_2, up2_fld rfl, hc_1, up2_fld rfl]; exact hO.2.1
                  · rw [hc_2, up2_oth rfl, hc_1, up2_oth rfl]; exact hO.2.2 j hj
                have h49_2 : c_2 49 = f49 := by rw [hc_2, up2_oth rfl, hc_1, up2_oth rfl]; exact h49c
                refine E_load rfl rfl rfl ?_
                refine E_load rfl rfl rfl ?_
                refine E_const rfl ?_
                refine E_add rfl ?_
                refine E_load rfl rfl rfl ?_
                refine E_const rfl ?_
                refine E_add rfl ?_
                refine E_V2 (q := 43) (c := 12) (y := 196) rfl rfl (hL.lt 43 rfl) (hL.k 43 rfl) rfl rfl rfl rfl (ih (b + 1) (many + 1) (by omega) (by omega) _ hpt2 _ hUG c_2 hM_2 hs_2 h49_2 hO2) (fun r h2 hq => ?_)
                obtain ⟨rfl, c_3, hh, hO_3, hE_3⟩ := hq
                subst hh
                have hM_3 := hM_2.p53 hE_3
                have hs_3 : c_3 44 = s := (hE_3.row 44 (fun _ => rfl)).trans hs_2
                have h49_3 : c_3 49 = f49 := (hE_3.row 49 (fun _ => rfl)).trans h49_2
                refine E_load rfl rfl rfl ?_
                refine E_getr (c := 12) (r := 52) rfl (hL.lt 43 rfl) (hL.k 43 rfl) rfl hM_3.c16 ?_
                refine E_load rfl rfl rfl ?_
                refine E_const rfl ?_
                refine E_iasg (n := 6) (j := b) rfl (hL.lt 52 rfl) (hL.k 52 rfl) (hL.l 52 rfl) (by omega) (by omega) (fun c_4 hc_4 => ?_)
                have hE_4 : Eqk P53 c_3 c_4 := by rw [hc_4]; exact Eqk.up rfl
                have hM_4 : Mc c_4 := by rw [hc_4]; exact hM_3.upo rfl
                have hs_4 : c_4 44 = s := by rw [hc_4]; exact (up2_oth rfl).trans hs_3
                refine E_load rfl rfl rfl ?_
                refine E_getr (c := 12) (r := 52) rfl (hL.lt 43 rfl) (hL.k 43 rfl) rfl hM_4.c16 ?_
                refine E_load rfl rfl rfl ?_
                refine E_const rfl ?_
                refine E_iasg (n := 6) (j := (b + 1 + i)) rfl (hL.lt 52 rfl) (hL.k 52 rfl) (hL.l 52 rfl) (by omega) (by omega) (fun c_5 hc_5 => ?_)
                have hE_5 : Eqk P53 c_4 c_5 := by rw [hc_5]; exact Eqk.up rfl
                have hM_5 : Mc c_5 := by rw [hc_5]; exact hM_4.upo rfl
                have hs_5 : c_5 44 = s := by rw [hc_5]; exact (up2_oth rfl).trans hs_4
                refine E_iinc rfl rfl rfl ?_
                refine E_goto rfl ?_
                refine (ihm (i + 1) (by omega) c_5 hM_5 hs_5 ?_ ?_).mono ?_
                · rw [hc_5, up2_oth rfl, hc_4, up2_oth rfl]; exact h49_3
                · rw [pbF, if_pos ⟨by omega, by omega, by omega⟩, ← upG_assoc]
                  refine ⟨fun j hj => ?_, ?_, fun j hj => ?_⟩
                  · rw [hc_5, up2_row, hc_4, up2_row]
                    have h52 := hO_3.1 j hj
                    unfold upd1 at h52 ⊢
                    by_cases e : j = b + 1 + i
                    · rw [if_pos e, e]; omega
                    · rw [if_neg e]
                      rw [if_neg e] at h52
                      by_cases e2 : j = b
                      · rw [if_pos e2, e2]; omega
                      · rw [if_neg e2]
                        rw [if_neg e2] at h52
                        exact h52
                  · rw [hc_5, up2_fld rfl, hc_4, up2_fld rfl]; exact hO_3.2.1
                  · rw [hc_5, up2_oth rfl, hc_4, up2_oth rfl]; exact hO_3.2.2 j hj
                rintro r hE ⟨e1, c9, e2, e4, e3⟩
                exact ⟨e1, c9, e2, e4, Eqk.trans (hE_1.trans (hE_2.trans (hE_3.trans (hE_4.trans hE_5)))) e3⟩
    show Ex _ none t_X11_pairsFrom 0 0 _ [] (wC h c) _
    refine E_load rfl rfl rfl ?_
    refine E_load rfl rfl rfl ?_
    refine E_getr (c := 12) (r := 44) rfl (hL.lt 43 rfl) (hL.k 43 rfl) rfl hM.c1 ?_
    refine E_const rfl ?_
    refine E_ialn (n := 943) (v := (s 29)) rfl (hL.lt 44 rfl) (hL.k 44 rfl) (hL.l 44 rfl) (by omega) (rdS hs (by omega)) ?_
    refine E_cmp1 rfl (by omega) (fun q1 => ?_) (fun q1 => ?_)
    · refine E_load rfl rfl rfl ?_
      refine E_getr (c := 12) (r := 52) rfl (hL.lt 43 rfl) (hL.k 43 rfl) rfl hM.c16 ?_
      refine E_load rfl rfl rfl ?_
      refine E_ialn (n := 6) (v := (pt b)) rfl (hL.lt 52 rfl) (hL.k 52 rfl) (hL.l 52 rfl) (by omega) ((rdS rfl (by omega)).trans (hO.1 _ (by omega))) ?_
      refine E_const rfl ?_
      refine E_cmp1 rfl (by omega) (fun q2 => ?_) (fun q2 => ?_)
      · refine E_load rfl rfl rfl ?_
        refine E_load rfl rfl rfl ?_
        refine E_const rfl ?_
        refine E_add rfl ?_
        refine E_load rfl rfl rfl ?_
        refine E_V2 (q := 43) (c := 12) (y := 196) rfl rfl (hL.lt 43 rfl) (hL.k 43 rfl) rfl rfl rfl rfl (ih (b + 1) many (by omega) (by omega) pt hpt G hGr c hM hs h49c hO) (fun r h2 hq => ?_)
        obtain ⟨rfl, c_1, hh, hO_1, hE_1⟩ := hq
        subst hh
        have hM_1 := hM.p53 hE_1
        have hs_1 : c_1 44 = s := (hE_1.row 44 (fun _ => rfl)).trans hs
        have h49_1 : c_1 49 = f49 := (hE_1.row 49 (fun _ => rfl)).trans h49c
        refine E_vret rfl ?_
        refine ⟨rfl, c_1, rfl, ?_, hE_1⟩
        rw [pbS_s, if_pos (by omega)]
        exact hO_1
      · refine E_load rfl rfl rfl ?_
        refine E_getr (c := 12) (r := 44) rfl (hL.lt 43 rfl) (hL.k 43 rfl) rfl hM.c1 ?_
        refine E_const rfl ?_
        refine E_load rfl rfl rfl ?_
        refine E_add rfl ?_
        refine E_ialn (n := 943) (v := (s ((19 + b)))) rfl (hL.lt 44 rfl) (hL.k 44 rfl) (hL.l 44 rfl) (by omega) (rdS hs (by omega)) ?_
        refine E_const rfl ?_
        refine E_cmp1 rfl (by omega) (fun q3 => ?_) (fun q3 => ?_)
        · refine E_load rfl rfl rfl ?_
          refine E_const rfl ?_
          refine E_add rfl ?_
          refine E_store rfl rfl rfl ?_
          refine loop (by omega) _ 0 (Nat.zero_add _) c hM hs h49c ?_
          rw [show upG G (pbF (fun pt' m => pbS s n (b + 1) pt' m) s b pt many 0) = G from if_neg (show ¬ G.1 < -1 by omega)]
          exact hO
        · refine E_load rfl rfl rfl ?_
          refine E_load rfl rfl rfl ?_
          refine E_const rfl ?_
          refine E_add rfl ?_
          refine E_load rfl rfl rfl ?_
          refine E_V2 (q := 43) (c := 12) (y := 196) rfl rfl (hL.lt 43 rfl) (hL.k 43 rfl) rfl rfl rfl rfl (ih (b + 1) many (by omega) (by omega) pt hpt G hGr c hM hs h49c hO) (fun r h2 hq => ?_)
          obtain ⟨rfl, c_2, hh, hO_2, hE_2⟩ := hq
          subst hh
          have hM_2 := hM.p53 hE_2
          have hs_2 : c_2 44 = s := (hE_2.row 44 (fun _ => rfl)).trans hs
          have h49_2 : c_2 49 = f49 := (hE_2.row 49 (fun _ => rfl)).trans h49c
          refine E_vret rfl ?_
          refine ⟨rfl, c_2, rfl, ?_, hE_2⟩
          rw [pbS_s, if_pos (by omega)]
          exact hO_2
    · exfalso; omega
