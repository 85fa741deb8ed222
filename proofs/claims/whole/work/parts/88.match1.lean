/-! MATCH: the most pairs of a set, and who is whose, by bits -/
abbrev pcC (s : Nat → Int) (b q : Nat) : Prop := szI (syS s b + syS s q) ≤ tlI s 233 5
def mpF (s : Nat → Int) (rec : Nat → Int) (b r : Nat) : Nat → Int
  | 0 => rec r
  | i + 1 => if bt r (b + 1 + i) = 1 ∧ pcC s b (b + 1 + i) then (if mpF s rec b r i < 1 + rec (r - 2 ^ (b + 1 + i)) then 1 + rec (r - 2 ^ (b + 1 + i)) else mpF s rec b r i) else mpF s rec b r i
def mpS (s : Nat → Int) : Nat → Nat → Nat → Int
  | 0 => fun _ _ => 0
  | n + 1 => fun b x => if bt x b = 1 then mpF s (mpS s n (b + 1)) b (x - 2 ^ b) n else mpS s n (b + 1) x
def lpN (s : Nat → Int) (rec : Nat → Int) (b r : Nat) (tot : Int) : Nat → Nat → Int
  | 0, _ => -5
  | k + 1, q => if bt r q = 1 ∧ pcC s b q ∧ 1 + rec (r - 2 ^ q) = tot then (q : Int) else lpN s rec b r tot k (q + 1)
/-- the partner of b in x, where n are behind b; what is left then -/
def ptS (s : Nat → Int) (n b x : Nat) : Int := if bt x b = 1 then lpN s (mpS s n (b + 1)) b (x - 2 ^ b) (mpS s (n + 1) b x) n (b + 1) else -5
def lfS (b x : Nat) (p : Int) : Nat := if p = -5 then (if bt x b = 1 then x - 2 ^ b else x) else (if bt x b = 1 then x - 2 ^ b else x) - 2 ^ p.toNat
def grS (s : Nat → Int) : Nat → Nat → Nat → Nat → Int
  | 0 => fun _ _ _ => -5
  | n + 1 => fun b x w => if w = b then ptS s n b x else if ptS s n b x = (w : Int) then (b : Int) else grS s n (b + 1) (lfS b x (ptS s n b x)) w
theorem bt_tk {x b j : Nat} (hx : x < 64) (hb : b < 6) (h : bt x b = 1) (hj : j < 6) : bt (x - 2 ^ b) j = if j = b then 0 else bt x j := (takeB hx hb h).2 j hj
theorem mpF_t {s : Nat → Int} {rec : Nat → Int} {b r i : Nat} (h : bt r (b + 1 + i) = 1 ∧ pcC s b (b + 1 + i)) : mpF s rec b r (i + 1) = if mpF s rec b r i < 1 + rec (r - 2 ^ (b + 1 + i)) then 1 + rec (r - 2 ^ (b + 1 + i)) else mpF s rec b r i := if_pos h
theorem mpF_f {s : Nat → Int} {rec : Nat → Int} {b r i : Nat} (h : ¬ (bt r (b + 1 + i) = 1 ∧ pcC s b (b + 1 + i))) : mpF s rec b r (i + 1) = mpF s rec b r i := if_neg h
theorem mpS_t {s : Nat → Int} {n b x : Nat} (h : bt x b = 1) : mpS s (n + 1) b x = mpF s (mpS s n (b + 1)) b (x - 2 ^ b) n := if_pos h
theorem mpS_f {s : Nat → Int} {n b x : Nat} (h : ¬ bt x b = 1) : mpS s (n + 1) b x = mpS s n (b + 1) x := if_neg h
theorem mpF_in {s : Nat → Int} {rec : Nat → Int} {m : Int} (hr : ∀ y, 0 ≤ rec y ∧ rec y ≤ m) {b r : Nat} : ∀ i, 0 ≤ mpF s rec b r i ∧ mpF s rec b r i ≤ m + 1
  | 0 => by have := hr r; show 0 ≤ rec r ∧ rec r ≤ m + 1; omega
  | i + 1 => by
    have ih := mpF_in (s := s) hr (b := b) (r := r) i
    have h2 := hr (r - 2 ^ (b + 1 + i))
    by_cases h : bt r (b + 1 + i) = 1 ∧ pcC s b (b + 1 + i)
    · rw [mpF_t h]
      split <;> omega
    · rw [mpF_f h]; exact ih
theorem mpS_in {s : Nat → Int} : ∀ (n b x : Nat), 0 ≤ mpS s n b x ∧ mpS s n b x ≤ (n : Int)
  | 0, _, _ => ⟨Int.le_refl _, Int.le_refl _⟩
  | n + 1, b, x => by
    have ih := mpS_in (s := s) n (b + 1)
    by_cases h : bt x b = 1
    · rw [mpS_t h]
      have := mpF_in (s := s) ih (b := b) (r := x - 2 ^ b) n
      omega
    · rw [mpS_f h]
      have := ih x
      omega
def AVP (s pt : Nat → Int) (b N x : Nat) : Prop := x < 64 ∧ ∀ j, b ≤ j → j < N → (bt x j = 1 ↔ pt j = -5 ∧ s (19 + j) = 0)
theorem AVP.n {s pt : Nat → Int} {b N x : Nat} (h : AVP s pt b N x) : AVP s pt (b + 1) N x := ⟨h.1, fun j h1 h2 => h.2 j (by omega) h2⟩
theorem AVP.u {s pt : Nat → Int} {b N x : Nat} (h : AVP s pt b N x) (hN : N ≤ 6) (hb : b < N) (h1 : bt x b = 1) : AVP s pt (b + 1) N (x - 2 ^ b) := by
  refine ⟨Nat.lt_of_le_of_lt (Nat.sub_le _ _) h.1, fun j h2 h3 => ?_⟩
  rw [bt_tk h.1 (by omega) h1 (by omega), if_neg (by omega)]
  exact h.2 j (by omega) h3
theorem AVP.v {s pt : Nat → Int} {b N x q : Nat} (h : AVP s pt b N x) (hN : N ≤ 6) (hb : b < N) (h1 : bt x b = 1) (hq : b + 1 ≤ q) (hqN : q < N) (h2 : bt (x - 2 ^ b) q = 1) : AVP s (upd1 (upd1 pt b (q : Int)) q (b : Int)) (b + 1) N (x - 2 ^ b - 2 ^ q) := by
  have hu := h.u hN hb h1
  refine ⟨Nat.lt_of_le_of_lt (Nat.sub_le _ _) hu.1, fun j h3 h4 => ?_⟩
  rw [bt_tk hu.1 (by omega) h2 (by omega)]
  by_cases e : j = q
  · subst e
    rw [if_pos rfl, upd1_same]
    constructor
    · intro z; omega
    · rintro ⟨z, -⟩; omega
  · rw [if_neg e, upd1_ne e, upd1_ne (by omega)]
    exact hu.2 j h3 h4
theorem upG_1 (a b : GR) : (upG a b).1 = if a.1 < b.1 then b.1 else a.1 := by unfold upG; split <;> rfl
theorem pbF_t {rec : (Nat → Int) → Int → GR} {s : Nat → Int} {b : Nat} {pt : Nat → Int} {many : Int} {i : Nat} (h : pt (b + 1 + i) = -5 ∧ s (19 + (b + 1 + i)) = 0 ∧ szI (syS s b + syS s (b + 1 + i)) ≤ tlI s 233 5) : pbF rec s b pt many (i + 1) = upG (pbF rec s b pt many i) (rec (upd1 (upd1 pt b ((b + 1 + i : Nat) : Int)) (b + 1 + i) (b : Int)) (many + 1)) := if_pos h
theorem pbF_f {rec : (Nat → Int) → Int → GR} {s : Nat → Int} {b : Nat} {pt : Nat → Int} {many : Int} {i : Nat} (h : ¬ (pt (b + 1 + i) = -5 ∧ s (19 + (b + 1 + i)) = 0 ∧ szI (syS s b + syS s (b + 1 + i)) ≤ tlI s 233 5)) : pbF rec s b pt many (i + 1) = pbF rec s b pt many i := if_neg h
theorem AVP.c {s pt : Nat → Int} {b N x i : Nat} (h : AVP s pt b N x) (hN : N ≤ 6) (h1 : bt x b = 1) (hi : b + 1 + i < N) : (pt (b + 1 + i) = -5 ∧ s (19 + (b + 1 + i)) = 0 ∧ szI (syS s b + syS s (b + 1 + i)) ≤ tlI s 233 5) ↔ (bt (x - 2 ^ b) (b + 1 + i) = 1 ∧ pcC s b (b + 1 + i)) := by
  have h2 := (h.u hN (by omega) h1).2 (b + 1 + i) (by omega) hi
  rw [h2]
  exact ⟨fun z => ⟨⟨z.1, z.2.1⟩, z.2.2⟩, fun z => ⟨z.1.1, z.1.2, z.2⟩⟩
theorem pb_max {s : Nat → Int} {N : Nat} (hN : N ≤ 6) {rec : (Nat → Int) → Int → GR} {n b : Nat} {pt : Nat → Int} {many : Int} {x : Nat} {U : GR} (hbn : b + 1 + n = N) (hA : AVP s pt b N x) (h1 : bt x b = 1) (hm : 0 ≤ many) (hU : U.1 = many + mpS s n (b + 1) (x - 2 ^ b)) (hV : ∀ q, b + 1 ≤ q → q < N → bt (x - 2 ^ b) q = 1 → (rec (upd1 (upd1 pt b (q : Int)) q (b : Int)) (many + 1)).1 = many + 1 + mpS s n (b + 1) (x - 2 ^ b - 2 ^ q)) : ∀ i, i ≤ n → (upG (pbF rec s b pt many i) U).1 = many + mpF s (mpS s n (b + 1)) b (x - 2 ^ b) i
  | 0, _ => by
    have := (mpS_in (s := s) n (b + 1) (x - 2 ^ b)).1
    rw [upG_1]
    show (if (-1 : Int) < U.1 then U.1 else -1) = many + mpS s n (b + 1) (x - 2 ^ b)
    rw [if_pos (by omega)]; exact hU
  | i + 1, hi => by
    have ih := pb_max hN hbn hA h1 hm hU hV i (by omega)
    have hc := hA.c hN h1 (i := i) (by omega)
    by_cases h : bt (x - 2 ^ b) (b + 1 + i) = 1 ∧ pcC s b (b + 1 + i)
    · rw [pbF_t (hc.mpr h), mpF_t h]
      have hv := hV (b + 1 + i) (by omega) (by omega) h.1
      rw [upG_1] at ih
      rw [upG_1, upG_1, hv]
      generalize mpF s (mpS s n (b + 1)) b (x - 2 ^ b) i = y at *
      generalize mpS s n (b + 1) (x - 2 ^ b - 2 ^ (b + 1 + i)) = z at *
      generalize (pbF rec s b pt many i).1 = f at *
      generalize U.1 = u at *
      split at ih <;> (repeat' split) <;> omega
    · rw [pbF_f (fun z => h (hc.mp z)), mpF_f h]; exact ih
theorem pb_many {s : Nat → Int} (hI : InvB s) {N : Nat} (hN : N ≤ 6) : ∀ (n b : Nat) (pt : Nat → Int) (many : Int) (x : Nat), b + n = N → AVP s pt b N x → 0 ≤ many → (pbS s n b pt many).1 = many + mpS s n b x
  | 0, _, _, many, _, _, _, _ => by show many = many + 0; omega
  | n + 1, b, pt, many, x, hbn, hA, hm => by
    have heb := (hI b (by omega)).2.2.2.1
    have hb0 := hA.2 b (Nat.le_refl b) (by omega)
    rw [pbS_s]
    by_cases h1 : bt x b = 1
    · have h2 := hb0.mp h1
      rw [if_neg (by omega), mpS_t h1]
      exact pb_max hN (by omega) hA h1 hm (pb_many hI hN n (b + 1) pt many _ (by omega) (hA.u hN (by omega) h1) hm) (fun q h3 h4 h5 => pb_many hI hN n (b + 1) _ (many + 1) _ (by omega) (hA.v hN (by omega) h1 h3 h4 h5) (by omega)) n (Nat.le_refl n)
    · have h2 : ¬ (pt b = -5 ∧ s (19 + b) = 0) := fun z => h1 (hb0.mpr z)
      rw [if_pos (by omega), mpS_f h1]
      exact pb_many hI hN n (b + 1) pt many x (by omega) hA.n hm
/-- whom a way has paired it leaves paired -/
theorem pbF_keep {rec : (Nat → Int) → Int → GR} {s : Nat → Int} {b : Nat} {pt : Nat → Int} {many : Int} {j : Nat} (hb : pt b = -5) (hj : j < b ∨ pt j ≠ -5) (hr : ∀ pt' m, (j < b + 1 ∨ pt' j ≠ -5) → (rec pt' m).2 j = pt' j) : ∀ i, (pbF rec s b pt many i).2 j = pt j
  | 0 => rfl
  | i + 1 => by
    have ih := pbF_keep (s := s) (many := many) hb hj hr i
    by_cases h : pt (b + 1 + i) = -5 ∧ s (19 + (b + 1 + i)) = 0 ∧ szI (syS s b + syS s (b + 1 + i)) ≤ tlI s 233 5
    · rw [pbF_t h]
      unfold upG
      split
      · have e1 : j ≠ b := by rintro rfl; omega
        have e2 : j ≠ b + 1 + i := by rintro rfl; omega
        have e3 : upd1 (upd1 pt b ((b + 1 + i : Nat) : Int)) (b + 1 + i) (b : Int) j = pt j := by rw [upd1_ne e2, upd1_ne e1]
        rw [hr _ _ (by rw [e3]; omega), e3]
      · exact ih
    · rw [pbF_f h]; exact ih
theorem pbS_keep {s : Nat → Int} : ∀ (n b : Nat) (pt : Nat → Int) (many : Int) (j : Nat), (j < b ∨ pt j ≠ -5) → (pbS s n b pt many).2 j = pt j
  | 0, _, _, _, _, _ => rfl
  | n + 1, b, pt, many, j, hj => by
    have h0 := pbS_keep (s := s) n (b + 1) pt many j (by omega)
    rw [pbS_s]
    by_cases hb : pt b ≠ -5 ∨ s (19 + b) = 1
    · rw [if_pos hb]; exact h0
    · rw [if_neg hb]
      unfold upG
      split
      · exact h0
      · exact pbF_keep (by omega) hj (fun pt' m h => pbS_keep n (b + 1) pt' m j h) n
theorem lpN_none {s : Nat → Int} {rec : Nat → Int} {b r : Nat} {tot : Int} : ∀ (k q : Nat), (∀ i, i < k → ¬ (bt r (q + i) = 1 ∧ pcC s b (q + i) ∧ 1 + rec (r - 2 ^ (q + i)) = tot)) → lpN s rec b r tot k q = -5
  | 0, _, _ => rfl
  | k + 1, q, h => by
    have h0 : ¬ (bt r q = 1 ∧ pcC s b q ∧ 1 + rec (r - 2 ^ q) = tot) := h 0 (by omega)
    rw [lpN, if_neg h0]
    exact lpN_none k (q + 1) fun i hi => by rw [show q + 1 + i = q + (i + 1) by omega]; exact h (i + 1) (by omega)
theorem lpN_some {s : Nat → Int} {rec : Nat → Int} {b r : Nat} {tot : Int} : ∀ (k q i : Nat), i < k → (bt r (q + i) = 1 ∧ pcC s b (q + i) ∧ 1 + rec (r - 2 ^ (q + i)) = tot) → (∀ j, j < i → ¬ (bt r (q + j) = 1 ∧ pcC s b (q + j) ∧ 1 + rec (r - 2 ^ (q + j)) = tot)) → lpN s rec b r tot k q = ((q + i : Nat) : Int)
  | 0, _, i, h, _, _ => absurd h (Nat.not_lt_zero i)
  | k + 1, q, 0, _, h, _ => by
    have h : bt r q = 1 ∧ pcC s b q ∧ 1 + rec (r - 2 ^ q) = tot := h
    rw [lpN, if_pos h]; rfl
  | k + 1, q, i + 1, hi, h, hn => by
    have h0 : ¬ (bt r q = 1 ∧ pcC s b q ∧ 1 + rec (r - 2 ^ q) = tot) := hn 0 (by omega)
    rw [lpN, if_neg h0, lpN_some k (q + 1) i (by omega) (by rw [show q + 1 + i = q + (i + 1) by omega]; exact h) fun j hj => by rw [show q + 1 + j = q + (j + 1) by omega]; exact hn (j + 1) (by omega)]
    congr 1
    omega
/-- the first that is greatest -/
theorem pbF_sel {rec : (Nat → Int) → Int → GR} {s : Nat → Int} {b : Nat} {pt : Nat → Int} {many : Int} (C : Nat → Prop) (hC : ∀ i, C i ↔ (pt (b + 1 + i) = -5 ∧ s (19 + (b + 1 + i)) = 0 ∧ szI (syS s b + syS s (b + 1 + i)) ≤ tlI s 233 5)) (V : Nat → GR) (hV : ∀ i, V i = rec (upd1 (upd1 pt b ((b + 1 + i : Nat) : Int)) (b + 1 + i) (b : Int)) (many + 1)) : ∀ n, (∀ i, i < n → C i → -1 < (V i).1) → (pbF rec s b pt many n = (-1, pt) ∧ ∀ i, i < n → ¬ C i) ∨ ∃ j, j < n ∧ C j ∧ pbF rec s b pt many n = V j ∧ (∀ i, i < n → C i → (V i).1 ≤ (V j).1) ∧ ∀ i, i < j → C i → (V i).1 < (V j).1
  | 0, _ => Or.inl ⟨rfl, fun i hi => absurd hi (Nat.not_lt_zero i)⟩
  | n + 1, hg => by
    have ih := pbF_sel (rec := rec) (s := s) (b := b) (pt := pt) (many := many) C hC V hV n (fun i hi => hg i (by omega))
    by_cases h : C n
    · rw [pbF_t ((hC n).mp h), ← hV n]
      have h0 := hg n (by omega) h
      rcases ih with ⟨e, hn⟩ | ⟨j, hj, hcj, e, h1, h2⟩
      · refine Or.inr ⟨n, by omega, h, ?_, fun i hi hc => ?_, fun i hi hc => absurd hc (hn i hi)⟩
        · rw [e]; exact if_pos h0
        · by_cases e2 : i = n
          · subst e2; exact Int.le_refl _
          · exact absurd hc (hn i (by omega))
      · by_cases hl : (V j).1 < (V n).1
        · refine Or.inr ⟨n, by omega, h, ?_, fun i hi hc => ?_, fun i hi hc => ?_⟩
          · rw [e]; exact if_pos hl
          · by_cases e2 : i = n
            · subst e2; exact Int.le_refl _
            · have := h1 i (by omega) hc; omega
          · have := h1 i (by omega) hc; omega
        · refine Or.inr ⟨j, by omega, hcj, ?_, fun i hi hc => ?_, h2⟩
          · rw [e]; exact if_neg hl
          · by_cases e2 : i = n
            · subst e2; omega
            · exact h1 i (by omega) hc
    · rw [pbF_f (fun z => h ((hC n).mpr z))]
      rcases ih with ⟨e, hn⟩ | ⟨j, hj, hcj, e, h1, h2⟩
      · refine Or.inl ⟨e, fun i hi hc => ?_⟩
        by_cases e2 : i = n
        · subst e2; exact h hc
        · exact hn i (by omega) hc
      · refine Or.inr ⟨j, by omega, hcj, e, fun i hi hc => ?_, h2⟩
        by_cases e2 : i = n
        · subst e2; exact absurd hc h
        · exact h1 i (by omega) hc
theorem grS_s {s : Nat → Int} {n b x w : Nat} : grS s (n + 1) b x w = if w = b then ptS s n b x else if ptS s n b x = (w : Int) then (b : Int) else grS s n (b + 1) (lfS b x (ptS s n b x)) w := rfl
theorem pb_who {s : Nat → Int} (hI : InvB s) {N : Nat} (hN : N ≤ 6) : ∀ (n b : Nat) (pt : Nat → Int) (many : Int) (x w : Nat), b + n = N → AVP s pt b N x → 0 ≤ many → b ≤ w → w < N → pt w = -5 → (pbS s n b pt many).2 w = grS s n b x w
  | 0, b, _, _, _, w, hbn, _, _, h1, h2, _ => by omega
  | n + 1, b, pt, many, x, w, hbn, hA, hm, hw, hwN, hpw => by
    have heb := (hI b (by omega)).2.2.2.1
    have hb0 := hA.2 b (Nat.le_refl b) (by omega)
    rw [pbS_s, grS_s]
    by_cases h1 : bt x b = 1
    · have h2 := hb0.mp h1
      have hAu := hA.u hN (by omega) h1
      have hU := pb_many hI hN n (b + 1) pt many _ (by omega) hAu hm
      have hVq := fun q h3 h4 h5 => pb_many hI hN n (b + 1) _ (many + 1) _ (by omega) (hA.v (q := q) hN (by omega) h1 h3 h4 h5) (by omega)
      have hT := pb_max (rec := fun pt' m => pbS s n (b + 1) pt' m) hN (by omega) hA h1 hm hU hVq n (Nat.le_refl n)
      rw [← mpS_t h1] at hT
      rw [if_neg (by omega)]
      have hx1 : lfS b x (-5) = x - 2 ^ b := by unfold lfS; rw [if_pos rfl, if_pos h1]
      have hp : ptS s n b x = lpN s (mpS s n (b + 1)) b (x - 2 ^ b) (mpS s (n + 1) b x) n (b + 1) := if_pos h1
      have sel := pbF_sel (rec := fun pt' m => pbS s n (b + 1) pt' m) (s := s) (b := b) (pt := pt) (many := many) (fun i => (pt (b + 1 + i) = -5 ∧ s (19 + (b + 1 + i)) = 0 ∧ szI (syS s b + syS s (b + 1 + i)) ≤ tlI s 233 5)) (fun i => Iff.rfl) (fun i => pbS s n (b + 1) (upd1 (upd1 pt b ((b + 1 + i : Nat) : Int)) (b + 1 + i) (b : Int)) (many + 1)) (fun i => rfl) n (fun i hi hc => by
        have hc2 := (hA.c hN h1 (by omega)).mp hc
        have := hVq (b + 1 + i) (by omega) (by omega) hc2.1
        have h0 := (mpS_in (s := s) n (b + 1) (x - 2 ^ b - 2 ^ (b + 1 + i))).1
        show -1 < (pbS s n (b + 1) _ (many + 1)).1
        omega)
      by_cases hl : (pbF (fun pt' m => pbS s n (b + 1) pt' m) s b pt many n).1 < (pbS s n (b + 1) pt many).1
      · have hno : ptS s n b x = -5 := by
          rw [hp]
          refine lpN_none n (b + 1) fun i hi hc => ?_
          have hv := hVq (b + 1 + i) (by omega) (by omega) hc.1
          rw [upG_1, if_pos hl] at hT
          rcases sel with ⟨e, hn⟩ | ⟨j, hj, hcj, e, h3, h4⟩
          · exact hn i hi ((hA.c hN h1 (by omega)).mpr ⟨hc.1, hc.2.1⟩)
          · have := h3 i hi ((hA.c hN h1 (by omega)).mpr ⟨hc.1, hc.2.1⟩)
            rw [e] at hl
            have hc3 := hc.2.2
            have this2 : (pbS s n (b + 1) (upd1 (upd1 pt b ((b + 1 + i : Nat) : Int)) (b + 1 + i) (b : Int)) (many + 1)).1 ≤ (pbS s n (b + 1) (upd1 (upd1 pt b ((b + 1 + j : Nat) : Int)) (b + 1 + j) (b : Int)) (many + 1)).1 := this
            have hl2 : (pbS s n (b + 1) (upd1 (upd1 pt b ((b + 1 + j : Nat) : Int)) (b + 1 + j) (b : Int)) (many + 1)).1 < (pbS s n (b + 1) pt many).1 := hl
            omega
        rw [show upG (pbF (fun pt' m => pbS s n (b + 1) pt' m) s b pt many n) (pbS s n (b + 1) pt many) = pbS s n (b + 1) pt many from if_pos hl, hno, hx1]
        by_cases e : w = b
        · subst e
          rw [if_pos rfl, pbS_keep n (w + 1) pt many w (by omega)]; exact hpw
        · rw [if_neg e, if_neg (by omega)]
          exact pb_who hI hN n (b + 1) pt many _ w (by omega) hAu hm (by omega) hwN hpw
      · rw [show upG (pbF (fun pt' m => pbS s n (b + 1) pt' m) s b pt many n) (pbS s n (b + 1) pt many) = pbF (fun pt' m => pbS s n (b + 1) pt' m) s b pt many n from if_neg hl]
        rw [upG_1, if_neg hl] at hT
        rcases sel with ⟨e, hn⟩ | ⟨j, hj, hcj, e, h3, h4⟩
        · exfalso
          rw [e] at hl
          have h0 := (mpS_in (s := s) n (b + 1) (x - 2 ^ b)).1
          have hl2 : ¬ (-1 : Int) < (pbS s n (b + 1) pt many).1 := hl
          omega
        · have hc2 := (hA.c hN h1 (by omega)).mp hcj
          have hvj := hVq (b + 1 + j) (by omega) (by omega) hc2.1
          rw [e] at hT
          have hT2 : (pbS s n (b + 1) (upd1 (upd1 pt b ((b + 1 + j : Nat) : Int)) (b + 1 + j) (b : Int)) (many + 1)).1 = many + mpS s (n + 1) b x := hT
          have hyes : ptS s n b x = ((b + 1 + j : Nat) : Int) := by
            rw [hp]
            refine lpN_some n (b + 1) j hj ⟨hc2.1, hc2.2, by omega⟩ fun i hi hc => ?_
            have hv := hVq (b + 1 + i) (by omega) (by omega) hc.1
            have h5 := h4 i hi ((hA.c hN h1 (by omega)).mpr ⟨hc.1, hc.2.1⟩)
            have h6 : (pbS s n (b + 1) (upd1 (upd1 pt b ((b + 1 + i : Nat) : Int)) (b + 1 + i) (b : Int)) (many + 1)).1 < (pbS s n (b + 1) (upd1 (upd1 pt b ((b + 1 + j : Nat) : Int)) (b + 1 + j) (b : Int)) (many + 1)).1 := h5
            have hc3 := hc.2.2
            omega
          have hx2 : lfS b x ((b + 1 + j : Nat) : Int) = x - 2 ^ b - 2 ^ (b + 1 + j) := by unfold lfS; rw [if_neg (by omega), if_pos h1]; rfl
          rw [e, hyes, hx2]
          show (pbS s n (b + 1) (upd1 (upd1 pt b ((b + 1 + j : Nat) : Int)) (b + 1 + j) (b : Int)) (many + 1)).2 w = _
          by_cases e1 : w = b
          · subst e1
            rw [if_pos rfl, pbS_keep n (w + 1) _ _ w (by omega), upd1_ne (by omega), upd1_same]
          · rw [if_neg e1]
            by_cases e2 : w = b + 1 + j
            · rw [if_pos (by omega), pbS_keep n (b + 1) _ _ w (by rw [e2, upd1_same]; omega), e2, upd1_same]
            · rw [if_neg (by omega)]
              exact pb_who hI hN n (b + 1) _ (many + 1) _ w (by omega) (hA.v hN (by omega) h1 (by omega) (by omega) hc2.1) (by omega) (by omega) hwN (by rw [upd1_ne e2, upd1_ne e1]; exact hpw)
    · have h2 : ¬ (pt b = -5 ∧ s (19 + b) = 0) := fun z => h1 (hb0.mpr z)
      have hno : ptS s n b x = -5 := if_neg h1
      have hx1 : lfS b x (-5) = x := by unfold lfS; rw [if_pos rfl, if_neg h1]
      rw [if_pos (by omega), hno, hx1]
      by_cases e : w = b
      · subst e
        rw [if_pos rfl, pbS_keep n (w + 1) pt many w (by omega)]; exact hpw
      · rw [if_neg e, if_neg (by omega)]
        exact pb_who hI hN n (b + 1) pt many x w (by omega) hA.n hm (by omega) hwN hpw
theorem AVP0 {s : Nat → Int} (h29 : s 29 ≤ 6) : AVP s (fun _ => -5) 0 (s 29).toNat (fuN s) := by
  refine ⟨fuN_lt h29, fun j _ hj => ?_⟩
  have := bt_fb (fun b => decide (s (19 + b) = 0)) (s 29).toNat j hj
  show bt (fbN _ _) j = 1 ↔ _
  rw [this]
  by_cases h : s (19 + j) = 0
  · simp [h]
  · simp [h]
theorem match_many {s : Nat → Int} (hI : InvB s) (h29 : s 29 ≤ 6) : (pbA s).1 = mpS s (s 29).toNat 0 (fuN s) := by
  have := pb_many hI (N := (s 29).toNat) (by omega) (s 29).toNat 0 (fun _ => -5) 0 (fuN s) (by omega) (AVP0 h29) (by omega)
  unfold pbA
  omega
theorem match_who {s : Nat → Int} (hI : InvB s) (h29 : s 29 ≤ 6) {w : Nat} (hw : (w : Int) < s 29) : (pbA s).2 w = grS s (s 29).toNat 0 (fuN s) w :=
  pb_who hI (N := (s 29).toNat) (by omega) (s 29).toNat 0 (fun _ => -5) 0 (fuN s) w (by omega) (AVP0 h29) (by omega) (Nat.zero_le _) (by omega) rfl
/-- what lies below b in no set: the same from b on -/
theorem mpS_low {s : Nat → Int} {N y : Nat} : ∀ b, b ≤ N → (∀ j, j < b → bt y j = 0) → mpS s N 0 y = mpS s (N - b) b y
  | 0, _, _ => rfl
  | b + 1, hb, h => by
    rw [mpS_low b (by omega) (fun j hj => h j (by omega)), show N - b = N - (b + 1) + 1 by omega, mpS_f (by rw [h b (by omega)]; decide)]
theorem mpS_zero {s : Nat → Int} : ∀ (n b : Nat), mpS s n b 0 = 0
  | 0, _ => rfl
  | n + 1, b => by rw [mpS_f (by unfold bt; simp), mpS_zero n (b + 1)]
