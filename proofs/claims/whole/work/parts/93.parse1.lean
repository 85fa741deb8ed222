/-! READING A CELLAR: what both do, of signs g (0 behind the end, at n), as pure functions of places -/
abbrev PR : Type := Bool × Nat × List PRT
abbrev NR : Type := Bool × Nat × Int
abbrev CR : Type := Bool × Nat × CLA
abbrev TX : Type := Bool × Nat × List CLA
abbrev NOTp : PRT := (33, 0, 0)
abbrev ANDp : PRT := (38, 0, 0)
abbrev ORp : PRT := (124, 0, 0)
abbrev dig (x : Int) : Prop := 48 ≤ x ∧ x ≤ 57
abbrev isLt (x : Int) : Prop := x = 98 ∨ x = 107 ∨ x = 118 ∨ x = 121 ∨ x = 113 ∨ x = 119
abbrev isHw (x : Int) : Prop := x = 60 ∨ x = 61 ∨ x = 62
def pNum (g : Nat → Int) (k : Nat) : NR := if ¬ dig (g k) then (false, k, 0) else if g k ≠ 48 ∧ dig (g (k + 1)) then (true, k + 2, 10 * (g k - 48) + g (k + 1) - 48) else (true, k + 1, g k - 48)
def pTest (g : Nat → Int) (k : Nat) : PR := if ¬ isLt (g k) then (false, k, []) else if ¬ isHw (g (k + 1)) then (false, k + 1, []) else if (pNum g (k + 2)).1 then (true, (pNum g (k + 2)).2.1, [(g k, g (k + 1), (pNum g (k + 2)).2.2)]) else (false, (pNum g (k + 2)).2.1, [])
def pMore (g : Nat → Int) (it : Nat → PR) (c : Int) (op : PRT) : Nat → Nat → List PRT → PR
  | 0, p, l => (true, p, l)
  | f + 1, p, l => if g p = c then (if (it (p + 1)).1 then pMore g it c op f (it (p + 1)).2.1 (l ++ (it (p + 1)).2.2 ++ [op]) else (false, (it (p + 1)).2.1, [])) else (true, p, l)
def pSep (g : Nat → Int) (it : Nat → PR) (c : Int) (op : PRT) (k : Nat) : PR := if (it k).1 then pMore g it c op 101 (it k).2.1 (it k).2.2 else (false, (it k).2.1, [])
def pBra (g : Nat → Int) (q : PR) : PR := if q.1 then (if g q.2.1 = 41 then (true, q.2.1 + 1, q.2.2) else (false, q.2.1, [])) else (false, q.2.1, [])
def pNot (q : PR) : PR := if q.1 then (true, q.2.1, q.2.2 ++ [NOTp]) else (false, q.2.1, [])
def pFac (g : Nat → Int) : Nat → Nat → PR
  | 0 => fun k => if g k = 33 ∨ g k = 40 then (false, k, []) else pTest g k
  | r + 1 => fun k => if g k = 33 then pNot (pFac g r (k + 1)) else if g k = 40 then pBra g (pSep g (pSep g (pFac g r) 38 ANDp) 124 ORp (k + 1)) else pTest g k
def pEvery (g : Nat → Int) (r : Nat) : Nat → PR := pSep g (pFac g r) 38 ANDp
def pSome (g : Nat → Int) (r : Nat) : Nat → PR := pSep g (pEvery g r) 124 ORp
def pSpell (g : Nat → Int) : List Nat → Nat → Bool × Nat
  | [], k => (true, k)
  | c :: w, k => if g k = (c : Int) then pSpell g w (k + 1) else (false, k)
def pTell (g : Nat → Int) (w : Int) (q : Bool × Nat) : CR := if q.1 then ((pNum g q.2).1, (pNum g q.2).2.1, (w, (pNum g q.2).2.2, [])) else (false, q.2, (0, 0, []))
def pMuch (g : Nat → Int) (w : Int) (q : Bool × Nat) : CR := if q.1 ∧ (pNum g q.2).1 ∧ g (pNum g q.2).2.1 = 32 then ((pSome g 5 ((pNum g q.2).2.1 + 1)).1, (pSome g 5 ((pNum g q.2).2.1 + 1)).2.1, (w, (pNum g q.2).2.2, (pSome g 5 ((pNum g q.2).2.1 + 1)).2.2)) else (false, if q.1 then (pNum g q.2).2.1 else q.2, (0, 0, []))
def pCla (g : Nat → Int) (k : Nat) : CR := if g k = 99 then pTell g 0 (pSpell g [97, 108, 109, 32] (k + 1)) else if g k = 112 then pTell g 1 (pSpell g [101, 97, 99, 101, 32] (k + 1)) else if g k = 115 then (if g (k + 1) = 111 then pMuch g 2 (pSpell g [111, 102, 116, 101, 110, 32] (k + 1)) else pMuch g 3 (pSpell g [104, 97, 114, 112, 101, 110, 32] (k + 1))) else (false, k, (0, 0, []))
def pTxt (g : Nat → Int) (n : Nat) : Nat → Nat → List CLA → TX
  | 0, k, _ => (false, k, [])
  | f + 1, k, l => if (pCla g k).1 then (if n ≤ (pCla g k).2.1 then (true, (pCla g k).2.1, l ++ [(pCla g k).2.2]) else if f ≠ 0 ∧ g (pCla g k).2.1 = 59 then pTxt g n f ((pCla g k).2.1 + 1) (l ++ [(pCla g k).2.2]) else (false, (pCla g k).2.1, [])) else (false, (pCla g k).2.1, [])
/-- nothing stands behind the end -/
def Ends (g : Nat → Int) (n : Nat) : Prop := n ≤ 100 ∧ (∀ k, n ≤ k → g k = 0) ∧ ∀ k, 0 ≤ g k ∧ g k ≤ 127
theorem Ends.lt {g : Nat → Int} {n k : Nat} (h : Ends g n) (h0 : g k ≠ 0) : k < n := by
  by_cases hk : n ≤ k
  · exact absurd (h.2.1 k hk) h0
  · omega
theorem pNum_in {g : Nat → Int} {n k : Nat} (h : Ends g n) (hk : k ≤ n) : (k ≤ (pNum g k).2.1 ∧ (pNum g k).2.1 ≤ n) ∧ (0 ≤ (pNum g k).2.2 ∧ (pNum g k).2.2 ≤ 99) ∧ ((pNum g k).1 = true → k + 1 ≤ (pNum g k).2.1) := by
  unfold pNum
  by_cases h1 : dig (g k)
  · have hl := h.lt (k := k) (by omega)
    rw [if_neg (fun z => z h1)]
    by_cases h2 : g k ≠ 48 ∧ dig (g (k + 1))
    · have hl2 := h.lt (k := k + 1) (by omega)
      rw [if_pos h2]
      refine ⟨⟨?_, ?_⟩, ⟨?_, ?_⟩, fun _ => ?_⟩
      · show k ≤ k + 2; omega
      · show k + 2 ≤ n; omega
      · show 0 ≤ 10 * (g k - 48) + g (k + 1) - 48; omega
      · show 10 * (g k - 48) + g (k + 1) - 48 ≤ 99; omega
      · show k + 1 ≤ k + 2; omega
    · rw [if_neg h2]
      refine ⟨⟨?_, ?_⟩, ⟨?_, ?_⟩, fun _ => ?_⟩
      · show k ≤ k + 1; omega
      · show k + 1 ≤ n; omega
      · show 0 ≤ g k - 48; omega
      · show g k - 48 ≤ 99; omega
      · show k + 1 ≤ k + 1; omega
  · rw [if_pos h1]
    exact ⟨⟨Nat.le_refl _, hk⟩, ⟨Int.le_refl _, by show (0 : Int) ≤ 99; omega⟩, fun z => absurd (show false = true from z) (by decide)⟩
theorem dqL_app {m m2 : Nat} {a b : List PRT} (h : dqL m a = some m2) : dqL m (a ++ b) = dqL m2 b := by
  unfold dqL at h ⊢
  rw [List.foldl_append, h]
/-- what reading leaves: places in order; parts that are few, and one truth, D deep at most -/
def Wf (n D k : Nat) (q : PR) : Prop := (k ≤ q.2.1 ∧ q.2.1 ≤ n) ∧ (q.1 = true → q.2.2.length + k + 2 ≤ q.2.1 ∧ (∀ p ∈ q.2.2, vP p) ∧ ∀ m, m + D ≤ 28 → dqL m q.2.2 = some (m + 1))
theorem Wf.no {n D k p : Nat} {l : List PRT} (h : k ≤ p ∧ p ≤ n) : Wf n D k (false, p, l) := ⟨h, fun z => absurd (show false = true from z) (by decide)⟩
theorem Wf.up {n D D2 k : Nat} {q : PR} (h : Wf n D k q) (hD : D ≤ D2) : Wf n D2 k q := ⟨h.1, fun z => ⟨(h.2 z).1, (h.2 z).2.1, fun m hm => (h.2 z).2.2 m (by omega)⟩⟩
theorem pTest_wf {g : Nat → Int} {n k : Nat} (h : Ends g n) (hk : k ≤ n) : Wf n 1 k (pTest g k) := by
  unfold pTest
  by_cases h1 : isLt (g k)
  · have hl := h.lt (k := k) (by omega)
    rw [if_neg (fun z => z h1)]
    by_cases h2 : isHw (g (k + 1))
    · have hl2 := h.lt (k := k + 1) (by omega)
      have hn := pNum_in h (k := k + 2) (by omega)
      rw [if_neg (fun z => z h2)]
      by_cases h3 : (pNum g (k + 2)).1 = true
      · rw [if_pos h3]
        have h4 := hn.2.2 h3
        have hT : isT (g k, g (k + 1), (pNum g (k + 2)).2.2) := ⟨h1, h2, hn.2.1⟩
        refine ⟨⟨?_, hn.1.2⟩, fun _ => ⟨?_, fun p hp => ?_, fun m hm => ?_⟩⟩
        · show k ≤ (pNum g (k + 2)).2.1; omega
        · show 1 + k + 2 ≤ (pNum g (k + 2)).2.1; omega
        · rw [List.mem_singleton.mp hp]; exact Or.inr (Or.inr (Or.inr hT))
        · show dqS (some m) (g k, g (k + 1), (pNum g (k + 2)).2.2) = _
          unfold dqS
          simp only
          rw [if_neg (by omega), if_neg (by omega), if_pos (by omega)]
      · rw [if_neg h3]
        exact Wf.no ⟨by omega, hn.1.2⟩
    · rw [if_pos h2]
      exact Wf.no ⟨by omega, by omega⟩
  · rw [if_pos h1]
    exact Wf.no ⟨Nat.le_refl _, hk⟩
theorem pMore_wf {g : Nat → Int} {n D : Nat} (h : Ends g n) {it : Nat → PR} {c : Int} (hc : c = 38 ∨ c = 124) {op : PRT} (ho : op = (c, 0, 0)) (hi : ∀ k, k ≤ n → Wf n D k (it k)) {k0 : Nat} : ∀ (f p : Nat) (l : List PRT), Wf n (D + 1) k0 (true, p, l) → Wf n (D + 1) k0 (pMore g it c op f p l)
  | 0, _, _, hw => hw
  | f + 1, p, l, hw => by
    rw [pMore]
    by_cases h1 : g p = c
    · have hl := h.lt (k := p) (by omega)
      have hit := hi (p + 1) (by omega)
      rw [if_pos h1]
      obtain ⟨⟨w1, w2⟩, w3⟩ := hw
      have w1 : k0 ≤ p := w1
      by_cases h2 : (it (p + 1)).1 = true
      · rw [if_pos h2]
        obtain ⟨w4, w5, w6⟩ := w3 rfl
        have w4 : l.length + k0 + 2 ≤ p := w4
        obtain ⟨v1, v2, v3⟩ := hit.2 h2
        refine pMore_wf h hc ho hi f _ _ ⟨⟨?_, hit.1.2⟩, fun _ => ⟨?_, ?_, fun m hm => ?_⟩⟩
        · show k0 ≤ (it (p + 1)).2.1; omega
        · show (l ++ (it (p + 1)).2.2 ++ [op]).length + k0 + 2 ≤ (it (p + 1)).2.1
          rw [List.length_append, List.length_append]
          show l.length + _ + 1 + k0 + 2 ≤ _
          omega
        · intro x hx
          have hx : x ∈ l ++ (it (p + 1)).2.2 ++ [op] := hx
          rw [List.mem_append, List.mem_append] at hx
          rcases hx with (hx | hx) | hx
          · exact w5 x hx
          · exact v2 x hx
          · rw [List.mem_singleton.mp hx, ho]
            rcases hc with rfl | rfl
            · exact Or.inr (Or.inl rfl)
            · exact Or.inr (Or.inr (Or.inl rfl))
        · show dqL m (l ++ (it (p + 1)).2.2 ++ [op]) = _
          rw [List.append_assoc, dqL_app (w6 m (by omega)), dqL_app (v3 (m + 1) (by omega)), ho]
          show dqS (some (m + 1 + 1)) (c, 0, 0) = _
          unfold dqS
          simp only
          rw [if_neg (by omega), if_pos hc, if_pos (by omega)]
          rfl
      · rw [if_neg h2]
        exact Wf.no ⟨by have := hit.1.1; omega, hit.1.2⟩
    · rw [if_neg h1]; exact hw
theorem pSep_wf {g : Nat → Int} {n D : Nat} (h : Ends g n) {it : Nat → PR} {c : Int} (hc : c = 38 ∨ c = 124) {op : PRT} (ho : op = (c, 0, 0)) (hi : ∀ k, k ≤ n → Wf n D k (it k)) {k : Nat} (hk : k ≤ n) : Wf n (D + 1) k (pSep g it c op k) := by
  have hit := hi k hk
  unfold pSep
  by_cases h1 : (it k).1 = true
  · rw [if_pos h1]
    exact pMore_wf h hc ho hi _ _ _ ⟨hit.1, fun _ => ⟨(hit.2 h1).1, (hit.2 h1).2.1, fun m hm => (hit.2 h1).2.2 m (by omega)⟩⟩
  · rw [if_neg h1]
    exact Wf.no hit.1
theorem pFac_wf {g : Nat → Int} {n : Nat} (h : Ends g n) : ∀ (r k : Nat), k ≤ n → Wf n (2 * r + 1) k (pFac g r k)
  | 0, k, hk => by
    show Wf n 1 k (if g k = 33 ∨ g k = 40 then (false, k, []) else pTest g k)
    split
    · exact Wf.no ⟨Nat.le_refl _, hk⟩
    · exact pTest_wf h hk
  | r + 1, k, hk => by
    show Wf n (2 * (r + 1) + 1) k (if g k = 33 then pNot (pFac g r (k + 1)) else if g k = 40 then pBra g (pSep g (pSep g (pFac g r) 38 ANDp) 124 ORp (k + 1)) else pTest g k)
    by_cases h1 : g k = 33
    · rw [if_pos h1]
      have hl := h.lt (k := k) (by omega)
      obtain ⟨⟨w1, w2⟩, w3⟩ := pFac_wf h r (k + 1) (by omega)
      unfold pNot
      by_cases h2 : (pFac g r (k + 1)).1 = true
      · rw [if_pos h2]
        obtain ⟨v1, v2, v3⟩ := w3 h2
        refine ⟨⟨?_, w2⟩, fun _ => ⟨?_, fun x hx => ?_, fun m hm => ?_⟩⟩
        · show k ≤ (pFac g r (k + 1)).2.1; omega
        · show ((pFac g r (k + 1)).2.2 ++ [NOTp]).length + k + 2 ≤ (pFac g r (k + 1)).2.1
          rw [List.length_append]
          show _ + 1 + k + 2 ≤ _
          omega
        · have hx : x ∈ (pFac g r (k + 1)).2.2 ++ [NOTp] := hx
          rcases List.mem_append.mp hx with hx | hx
          · exact v2 x hx
          · rw [List.mem_singleton.mp hx]; exact Or.inl rfl
        · show dqL m ((pFac g r (k + 1)).2.2 ++ [NOTp]) = _
          rw [dqL_app (v3 m (by omega))]
          show dqS (some (m + 1)) (33, 0, 0) = _
          unfold dqS
          simp only
          rw [if_pos trivial, if_pos (by omega)]
      · rw [if_neg h2]
        exact Wf.no ⟨by omega, w2⟩
    · rw [if_neg h1]
      by_cases h3 : g k = 40
      · rw [if_pos h3]
        have hl := h.lt (k := k) (by omega)
        obtain ⟨⟨w1, w2⟩, w3⟩ := pSep_wf (op := ORp) h (Or.inr rfl) rfl (fun k2 hk2 => pSep_wf (op := ANDp) h (Or.inl rfl) rfl (fun k hk => pFac_wf h r k hk) hk2) (k := k + 1) (by omega)
        unfold pBra
        by_cases h2 : (pSep g (pSep g (pFac g r) 38 ANDp) 124 ORp (k + 1)).1 = true
        · rw [if_pos h2]
          obtain ⟨v1, v2, v3⟩ := w3 h2
          by_cases h4 : g (pSep g (pSep g (pFac g r) 38 ANDp) 124 ORp (k + 1)).2.1 = 41
          · have hl2 := h.lt (k := (pSep g (pSep g (pFac g r) 38 ANDp) 124 ORp (k + 1)).2.1) (by omega)
            rw [if_pos h4]
            refine ⟨⟨?_, hl2⟩, fun _ => ⟨?_, v2, fun m hm => v3 m (by omega)⟩⟩
            · show k ≤ (pSep g (pSep g (pFac g r) 38 ANDp) 124 ORp (k + 1)).2.1 + 1; omega
            · show (pSep g (pSep g (pFac g r) 38 ANDp) 124 ORp (k + 1)).2.2.length + k + 2 ≤ (pSep g (pSep g (pFac g r) 38 ANDp) 124 ORp (k + 1)).2.1 + 1; omega
          · rw [if_neg h4]
            exact Wf.no ⟨by omega, w2⟩
        · rw [if_neg h2]
          exact Wf.no ⟨by omega, w2⟩
      · rw [if_neg h3]
        exact (pTest_wf h hk).up (by omega)
theorem pEvery_wf {g : Nat → Int} {n : Nat} (h : Ends g n) (r k : Nat) (hk : k ≤ n) : Wf n (2 * r + 2) k (pEvery g r k) := pSep_wf h (Or.inl rfl) rfl (fun k hk => pFac_wf h r k hk) hk
theorem pSome_wf {g : Nat → Int} {n : Nat} (h : Ends g n) (r k : Nat) (hk : k ≤ n) : Wf n (2 * r + 3) k (pSome g r k) := pSep_wf h (Or.inr rfl) rfl (fun k hk => pEvery_wf h r k hk) hk
theorem pFac_bra {g : Nat → Int} {r k : Nat} (h1 : g k = 40) : pFac g (r + 1) k = pBra g (pSome g r (k + 1)) := by
  show (if g k = 33 then pNot (pFac g r (k + 1)) else if g k = 40 then pBra g (pSep g (pSep g (pFac g r) 38 ANDp) 124 ORp (k + 1)) else pTest g k) = _
  rw [if_neg (by omega), if_pos h1]
  rfl
theorem pFac_not {g : Nat → Int} {r k : Nat} (h1 : g k = 33) : pFac g (r + 1) k = pNot (pFac g r (k + 1)) := if_pos h1
theorem pFac_tst {g : Nat → Int} {r k : Nat} (h1 : g k ≠ 33) (h2 : g k ≠ 40) : pFac g r k = pTest g k := by
  cases r with
  | zero => exact if_neg (by omega)
  | succ r => exact (if_neg h1).trans (if_neg h2)
theorem pSpell_in {g : Nat → Int} {n : Nat} (h : Ends g n) : ∀ (w : List Nat) (k : Nat), (∀ c ∈ w, c ≠ 0) → k ≤ n → (k ≤ (pSpell g w k).2 ∧ (pSpell g w k).2 ≤ n) ∧ ((pSpell g w k).1 = true → (pSpell g w k).2 = k + w.length)
  | [], k, _, hk => ⟨⟨Nat.le_refl _, hk⟩, fun _ => rfl⟩
  | c :: w, k, hc, hk => by
    rw [pSpell]
    by_cases h1 : g k = (c : Int)
    · have h0 := hc c List.mem_cons_self
      have hl := h.lt (k := k) (by omega)
      have ih := pSpell_in h w (k + 1) (fun x hx => hc x (List.mem_cons_of_mem _ hx)) (by omega)
      rw [if_pos h1]
      refine ⟨⟨by omega, ih.1.2⟩, fun z => ?_⟩
      rw [ih.2 z, List.length_cons]
      omega
    · rw [if_neg h1]
      exact ⟨⟨Nat.le_refl _, hk⟩, fun z => absurd (show false = true from z) (by decide)⟩
/-- a clause: its places, and what it is -/
def Wc (n k : Nat) (q : CR) : Prop := (k ≤ q.2.1 ∧ q.2.1 ≤ n) ∧ (q.1 = true → q.2.2.2.2.length + k + 6 ≤ q.2.1 ∧ okC q.2.2)
theorem pTell_wc {g : Nat → Int} {n : Nat} (h : Ends g n) {w : Int} (hw : w = 0 ∨ w = 1) {k j : Nat} {q : Bool × Nat} (hj : 4 ≤ j) (hq : (k + 1 ≤ q.2 ∧ q.2 ≤ n) ∧ (q.1 = true → q.2 = k + 1 + j)) : Wc n k (pTell g w q) := by
  unfold pTell
  by_cases h1 : q.1 = true
  · rw [if_pos h1]
    have hn := pNum_in h (k := q.2) hq.1.2
    have h2 := hq.2 h1
    refine ⟨⟨?_, hn.1.2⟩, fun z => ⟨?_, ⟨?_, hn.2.1, fun p hp => absurd hp List.not_mem_nil, fun hz => ?_, fun _ => rfl⟩⟩⟩
    · show k ≤ (pNum g q.2).2.1; omega
    · have := hn.2.2 z
      show 0 + k + 6 ≤ (pNum g q.2).2.1; omega
    · show 0 ≤ w ∧ w ≤ 3; omega
    · have hz : 2 ≤ w := hz
      omega
  · rw [if_neg h1]
    exact ⟨⟨by show k ≤ q.2; omega, hq.1.2⟩, fun z => absurd (show false = true from z) (by decide)⟩
theorem pMuch_wc {g : Nat → Int} {n : Nat} (h : Ends g n) {w : Int} (hw : w = 2 ∨ w = 3) {k j : Nat} {q : Bool × Nat} (hj : 4 ≤ j) (hq : (k + 1 ≤ q.2 ∧ q.2 ≤ n) ∧ (q.1 = true → q.2 = k + 1 + j)) : Wc n k (pMuch g w q) := by
  have hn := pNum_in h (k := q.2) hq.1.2
  unfold pMuch
  by_cases h1 : q.1 = true ∧ (pNum g q.2).1 = true ∧ g (pNum g q.2).2.1 = 32
  · rw [if_pos h1]
    have h2 := hq.2 h1.1
    have h3 := hn.2.2 h1.2.1
    have hl := h.lt (k := (pNum g q.2).2.1) (by omega)
    obtain ⟨⟨w1, w2⟩, w3⟩ := pSome_wf h 5 ((pNum g q.2).2.1 + 1) (by omega)
    refine ⟨⟨?_, w2⟩, fun z => ?_⟩
    · show k ≤ (pSome g 5 ((pNum g q.2).2.1 + 1)).2.1; omega
    · obtain ⟨v1, v2, v3⟩ := w3 z
      refine ⟨?_, ⟨?_, hn.2.1, v2, fun _ => v3 0 (by omega), fun hz => ?_⟩⟩
      · show (pSome g 5 ((pNum g q.2).2.1 + 1)).2.2.length + k + 6 ≤ (pSome g 5 ((pNum g q.2).2.1 + 1)).2.1; omega
      · show 0 ≤ w ∧ w ≤ 3; omega
      · have hz : w < 2 := hz
        omega
  · rw [if_neg h1]
    refine ⟨?_, fun z => absurd (show false = true from z) (by decide)⟩
    show k ≤ (if q.1 = true then (pNum g q.2).2.1 else q.2) ∧ (if q.1 = true then (pNum g q.2).2.1 else q.2) ≤ n
    split <;> omega
theorem pCla_wc {g : Nat → Int} {n : Nat} (h : Ends g n) {k : Nat} (hk : k ≤ n) : Wc n k (pCla g k) := by
  unfold pCla
  by_cases h1 : g k = 99
  · have hl := h.lt (k := k) (by omega)
    rw [if_pos h1]
    exact pTell_wc h (Or.inl rfl) (j := 4) (by omega) (pSpell_in h [97, 108, 109, 32] (k + 1) (by decide) (by omega))
  · rw [if_neg h1]
    by_cases h2 : g k = 112
    · have hl := h.lt (k := k) (by omega)
      rw [if_pos h2]
      exact pTell_wc h (Or.inr rfl) (j := 5) (by omega) (pSpell_in h [101, 97, 99, 101, 32] (k + 1) (by decide) (by omega))
    · rw [if_neg h2]
      by_cases h3 : g k = 115
      · have hl := h.lt (k := k) (by omega)
        rw [if_pos h3]
        by_cases h4 : g (k + 1) = 111
        · rw [if_pos h4]
          exact pMuch_wc h (Or.inl rfl) (j := 6) (by omega) (pSpell_in h [111, 102, 116, 101, 110, 32] (k + 1) (by decide) (by omega))
        · rw [if_neg h4]
          exact pMuch_wc h (Or.inr rfl) (j := 7) (by omega) (pSpell_in h [104, 97, 114, 112, 101, 110, 32] (k + 1) (by decide) (by omega))
      · rw [if_neg h3]
        exact ⟨⟨Nat.le_refl _, hk⟩, fun z => absurd (show false = true from z) (by decide)⟩
