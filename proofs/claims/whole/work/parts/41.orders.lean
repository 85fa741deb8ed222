theorem take0 : ∀ x : Fin 64, ∀ b : Fin 6, bt x.val b.val = 1 → (2 ^ b.val ≤ x.val ∧ cnN (x.val - 2 ^ b.val) 6 + 1 = cnN x.val 6 ∧ mBit 5 ((x.val : Nat) : Int) (mBit 7 (mBit 8 1 ((b.val : Nat) : Int)) (-1)) = ((x.val - 2 ^ b.val : Nat) : Int)) ∧ ∀ j : Fin 6, bt (x.val - 2 ^ b.val) j.val = if j.val = b.val then 0 else bt x.val j.val := by decide +kernel
theorem takeB {x b : Nat} (hx : x < 64) (hb : b < 6) (h : bt x b = 1) : (2 ^ b ≤ x ∧ cnN (x - 2 ^ b) 6 + 1 = cnN x 6 ∧ mBit 5 (x : Int) (mBit 7 (mBit 8 1 (b : Int)) (-1)) = ((x - 2 ^ b : Nat) : Int)) ∧ ∀ j, j < 6 → bt (x - 2 ^ b) j = if j = b then 0 else bt x j := by
  have := take0 ⟨x, hx⟩ ⟨b, hb⟩ h
  exact ⟨this.1, fun j hj => this.2 ⟨j, hj⟩⟩
theorem cn0 : ∀ x : Fin 64, cnN x.val 6 = 0 → x.val = 0 := by decide +kernel
theorem cn1 : ∀ x : Fin 64, cnN x.val 6 ≠ 0 → ∃ b : Fin 6, bt x.val b.val = 1 := by decide +kernel
abbrev GR : Type := Int × (Nat → Int)
def upG (a b : GR) : GR := if a.1 < b.1 then b else a
theorem upG_assoc (a b c : GR) : upG (upG a b) c = upG a (upG b c) := by
  unfold upG
  by_cases h1 : a.1 < b.1 <;> by_cases h2 : b.1 < c.1 <;> by_cases h3 : a.1 < c.1 <;> simp [h1, h2, h3] <;> omega
def fl (k : Nat) (p : Nat → Int) (r : GR) : GR := (r.1, fun j => if j < k then p j else r.2 (j - k))
theorem fl_up (k : Nat) (p : Nat → Int) (a b : GR) : fl k p (upG a b) = upG (fl k p a) (fl k p b) := by
  unfold upG
  by_cases h : a.1 < b.1
  · rw [if_pos h, if_pos (show (fl k p a).1 < (fl k p b).1 from h)]
  · rw [if_neg h, if_neg (show ¬ (fl k p a).1 < (fl k p b).1 from h)]
def consR (b : Nat) (r : GR) : GR := (r.1, fun j => if j = 0 then (b : Int) else r.2 (j - 1))
theorem fl_cons (k b : Nat) (p : Nat → Int) (r : GR) : fl (k + 1) (fun j => if j = k then (b : Int) else p j) r = fl k p (consR b r) := by
  unfold fl consR
  refine Prod.ext rfl (funext fun j => ?_)
  show (if j < k + 1 then (if j = k then (b : Int) else p j) else r.2 (j - (k + 1))) = if j < k then p j else if j - k = 0 then (b : Int) else r.2 (j - k - 1)
  by_cases h1 : j < k
  · rw [if_pos (by omega), if_neg (by omega), if_pos h1]
  · by_cases h2 : j = k
    · rw [if_pos (by omega), if_pos h2, if_neg h1, if_pos (by omega)]
    · rw [if_neg (by omega), if_neg h1, if_neg (by omega)]
      congr 1
def boF (rec : Nat → Int → GR) (s : Nat → Int) (x : Nat) (mood : Int) : Nat → GR
  | 0 => (-1000000, fun _ => 0)
  | b + 1 => if bt x b = 1 then upG (boF rec s x mood b) (consR b (rec (x - 2 ^ b) (clI (mood + syS s b) (-99) 99))) else boF rec s x mood b
def boS (s : Nat → Int) : Nat → Nat → Int → GR
  | 0 => fun _ mood => (mood, fun _ => 0)
  | n + 1 => fun x mood => boF (boS s n) s x mood (s 29).toNat
def BN (s : Nat → Int) (x : Nat) : Prop := x < 64 ∧ ∀ b, b < 6 → bt x b = 1 → (b : Int) < s 29
theorem BN.tk {s : Nat → Int} {x b : Nat} (h : BN s x) (hb : b < 6) (h1 : bt x b = 1) : BN s (x - 2 ^ b) := by
  obtain ⟨-, h2⟩ := takeB h.1 hb h1
  refine ⟨Nat.lt_of_le_of_lt (Nat.sub_le _ _) h.1, fun j hj hj1 => ?_⟩
  rw [h2 j hj] at hj1
  split at hj1
  · cases hj1
  · exact h.2 j hj hj1
theorem boF_in {rec : Nat → Int → GR} {s : Nat → Int} {x : Nat} {mood : Int} (hr : ∀ b, b < 6 → bt x b = 1 → ∀ m, -99 ≤ m ∧ m ≤ 99 → -99 ≤ (rec (x - 2 ^ b) m).1 ∧ (rec (x - 2 ^ b) m).1 ≤ 99) : ∀ n, n ≤ 6 → (-1000000 ≤ (boF rec s x mood n).1 ∧ (boF rec s x mood n).1 ≤ 99) ∧ ((∃ b, b < n ∧ bt x b = 1) → -99 ≤ (boF rec s x mood n).1)
  | 0, _ => ⟨⟨by show (-1000000 : Int) ≤ -1000000; omega, by show (-1000000 : Int) ≤ 99; omega⟩, fun ⟨b, hb, _⟩ => absurd hb (Nat.not_lt_zero b)⟩
  | n + 1, hn => by
    have ih := boF_in (mood := mood) (s := s) hr n (by omega)
    rw [boF]
    by_cases hb : bt x n = 1
    · rw [if_pos hb]
      have h1 := hr n (by omega) hb (clI (mood + syS s n) (-99) 99) clI_in
      unfold upG
      by_cases h2 : (boF rec s x mood n).1 < (consR n (rec (x - 2 ^ n) (clI (mood + syS s n) (-99) 99))).1
      · rw [if_pos h2]
        exact ⟨⟨by show -1000000 ≤ (rec _ _).1; omega, h1.2⟩, fun _ => h1.1⟩
      · rw [if_neg h2]
        refine ⟨ih.1, fun _ => ?_⟩
        have h3 : ¬ (boF rec s x mood n).1 < (rec (x - 2 ^ n) (clI (mood + syS s n) (-99) 99)).1 := h2
        omega
    · rw [if_neg hb]
      refine ⟨ih.1, fun ⟨b, hb1, hb2⟩ => ih.2 ⟨b, ?_, hb2⟩⟩
      have : b ≠ n := fun e => hb (e ▸ hb2)
      omega
theorem boS_in {s : Nat → Int} (h29 : s 29 ≤ 6) : ∀ n x, BN s x → cnN x 6 = n → ∀ mood, -99 ≤ mood ∧ mood ≤ 99 → -99 ≤ (boS s n x mood).1 ∧ (boS s n x mood).1 ≤ 99
  | 0, _, _, _, mood, hm => hm
  | n + 1, x, hx, hc, mood, hm => by
    obtain ⟨b, hb⟩ := cn1 ⟨x, hx.1⟩ (by show cnN x 6 ≠ 0; omega)
    have h1 := boF_in (rec := boS s n) (s := s) (x := x) (mood := mood) (fun b hb6 hb1 m hm => boS_in h29 n _ (hx.tk hb6 hb1) (by have := (takeB hx.1 hb6 hb1).1.2.1; omega) m hm) (s 29).toNat (by omega)
    have h2 := hx.2 b.val b.isLt hb
    exact ⟨h1.2 ⟨b.val, by omega, hb⟩, h1.1.2⟩
def P51 (a k : Nat) : Bool := a == 50 || (a == 51 || (a == 43 && k == 15))
theorem P51_P51 : ∀ a k, P51 a k = false → P51 a k = false := fun _ _ h => h
theorem P51_PQ : ∀ a k, PQ a k = false → P51 a k = false := by
  intro a k h
  simp only [PQ, P51, Bool.or_eq_false_iff] at h ⊢
  refine ⟨h.2.2.2.2.1, h.2.2.2.2.2.1, ?_⟩
  have h9 := h.2.2.2.2.2.2.2.2
  by_cases ha : a = 43
  · subst ha
    simp only [BEq.rfl, Bool.true_and, Bool.or_eq_false_iff] at h9 ⊢
    exact h9.1.1.1.1.2
  · simp [ha]
theorem Mc.p51 {c c2 : Nat → Nat → Int} (hM : Mc c) (h : Eqk P51 c c2) : Mc c2 := hM.ofk fun k hk => h 43 k (by
  have : k ≠ 15 := fun e => by subst e; cases hk
  simp [P51, this])
/-- the best line so far stands in the places -/
def OrdR (K k : Nat) (p : Nat → Int) (G : GR) (c : Nat → Nat → Int) : Prop := c 43 15 = G.1 ∧ (∀ j, j < K → c 51 j = G.2 j) ∧ ∀ j, j < k → c 50 j = p j
theorem l_ordC {d : Nat} {h : Hp} {s : Nat → Int} (hL : Lay h) {k : Nat} (hk : k ≤ 6) {x y : Int} {p : Nat → Int} {z : Int} : ∀ (n i : Nat), i + n = k → ∀ c, Mc c → c 44 = s → (∀ j, j < i → c 51 j = p j) → (∀ j, j < k → c 50 j = p j) → c 43 15 = z → Ex (d) none t_X11_ordersFrom 0 20 [(1, ((43 : Nat) : Int)), (0, (k : Int)), (0, x), (0, y), (0, (i : Int))] [] (wC h c) (fun r h2 => r = none ∧ ∃ c2, h2 = wC h c2 ∧ OrdR k k p (z, p) c2 ∧ Eqk P51 c c2) := by
  intro n
  induction n with
  | zero =>
    intro i hi c hM hs h51 h50 hz
    refine E_load rfl rfl rfl ?_
    refine E_load rfl rfl rfl ?_
    refine E_cmp3 rfl (by omega) (fun q1 => ?_) (fun q1 => ?_)
    · refine E_vret rfl ?_
      exact ⟨rfl, c, rfl, ⟨hz, fun j hj => h51 j (by omega), h50⟩, Eqk.nil⟩
    · exfalso; omega
  | succ n ih =>
    intro i hi c hM hs h51 h50 hz
    refine E_load rfl rfl rfl ?_
    refine E_load rfl rfl rfl ?_
    refine E_cmp3 rfl (by omega) (fun q1 => ?_) (fun q1 => ?_)
    · exfalso; omega
    · refine E_load rfl rfl rfl ?_
      refine E_getr (c := 12) (r := 51) rfl (hL.lt 43 rfl) (hL.k 43 rfl) rfl hM.c14 ?_
      refine E_load rfl rfl rfl ?_
      refine E_load rfl rfl rfl ?_
      refine E_getr (c := 12) (r := 50) rfl (hL.lt 43 rfl) (hL.k 43 rfl) rfl hM.c13 ?_
      refine E_load rfl rfl rfl ?_
      refine E_ialn (n := 6) (v := (p i)) rfl (hL.lt 50 rfl) (hL.k 50 rfl) (hL.l 50 rfl) (by omega) ((rdS rfl (by omega)).trans (h50 i (by omega))) ?_
      refine E_iasg (n := 6) (j := i) rfl (hL.lt 51 rfl) (hL.k 51 rfl) (hL.l 51 rfl) (by omega) (by omega) (fun c_1 hc_1 => ?_)
      have hE_1 : Eqk P51 c c_1 := by rw [hc_1]; exact Eqk.up rfl
      have hM_1 : Mc c_1 := by rw [hc_1]; exact hM.upo rfl
      have hs_1 : c_1 44 = s := by rw [hc_1]; exact (up2_oth rfl).trans hs
      refine E_iinc rfl rfl rfl ?_
      refine E_goto rfl ?_
      refine (ih (i + 1) (by omega) c_1 hM_1 hs_1 (fun j hj => ?_) (fun j hj => ?_) ?_).mono ?_
      · rw [hc_1, up2_row]
        unfold upd1
        split
        · next e => rw [e]
        · exact h51 j (by omega)
      · rw [hc_1, up2_oth rfl]; exact h50 j hj
      · rw [hc_1, up2_fld rfl]; exact hz
      rintro r hE ⟨e1, c9, e2, e4, e3⟩
      exact ⟨e1, c9, e2, e4, Eqk.trans hE_1 e3⟩
set_option maxHeartbeats 4000000 in
theorem n_ord {d : Nat} {h : Hp} {s : Nat → Int} (hL : Lay h) (hG : InvG s) {f49 : Nat → Int} (hsay : SAY s f49) {K : Nat} (hK : K ≤ 6) : ∀ (n k x : Nat) (mood : Int), k + n = K → BN s x → cnN x 6 = n → (-99 ≤ mood ∧ mood ≤ 99) → ∀ (p : Nat → Int) (G : GR), (-1000000 ≤ G.1 ∧ G.1 ≤ 99) → ∀ c, Mc c → c 44 = s → c 49 = f49 → OrdR K k p G c → Ok (d + n + 1) 193 [(1, ((43 : Nat) : Int)), (0, (k : Int)), (0, (x : Int)), (0, mood)] (wC h c) (fun r h2 => r = none ∧ ∃ c2, h2 = wC h c2 ∧ OrdR K k p (upG G (fl k p (boS s n x mood))) c2 ∧ Eqk P51 c c2) := by
  have hG0 := hG
  obtain ⟨hI, hH, ⟨n29, n30, n31, n32, n33, n34, n36⟩, nM⟩ := hG0
  intro n
  induction n with
  | zero =>
    intro k x mood hkn hx hc hm p G hGr c hM hs h49c hO
    have hx0 : x = 0 := cn0 ⟨x, hx.1⟩ hc
    subst hx0
    have hkK : k = K := by omega
    subst hkK
    show Ex _ none t_X11_ordersFrom 0 0 _ [] (wC h c) _
    refine E_load rfl rfl rfl ?_
    refine E_if1 rfl (by omega) (fun q1 => ?_) (fun q1 => ?_)
    · exfalso; omega
    · refine E_load rfl rfl rfl ?_
      refine E_load rfl rfl rfl ?_
      refine E_getf (c := 12) (v := (0, G.1)) rfl (hL.lt 43 rfl) (hL.k 43 rfl) rfl (fv hO.1) ?_
      refine E_cmp5 rfl (by omega) (fun q2 => ?_) (fun q2 => ?_)
      · refine E_vret rfl ?_
        exact ⟨rfl, c, rfl, by rw [show upG G (fl k p (boS s 0 0 mood)) = G from if_neg (show ¬ G.1 < mood by omega)]; exact hO, Eqk.nil⟩
      · refine E_load rfl rfl rfl ?_
        refine E_load rfl rfl rfl ?_
        refine E_putg (cl := 12) rfl (hL.lt 43 rfl) (hL.k 43 rfl) rfl (fun c_1 hc_1 => ?_)
        have hE_1 : Eqk P51 c c_1 := by rw [hc_1]; exact Eqk.up rfl
        have hM_1 : Mc c_1 := by rw [hc_1]; exact hM.up43 rfl
        have hs_1 : c_1 44 = s := by rw [hc_1]; exact (up2_oth rfl).trans hs
        have hf15_1 : c_1 43 15 = mood := by rw [hc_1]; exact up2_same
        refine E_const rfl ?_
        refine E_store rfl rfl rfl ?_
        refine (l_ordC hL (by omega) (p := p) k 0 (Nat.zero_add _) c_1 hM_1 hs_1 (fun j hj => absurd hj (Nat.not_lt_zero j)) (fun j hj => ?_) (z := mood) ?_).mono ?_
        · rw [hc_1, up2_oth rfl]; exact hO.2.2 j hj
        · rw [hc_1]; exact up2_same
        rintro r hE ⟨e1, c9, e2, ⟨e4, e5, e6⟩, e3⟩
        refine ⟨e1, c9, e2, ?_, Eqk.trans hE_1 e3⟩
        rw [show upG G (fl k p (boS s 0 0 mood)) = fl k p (boS s 0 0 mood) from if_pos (show G.1 < mood by omega)]
        exact ⟨e4, fun j hj => (e5 j hj).trans (if_pos hj).symm, e6⟩
  | succ n ih =>
    intro k x mood hkn hx hc hm p G hGr c hM hs h49c hO
    have hx0 : (x : Int) ≠ 0 := fun e => by
      have : x = 0 := by omega
      subst this
      revert hc
      show cnN 0 6 = n + 1 → False
      intro hc
      have : cnN 0 6 = 0 := by decide
      omega
    have hx64 := hx.1
    have hr : ∀ b, b < 6 → bt x b = 1 → ∀ m, -99 ≤ m ∧ m ≤ 99 → -99 ≤ (boS s n (x - 2 ^ b) m).1 ∧ (boS s n (x - 2 ^ b) m).1 ≤ 99 := fun b hb6 hb1 m hm => boS_in n29.2 n _ (hx.tk hb6 hb1) (by have := (takeB hx.1 hb6 hb1).1.2.1; omega) m hm
    have loop : ∀ (m i : Nat), i + m = (s 29).toNat → ∀ c, Mc c → c 44 = s → c 49 = f49 → OrdR K k p (upG G (fl k p (boF (boS s n) s x mood i))) c → Ex (d + (n + 1) + 1) none t_X11_ordersFrom 0 50 [(1, ((43 : Nat) : Int)), (0, (k : Int)), (0, (x : Int)), (0, mood), (0, (i : Int))] [] (wC h c) (fun r h2 => r = none ∧ ∃ c2, h2 = wC h c2 ∧ OrdR K k p (upG G (fl k p (boS s (n + 1) x mood))) c2 ∧ Eqk P51 c c2) := by
      intro m
      induction m with
      | zero =>
        intro i hi c hM hs h49c hO
        refine E_load rfl rfl rfl ?_
        refine E_load rfl rfl rfl ?_
        refine E_getr (c := 12) (r := 44) rfl (hL.lt 43 rfl) (hL.k 43 rfl) rfl hM.c1 ?_
        refine E_const rfl ?_
        refine E_ialn (n := 943) (v := (s 29)) rfl (hL.lt 44 rfl) (hL.k 44 rfl) (hL.l 44 rfl) (by omega) (rdS hs (by omega)) ?_
        refine E_cmp3 rfl (by omega) (fun q1 => ?_) (fun q1 => ?_)
        · refine E_vret rfl ?_
          exact ⟨rfl, c, rfl, by rw [show i = (s 29).toNat by omega] at hO; exact hO, Eqk.nil⟩
        · exfalso; omega
      | succ m ihm =>
        intro i hi c hM hs h49c hO
        have hbt := bt_01 x i
        have hys := hG.bs (b := i) (by omega)
        have hbin := (boF_in (rec := boS s n) (s := s) (x := x) (mood := mood) hr i (by omega)).1
        refine E_load rfl rfl rfl ?_
        refine E_load rfl rfl rfl ?_
        refine E_getr (c := 12) (r := 44) rfl (hL.lt 43 rfl) (hL.k 43 rfl) rfl hM.c1 ?_
        refine E_const rfl ?_
        refine E_ialn (n := 943) (v := (s 29)) rfl (hL.lt 44 rfl) (hL.k 44 rfl) (hL.l 44 rfl) (by omega) (rdS hs (by omega)) ?_
        refine E_cmp3 rfl (by omega) (fun q1 => ?_) (fun q1 => ?_)
        · exfalso; omega
        · refine E_load rfl rfl rfl ?_
          refine E_load rfl rfl rfl ?_
          refine E_bit (z := (mBit 9 ((x : Nat) : Int) ((i : Nat) : Int))) rfl rfl rfl ?_
          refine E_const rfl ?_
          refine E_bit rfl rfl (mBit_bt hx64 (by omega)) ?_
          refine E_const rfl ?_
          refine E_cmp1 rfl (by omega) (fun q2 => ?_) (fun q2 => ?_)
          · refine E_iinc rfl rfl rfl ?_
            refine E_goto rfl ?_
            refine (ihm (i + 1) (by omega) c hM hs h49c ?_).mono ?_
            · rw [boF, if_neg (by omega)]; exact hO
            rintro r hE ⟨e1, c9, e2, e4, e3⟩
            exact ⟨e1, c9, e2, e4, Eqk.trans Eqk.nil e3⟩
          · have q6 : bt x i = 1 := by omega
            refine E_load rfl rfl rfl ?_
            refine E_getr (c := 12) (r := 50) rfl (hL.lt 43 rfl) (hL.k 43 rfl) rfl hM.c13 ?_
            refine E_load rfl rfl rfl ?_
            refine E_load rfl rfl rfl ?_
            refine E_iasg (n := 6) (j := k) rfl (hL.lt 50 rfl) (hL.k 50 rfl) (hL.l 50 rfl) (by omega) (by omega) (fun c_1 hc_1 => ?_)
            have hE_1 : Eqk P51 c c_1 := by rw [hc_1]; exact Eqk.up rfl
            have hM_1 : Mc c_1 := by rw [hc_1]; exact hM.upo rfl
            have hs_1 : c_1 44 = s := by rw [hc_1]; exact (up2_oth rfl).trans hs
            have ht := takeB hx64 (show i < 6 by omega) q6
            have hci := clI_in (x := mood + syS s i)
            have hO2 : OrdR K (k + 1) (fun j => if j = k then (i : Int) else p j) (upG G (fl k p (boF (boS s n) s x mood i))) c_1 := by
              refine ⟨?_, fun j hj => ?_, fun j hj => ?_⟩
              · rw [hc_1, up2_fld rfl]; exact hO.1
              · rw [hc_1, up2_oth rfl]; exact hO.2.1 j hj
              · rw [hc_1, up2_row]
                unfold upd1
                by_cases e : j = k
                · rw [if_pos e]; exact (if_pos e).symm
                · rw [if_neg e]; exact (hO.2.2 j (by omega)).trans (if_neg e).symm
            have hUG : -1000000 ≤ (upG G (fl k p (boF (boS s n) s x mood i))).1 ∧ (upG G (fl k p (boF (boS s n) s x mood i))).1 ≤ 99 := by
              unfold upG
              split
              · exact hbin
              · exact hGr
            have h49_1 : c_1 49 = f49 := by rw [hc_1, up2_oth rfl]; exact h49c
            refine E_load rfl rfl rfl ?_
            refine E_load rfl rfl rfl ?_
            refine E_const rfl ?_
            refine E_add rfl ?_
            refine E_load rfl rfl rfl ?_
            refine E_const rfl ?_
            refine E_load rfl rfl rfl ?_
            refine E_bit (z := (mBit 8 1 ((i : Nat) : Int))) rfl rfl rfl ?_
            refine E_const rfl ?_
            refine E_bit (z := (mBit 7 (mBit 8 1 ((i : Nat) : Int)) (-1))) rfl rfl rfl ?_
            refine E_bit rfl rfl (ht.1.2.2) ?_
            refine E_load rfl rfl rfl ?_
            refine E_load rfl rfl rfl ?_
            refine E_getr (c := 12) (r := 49) rfl (hL.lt 43 rfl) (hL.k 43 rfl) rfl hM_1.c12 ?_
            refine E_load rfl rfl rfl ?_
            refine E_ialn (n := 6) (v := (syS s i)) rfl (hL.lt 49 rfl) (hL.k 49 rfl) (hL.l 49 rfl) (by omega) ((rdS h49_1 (by omega)).trans (hsay i (by omega))) ?_
            refine E_add rfl ?_
            refine E_const rfl ?_
            refine E_const rfl ?_
            refine E_S3 (y := 140) rfl rfl rfl rfl rfl (m_within (by omega) (by omega) (by omega)) (fun r h2 hq => ?_)
            obtain ⟨rfl, hh⟩ := hq
            subst hh
            refine E_V3 (q := 43) (c := 12) (y := 193) rfl rfl (hL.lt 43 rfl) (hL.k 43 rfl) rfl rfl rfl rfl (ih (k + 1) (x - 2 ^ i) (clI (mood + syS s i) (-99) 99) (by omega) (hx.tk (by omega) q6) (by have := ht.1.2.1; omega) hci _ _ hUG c_1 hM_1 hs_1 h49_1 hO2) (fun r h2 hq => ?_)
            obtain ⟨rfl, c_2, hh, hO3, hE_2⟩ := hq
            subst hh
            have hM_2 := hM_1.p51 hE_2
            have hs_2 : c_2 44 = s := (hE_2.row 44 (fun _ => rfl)).trans hs_1
            have h49_2 : c_2 49 = f49 := (hE_2.row 49 (fun _ => rfl)).trans h49_1
            refine E_iinc rfl rfl rfl ?_
            refine E_goto rfl ?_
            refine (ihm (i + 1) (by omega) c_2 hM_2 hs_2 h49_2 ?_).mono ?_
            · rw [boF, if_pos q6, fl_up, ← upG_assoc, ← fl_cons]
              refine ⟨hO3.1, hO3.2.1, fun j hj => (hO3.2.2 j (by omega)).trans (if_neg (by omega))⟩
            rintro r hE ⟨e1, c9, e2, e4, e3⟩
            exact ⟨e1, c9, e2, e4, Eqk.trans (hE_1.trans hE_2) e3⟩
    show Ex _ none t_X11_ordersFrom 0 0 _ [] (wC h c) _
    refine E_load rfl rfl rfl ?_
    refine E_if1 rfl (by omega) (fun q1 => ?_) (fun q1 => ?_)
    · refine E_const rfl ?_
      refine E_store rfl rfl rfl ?_
      refine loop _ 0 (Nat.zero_add _) c hM hs h49c ?_
      rw [show upG G (fl k p (boF (boS s n) s x mood 0)) = G from if_neg (show ¬ G.1 < -1000000 by omega)]
      exact hO
    · exfalso; omega
