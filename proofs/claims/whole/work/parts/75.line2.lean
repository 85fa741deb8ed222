theorem tkX0 : ∀ x : Fin 64, ∀ b : Fin 6, bt x.val b.val = 1 → mBit 7 ((x.val : Nat) : Int) (mBit 8 1 ((b.val : Nat) : Int)) = ((x.val - 2 ^ b.val : Nat) : Int) := by decide +kernel
theorem tkX {x b : Nat} (hx : x < 64) (hb : b < 6) (h : bt x b = 1) : mBit 7 (x : Int) (mBit 8 1 (b : Int)) = ((x - 2 ^ b : Nat) : Int) := tkX0 ⟨x, hx⟩ ⟨b, hb⟩ h
/-- the best line over the first i bottles -/
def bsV (s : Nat → Int) (k o x : Nat) (mood : Int) (i : Nat) : Int := if (boF (boS s k) s x mood i).1 = -1000000 then -1 else (cdN o (k + 1) (boF (boS s k) s x mood i) : Int)
theorem bsV_no {s : Nat → Int} {k o x i : Nat} {mood : Int} (h : bt x i ≠ 1) : bsV s k o x mood (i + 1) = bsV s k o x mood i := by
  unfold bsV
  rw [show boF (boS s k) s x mood (i + 1) = boF (boS s k) s x mood i by rw [boF, if_neg h]]
theorem bsV_new {s : Nat → Int} {k o x i : Nat} {mood : Int} (h : bt x i = 1) (hi : i < 6) (hr : -99 ≤ (boS s k (x - 2 ^ i) (clI (mood + syS s i) (-99) 99)).1) (hl : (boF (boS s k) s x mood i).1 < (boS s k (x - 2 ^ i) (clI (mood + syS s i) (-99) 99)).1) : bsV s k o x mood (i + 1) = (cdN (o * 8 + i) k (boS s k (x - 2 ^ i) (clI (mood + syS s i) (-99) 99)) : Int) := by
  have e : boF (boS s k) s x mood (i + 1) = consR i (boS s k (x - 2 ^ i) (clI (mood + syS s i) (-99) 99)) := by
    rw [boF, if_pos h]
    exact if_pos hl
  unfold bsV
  rw [e, if_neg (show ¬ (consR i (boS s k (x - 2 ^ i) (clI (mood + syS s i) (-99) 99))).1 = -1000000 from fun e => by
    have e2 : (boS s k (x - 2 ^ i) (clI (mood + syS s i) (-99) 99)).1 = -1000000 := e
    omega), cdN_cons hi]
theorem bsV_old {s : Nat → Int} {k o x i : Nat} {mood : Int} (h : bt x i = 1) (hl : ¬ (boF (boS s k) s x mood i).1 < (boS s k (x - 2 ^ i) (clI (mood + syS s i) (-99) 99)).1) : bsV s k o x mood (i + 1) = bsV s k o x mood i := by
  have e : boF (boS s k) s x mood (i + 1) = boF (boS s k) s x mood i := by
    rw [boF, if_pos h]
    exact if_neg hl
  unfold bsV
  rw [e]
theorem bsV_in {s : Nat → Int} {k o x i : Nat} {mood : Int} (ho : o < 8 ^ (6 - (k + 1))) (hk : k ≤ 5) (h : (boF (boS s k) s x mood i).1 ≤ 99) : -1 ≤ bsV s k o x mood i ∧ bsV s k o x mood i ≤ 52166656 := by
  unfold bsV
  split
  · omega
  · have := cdN_lt (r := boF (boS s k) s x mood i) ho (show 6 - (k + 1) + (k + 1) = 6 by omega) h
    omega
theorem boF_or {rec : Nat → Int → GR} {s : Nat → Int} {x : Nat} {mood : Int} (hr : ∀ b, b < 6 → bt x b = 1 → ∀ m, -99 ≤ m ∧ m ≤ 99 → -99 ≤ (rec (x - 2 ^ b) m).1) : ∀ n, n ≤ 6 → (boF rec s x mood n).1 = -1000000 ∨ -99 ≤ (boF rec s x mood n).1
  | 0, _ => Or.inl rfl
  | n + 1, hn => by
    have ih := boF_or (mood := mood) (s := s) hr n (by omega)
    rw [boF]
    by_cases hb : bt x n = 1
    · rw [if_pos hb]
      unfold upG
      split
      · exact Or.inr (hr n (by omega) hb _ clI_in)
      · exact ih
    · rw [if_neg hb]
      exact ih
set_option maxHeartbeats 4000000 in
set_option maxRecDepth 100000 in
theorem c_moodOf {d : Nat} {h : Hp} {c : Nat → Nat → Int} {o k m : Nat} {gr : GR} (ho : o < 8 ^ m) (hm : m + k = 6) (hr : -99 ≤ gr.1 ∧ gr.1 ≤ 99) : Ok (d) 130 [(0, (cdN o k gr : Int))] (wC h c) (fun r h2 => r = some (0, gr.1) ∧ h2 = wC h c) := by
  show Ex _ none t_X10_moodOf 0 0 _ [] (wC h c) _
  refine E_load rfl rfl rfl ?_
  refine E_const rfl ?_
  refine E_bit (z := (gr.1 + 99)) rfl rfl (((B_shrk (k := 18) (by have := cdN_lt (r := gr) ho hm hr.2; omega) (by decide)).trans (by rw [cdN_mood ho hm]; omega))) ?_
  refine E_const rfl ?_
  refine E_sub rfl ?_
  refine E_iret rfl (fun h => absurd h (by decide)) ?_
  exact ⟨by rw [show gr.1 + 99 - 99 = gr.1 by omega], rfl⟩
set_option maxHeartbeats 4000000 in
set_option maxRecDepth 100000 in
theorem Cl_best {d : Nat} {h : Hp} {B : Nat → Nat} {s im : Nat → Int} {hi : Int} {L : List Int} (hL : Lay h) (hG : InvG s) {k x o : Nat} {mood : Int} (hBN : BN s x) (hk5 : k ≤ 5) (hcx : cnN x 6 = k + 1) (hmd : -99 ≤ mood ∧ mood ≤ 99) (ho : o < 8 ^ (6 - (k + 1))) : ∀ (n i : Nat), i + n = (s 29).toNat → ∀ (a : Int) (v6 : AV), a = bsV s k o x mood i → ∀ c, RepC h c B s im hi L → SaidR c s → (∀ (x2 : Nat) (m2 : Int) (o2 : Nat), BN s x2 → cnN x2 6 = k → (-99 ≤ m2 ∧ m2 ≤ 99) → o2 < 8 ^ (6 - k) → Ok (d + k + 2) 129 [(1, ((22 : Nat) : Int)), (0, (x2 : Int)), (0, m2), (0, (o2 : Int))] (wC h c) (fun r h2 => r = some (0, (cdN o2 k (boS s k x2 m2) : Int)) ∧ h2 = wC h c)) → Ex (d + k + 3) none t_X10_bestLine 0 29 [(1, ((22 : Nat) : Int)), (0, (x : Int)), (0, mood), (0, (o : Int)), (0, a), (0, (i : Int)), v6] [] (wC h c) (fun r h2 => r = some (0, bsV s k o x mood (s 29).toNat) ∧ h2 = wC h c) := by
  have hGG := hG
  obtain ⟨hI, hH, ⟨⟨n29, n30, n31, n32, n33, n34, n36⟩, nM⟩⟩ := hGG
  have hx := hBN.1
  have ho2 : o < 32768 := Nat.lt_of_lt_of_le ho (show 8 ^ (6 - (k + 1)) ≤ 8 ^ 5 from Nat.pow_le_pow_right (by decide) (by omega))
  intro n
  induction n with
  | zero =>
    intro i hin a v6 ha c hR hSd hrec
    refine E_load rfl rfl rfl ?_
    refine E_load rfl rfl rfl ?_
    refine E_getf (c := 8) (v := (0, (s 29))) rfl (hL.lt 22 rfl) (hL.k 22 rfl) rfl (fv (hSd.1)) ?_
    refine E_cmp3 rfl (by omega) (fun q1 => ?_) (fun q1 => ?_)
    · refine E_load rfl rfl rfl ?_
      refine E_iret rfl (fun h => absurd h (by decide)) ?_
      exact ⟨by rw [ha, show i = (s 29).toNat by omega], rfl⟩
    · exfalso; omega
  | succ n ih =>
    intro i hin a v6 ha c hR hSd hrec
    refine E_load rfl rfl rfl ?_
    refine E_load rfl rfl rfl ?_
    refine E_getf (c := 8) (v := (0, (s 29))) rfl (hL.lt 22 rfl) (hL.k 22 rfl) rfl (fv (hSd.1)) ?_
    refine E_cmp3 rfl (by omega) (fun q1 => ?_) (fun q1 => ?_)
    · exfalso; omega
    · refine E_load rfl rfl rfl ?_
      refine E_load rfl rfl rfl ?_
      refine E_S2 (y := 112) rfl rfl rfl rfl rfl (c_isIn (by omega) (by omega)) (fun r h2 hq => ?_)
      obtain ⟨rfl, hh⟩ := hq
      subst hh
      refine E_if0 rfl (bI_R _) (fun q2 => ?_) (fun q2 => ?_)
      · replace q2 := bI_z q2
        refine E_iinc rfl rfl rfl ?_
        refine E_goto rfl ?_
        exact ih (i + 1) (by omega) _ _ (by rw [ha, bsV_no (by omega)]) c hR hSd hrec
      · replace q2 := bI_nz q2
        have hb1 : bt x i = 1 := by have := bt_01 x i; omega
        have hbs := hG.bs (b := i) (by omega)
        have htk := takeB hx (show i < 6 by omega) hb1
        have hrr := boS_in n29.2 k (x - 2 ^ i) (hBN.tk (by omega) hb1) (by have := htk.1.2.1; omega) (clI (mood + syS s i) (-99) 99) clI_in
        have hgr := (boF_in (rec := boS s k) (s := s) (x := x) (mood := mood) (fun b hb6 hb1 m hm => boS_in n29.2 k _ (hBN.tk hb6 hb1) (by have := (takeB hx hb6 hb1).1.2.1; omega) m hm) i (by omega))
        have hgo := boF_or (rec := boS s k) (s := s) (x := x) (mood := mood) (fun b hb6 hb1 m hm => (boS_in n29.2 k _ (hBN.tk hb6 hb1) (by have := (takeB hx hb6 hb1).1.2.1; omega) m hm).1) i (by omega)
        have hba : -1 ≤ a ∧ a ≤ 52166656 := by rw [ha]; exact bsV_in ho hk5 hgr.1.2
        refine E_load rfl rfl rfl ?_
        refine E_load rfl rfl rfl ?_
        refine E_const rfl ?_
        refine E_load rfl rfl rfl ?_
        refine E_bit (z := (mBit 8 1 ((i : Nat) : Int))) rfl rfl rfl ?_
        refine E_bit (z := (((x - 2 ^ i) : Nat) : Int)) rfl rfl (tkX hx (by omega) hb1) ?_
        refine E_load rfl rfl rfl ?_
        refine E_load rfl rfl rfl ?_
        refine E_load rfl rfl rfl ?_
        refine E_const rfl ?_
        refine E_V2 (q := 22) (c := 8) (y := 60) rfl rfl (hL.lt 22 rfl) (hL.k 22 rfl) rfl rfl rfl rfl (s_atv (v := syS s i) (sh22 hL hR.C) (by decide) (by decide) (by omega) (by omega) (by rw [hSd.1]; omega) (by rw [hSd.1]; omega) (atM (by rw [hSd.1]; omega) (hSd.2 i (by omega)))) (fun r h2 hq => ?_)
        obtain ⟨rfl, hh⟩ := hq
        subst hh
        refine E_add rfl ?_
        refine E_S1 (y := 114) rfl rfl rfl rfl rfl (c_held (by omega)) (fun r h2 hq => ?_)
        obtain ⟨rfl, hh⟩ := hq
        subst hh
        refine E_load rfl rfl rfl ?_
        refine E_const rfl ?_
        refine E_bit (z := (mBit 8 ((o : Nat) : Int) 3)) rfl rfl rfl ?_
        refine E_load rfl rfl rfl ?_
        refine E_bit (z := (((o * 8 + i) : Nat) : Int)) rfl rfl (B_put (k := 3) (by omega) (by decide) (by omega)) ?_
        refine E_S4 (y := 129) rfl rfl rfl rfl rfl (hrec (x - 2 ^ i) _ (o * 8 + i) (hBN.tk (by omega) hb1) (by have := htk.1.2.1; omega) clI_in (by rw [show 6 - k = 6 - (k + 1) + 1 by omega, Nat.pow_succ]; generalize 8 ^ (6 - (k + 1)) = q8 at *; omega)) (fun r h2 hq => ?_)
        obtain ⟨rfl, hh⟩ := hq
        subst hh
        refine E_store rfl rfl rfl ?_
        refine E_load rfl rfl rfl ?_
        refine E_if2 rfl (by omega) (fun q3 => ?_) (fun q3 => ?_)
        · have hg : (boF (boS s k) s x mood i).1 = -1000000 := Classical.byContradiction fun e => by
            unfold bsV at ha
            rw [if_neg e] at ha
            omega
          refine E_load rfl rfl rfl ?_
          refine E_store rfl rfl rfl ?_
          refine E_iinc rfl rfl rfl ?_
          refine E_goto rfl ?_
          exact ih (i + 1) (by omega) _ _ (bsV_new hb1 (by omega) hrr.1 (by omega)).symm c hR hSd hrec
        · have hg : ¬ (boF (boS s k) s x mood i).1 = -1000000 := fun e => by
            unfold bsV at ha
            rw [if_pos e] at ha
            omega
          unfold bsV at ha
          rw [if_neg hg] at ha
          subst ha
          refine E_load rfl rfl rfl ?_
          refine E_S1 (y := 130) rfl rfl rfl rfl rfl (c_moodOf (m := 6 - k) (by rw [show 6 - k = 6 - (k + 1) + 1 by omega, Nat.pow_succ]; generalize 8 ^ (6 - (k + 1)) = q8 at *; omega) (by omega) hrr) (fun r h2 hq => ?_)
          obtain ⟨rfl, hh⟩ := hq
          subst hh
          refine E_load rfl rfl rfl ?_
          refine E_S1 (y := 130) rfl rfl rfl rfl rfl (c_moodOf (m := 6 - (k + 1)) ho (by omega) ⟨hgo.resolve_left hg, hgr.1.2⟩) (fun r h2 hq => ?_)
          obtain ⟨rfl, hh⟩ := hq
          subst hh
          refine E_cmp5 rfl (by omega) (fun q4 => ?_) (fun q4 => ?_)
          · refine E_iinc rfl rfl rfl ?_
            refine E_goto rfl ?_
            exact ih (i + 1) (by omega) _ _ (by rw [bsV_old hb1 (by omega)]; unfold bsV; rw [if_neg hg]) c hR hSd hrec
          · refine E_load rfl rfl rfl ?_
            refine E_store rfl rfl rfl ?_
            refine E_iinc rfl rfl rfl ?_
            refine E_goto rfl ?_
            exact ih (i + 1) (by omega) _ _ (bsV_new hb1 (by omega) hrr.1 (by omega)).symm c hR hSd hrec
theorem bsV_top {s : Nat → Int} (h29 : s 29 ≤ 6) {k o x : Nat} {mood : Int} (hBN : BN s x) (hcx : cnN x 6 = k + 1) (hmd : -99 ≤ mood ∧ mood ≤ 99) : bsV s k o x mood (s 29).toNat = (cdN o (k + 1) (boS s (k + 1) x mood) : Int) := by
  have h1 := boS_in h29 (k + 1) x hBN hcx mood hmd
  show (if (boS s (k + 1) x mood).1 = -1000000 then -1 else (cdN o (k + 1) (boS s (k + 1) x mood) : Int)) = _
  rw [if_neg (by omega)]
theorem cdN_0 {s : Nat → Int} {o x : Nat} {mood : Int} (hmd : -99 ≤ mood ∧ mood ≤ 99) (ho : o < 8 ^ 6) : mBit 6 (mBit 8 (mood + 99) 18) (o : Int) = (cdN o 0 (boS s 0 x mood) : Int) := by
  obtain ⟨m, hm⟩ := Int.eq_ofNat_of_zero_le (show 0 ≤ mood + 99 by omega)
  have e : mBit 6 (mBit 8 ((m : Nat) : Int) ((18 : Nat) : Int)) ((o : Nat) : Int) = ((m * 2 ^ 18 + o : Nat) : Int) := B_put (by omega) (by decide) ho
  rw [hm]
  refine e.trans ?_
  show _ = (((mood + 99).toNat * 262144 + o : Nat) : Int)
  rw [hm]
  rfl
set_option maxHeartbeats 4000000 in
set_option maxRecDepth 100000 in
theorem c_best {d : Nat} {h : Hp} {c : Nat → Nat → Int} {B : Nat → Nat} {s im : Nat → Int} {hi : Int} {L : List Int} (hL : Lay h) (hR : RepC h c B s im hi L) (hG : InvG s) (hSd : SaidR c s) : ∀ (k x : Nat) (mood : Int) (o : Nat), BN s x → cnN x 6 = k → (-99 ≤ mood ∧ mood ≤ 99) → o < 8 ^ (6 - k) → Ok (d + k + 2) 129 [(1, ((22 : Nat) : Int)), (0, (x : Int)), (0, mood), (0, (o : Int))] (wC h c) (fun r h2 => r = some (0, (cdN o k (boS s k x mood) : Int)) ∧ h2 = wC h c)
  | 0, x, mood, o, hBN, hcx, hmd, ho => by
    have hx0 := cn0 ⟨x, hBN.1⟩ hcx
    have hx0 : x = 0 := hx0
    show Ex _ none t_X10_bestLine 0 0 _ [] (wC h c) _
    refine E_load rfl rfl rfl ?_
    refine E_if0 rfl (by omega) (fun q1 => ?_) (fun q1 => ?_)
    · refine E_load rfl rfl rfl ?_
      refine E_const rfl ?_
      refine E_add rfl ?_
      refine E_const rfl ?_
      refine E_bit (z := (mBit 8 (mood + 99) 18)) rfl rfl rfl ?_
      refine E_load rfl rfl rfl ?_
      refine E_bit (z := (((cdN o 0 (boS s 0 x mood)) : Nat) : Int)) rfl rfl (cdN_0 hmd ho) ?_
      refine E_iret rfl (fun h => absurd h (by decide)) ?_
      exact ⟨rfl, rfl⟩
    · exfalso; omega
  | k + 1, x, mood, o, hBN, hcx, hmd, ho => by
    have ih := c_best (d := d) hL hR hG hSd k
    have hx := hBN.1
    have hx0 : x ≠ 0 := fun e => by rw [e] at hcx; cases hcx
    have hk6 : k + 1 ≤ 6 := by rw [← hcx]; exact cnN_le x 6
    have n29 := hG.2.2.1.1
    show Ex _ none t_X10_bestLine 0 0 _ [] (wC h c) _
    refine E_load rfl rfl rfl ?_
    refine E_if0 rfl (by omega) (fun q1 => ?_) (fun q1 => ?_)
    · exfalso; omega
    · refine E_load rfl rfl rfl ?_
      refine E_S1 (y := 228) rfl rfl rfl rfl rfl (j_bitCount (by omega)) (fun r h2 hq => ?_)
      obtain ⟨rfl, hh⟩ := hq
      subst hh
      refine E_const rfl ?_
      refine E_cmp5 rfl (by omega) (fun q2 => ?_) (fun q2 => ?_)
      · refine E_const rfl ?_
        refine E_store rfl rfl rfl ?_
        refine E_const rfl ?_
        refine E_store rfl rfl rfl ?_
        have hz0 : (-1 : Int) = bsV s k o x mood 0 := (if_pos rfl).symm
        refine (Cl_best hL hG hBN (by have := cnN_le x 6; omega) hcx hmd ho _ 0 (Nat.zero_add _) _ _ hz0 c hR hSd (fun x2 m2 o2 g1 g2 g3 g4 => ih x2 m2 o2 g1 g2 g3 g4)).mono ?_
        rintro r hE ⟨rfl, rfl⟩
        exact ⟨by rw [bsV_top n29.2 hBN hcx hmd], rfl⟩
      · exfalso; omega
