theorem c_sayN {d : Nat} {h : Hp} {c : Nat → Nat → Int} {B : Nat → Nat} {s im : Nat → Int} {hi : Int} {L : List Int} (hL : Lay h) (hR : RepC h c B s im hi L) (hG : InvG s) {b : Nat} (hb : (b : Int) < s 29) : Ok (d + 8) 122 [(1, ((0 : Nat) : Int)), (1, ((B b : Nat) : Int)), (1, ((B b + 1 : Nat) : Int))] (wC h c) (fun r h2 => r = some (0, syS s b) ∧ h2 = wC h c) := by
  obtain ⟨cl, k1, k2⟩ := hR.held
  obtain ⟨b1, b2, b3⟩ := hR.bot b hb
  exact c_says hL hR.C k1 hG.1 k2 b1 b1.2.2.1 b2 (by have := hG.2.2.1; omega)
theorem c_sayT {d : Nat} {h : Hp} {c : Nat → Nat → Int} {B : Nat → Nat} {s im t : Nat → Int} {hi : Int} {L : List Int} (hL : Lay h) (hR : RepC h c B s im hi L) (hG : InvG s) (hGt : InvG t) {b : Nat} (hb : (b : Int) < s 29) (hV : LaidS c (B b + 5) t b) (e : ∀ k, 29 ≤ k → (k < 37 ∨ 228 ≤ k) → t k = s k) (e2 : t (37 + b) = s (37 + b)) : Ok (d + 8) 122 [(1, ((0 : Nat) : Int)), (1, ((B b : Nat) : Int)), (1, ((B b + 5 : Nat) : Int))] (wC h c) (fun r h2 => r = some (0, syS t b) ∧ h2 = wC h c) := by
  obtain ⟨cl, k1, k2⟩ := hR.held
  obtain ⟨b1, b2, b3⟩ := hR.bot b hb
  exact c_says hL hR.C k1 hGt.1 (k2.ofE hG.2.1 e) (by rw [e2]; exact b1) b1.2.2.2.2 hV (by have := hG.2.2.1; omega)
theorem c_beh {d : Nat} {h : Hp} {c : Nat → Nat → Int} {B : Nat → Nat} {s im : Nat → Int} {hi : Int} {L : List Int} (hR : RepC h c B s im hi L) (hG : InvG s) {b n : Nat} (hb : (b : Int) < s 29) (hn : n ≤ 100) : Ok (d + 3) 14 [(1, ((B b : Nat) : Int)), (0, (n : Int))] (wC h c) (fun r h2 => r = some (1, ((B b + 5 : Nat) : Int)) ∧ ∃ c2, h2 = wC h c2 ∧ LaidS c2 (B b + 5) (goN s n) b ∧ EqP (ScrP B (s 29)) c c2) := by
  obtain ⟨b1, b2, b3⟩ := hR.bot b hb
  obtain ⟨i1, i2, i3, i4, i5, i6, i7⟩ := hG.1 b (by have := hG.2.2.1; omega)
  refine (b_behind b1 b2 i4 i2 (by omega)).mono ?_
  rintro r hE ⟨h1, c2, h2, h3, h4⟩
  exact ⟨h1, c2, h2, laid_go hG hb h3, h4.mono fun a k e => scr_try hb a k e⟩
theorem c_now {d : Nat} {h : Hp} {c : Nat → Nat → Int} {B : Nat → Nat} {s im : Nat → Int} {hi : Int} {L : List Int} (hR : RepC h c B s im hi L) (hG : InvG s) {b : Nat} (hb : (b : Int) < s 29) : Ok (d + 2) 13 [(1, ((B b : Nat) : Int))] (wC h c) (fun r h2 => r = some (1, ((B b + 5 : Nat) : Int)) ∧ ∃ c2, h2 = wC h c2 ∧ LaidS c2 (B b + 5) s b ∧ EqP (ScrP B (s 29)) c c2) := by
  obtain ⟨b1, b2, b3⟩ := hR.bot b hb
  obtain ⟨i1, i2, i3, i4, i5, i6, i7⟩ := hG.1 b (by have := hG.2.2.1; omega)
  refine (b_tryNow b1 b2 i4).mono ?_
  rintro r hE ⟨h1, c2, h2, h3, h4⟩
  exact ⟨h1, c2, h2, h3, h4.mono fun a k e => scr_try hb a k e⟩
theorem c_calmR {d : Nat} {h : Hp} {c : Nat → Nat → Int} {B : Nat → Nat} {s im : Nat → Int} {hi : Int} {L : List Int} (hL : Lay h) (hR : RepC h c B s im hi L) : Ok (d + 3) 23 [(1, ((28 : Nat) : Int))] (wC h c) (fun r h2 => r = some (0, tlI s 228 0) ∧ h2 = wC h c) := by
  obtain ⟨cl, k1, k2⟩ := hR.held
  rw [k2.2.1]
  exact c_calm hL hR.C k1
theorem c_peaceR {d : Nat} {h : Hp} {c : Nat → Nat → Int} {B : Nat → Nat} {s im : Nat → Int} {hi : Int} {L : List Int} (hL : Lay h) (hR : RepC h c B s im hi L) : Ok (d + 3) 24 [(1, ((28 : Nat) : Int))] (wC h c) (fun r h2 => r = some (0, tlI s 233 5) ∧ h2 = wC h c) := by
  obtain ⟨cl, k1, k2⟩ := hR.held
  rw [k2.2.2]
  exact c_peace hL hR.C k1
set_option maxHeartbeats 4000000 in
set_option maxRecDepth 100000 in
theorem c_isG {d : Nat} {h : Hp} {c : Nat → Nat → Int} {B : Nat → Nat} {s im : Nat → Int} {hi : Int} {L : List Int} (hL : Lay h) (hR : RepC h c B s im hi L) (hG : InvG s) {x : Int} (hx : inR x) : Ok (d) 119 [(1, ((0 : Nat) : Int)), (0, x)] (wC h c) (fun r h2 => r = some (0, bI (0 ≤ x ∧ x < s 36)) ∧ h2 = wC h c) := by
  show Ex _ none t_X10_isGuest 3 0 _ [] (wC h c) _
  have hGG := hG
  obtain ⟨hI, hH, ⟨⟨n29, n30, n31, n32, n33, n34, n36⟩, nM⟩⟩ := hGG
  refine E_load rfl rfl rfl ?_
  refine E_if2 rfl (by omega) (fun q1 => ?_) (fun q1 => ?_)
  · refine E_const rfl ?_
    refine E_iret rfl (fun _ => by decide) ?_
    exact ⟨by first | (rw [bI_t (by omega)]) | (rw [bI_f (by omega)]), rfl⟩
  · refine E_load rfl rfl rfl ?_
    refine E_load rfl rfl rfl ?_
    refine E_getr (c := 11) (r := 4) rfl (hL.lt 0 rfl) (hL.k 0 rfl) rfl (hR.C.g 0 1 4 (by decide)) ?_
    refine E_getf (c := 8) (v := (0, (s 36))) rfl (hL.lt 4 rfl) (hL.k 4 rfl) rfl (fv (hR.mood.1)) ?_
    refine E_cmp3 rfl (by omega) (fun q2 => ?_) (fun q2 => ?_)
    · refine E_const rfl ?_
      refine E_iret rfl (fun _ => by decide) ?_
      exact ⟨by first | (rw [bI_t (by omega)]) | (rw [bI_f (by omega)]), rfl⟩
    · refine E_const rfl ?_
      refine E_goto rfl ?_
      refine E_iret rfl (fun _ => by decide) ?_
      exact ⟨by first | (rw [bI_t (by omega)]) | (rw [bI_f (by omega)]), rfl⟩
theorem atM {c : Nat → Nat → Int} {a i : Nat} {x : Int} (hi : (i : Int) < c a 3) (h : c (a + 1) i = x) : atS c a 1 (i : Int) 0 = x := atS_of (k := 0) hi (by decide) (by rw [Nat.mul_one]; exact h)
set_option maxRecDepth 100000 in
theorem cl_sum {d : Nat} {h : Hp} {c : Nat → Nat → Int} {t : Nat → Int} {a : Nat} (hS : Sh h c a 1 4) (hM : MoodR (c a 3) (c (a + 1)) t) (n36 : 0 ≤ t 36 ∧ t 36 ≤ 4) : ∀ (n i : Nat) (z : Int), i + n = (t 36).toNat → z = sm (fun b => t (25 + b)) i → Ex (d + 1) none t_X10_sum 0 4 [(1, ((a : Nat) : Int)), (0, z), (0, (i : Int))] [] (wC h c) (fun r h2 => r = some (0, amS t) ∧ h2 = wC h c) := by
  intro n
  induction n with
  | zero =>
    intro i z hi hz
    refine E_load rfl rfl rfl ?_
    refine E_load rfl rfl rfl ?_
    refine E_getf (c := 8) (v := (0, (t 36))) rfl (by have := hS.1; omega : a < mN h) hS.2.1 rfl (fv (hM.1)) ?_
    refine E_cmp3 rfl (by omega) (fun q1 => ?_) (fun q1 => ?_)
    · refine E_load rfl rfl rfl ?_
      refine E_iret rfl (fun h => absurd h (by decide)) ?_
      exact ⟨by rw [hz, show i = (t 36).toNat by omega]; rfl, rfl⟩
    · exfalso; omega
  | succ n ih =>
    intro i z hi hz
    refine E_load rfl rfl rfl ?_
    refine E_load rfl rfl rfl ?_
    refine E_getf (c := 8) (v := (0, (t 36))) rfl (by have := hS.1; omega : a < mN h) hS.2.1 rfl (fv (hM.1)) ?_
    refine E_cmp3 rfl (by omega) (fun q1 => ?_) (fun q1 => ?_)
    · exfalso; omega
    · refine E_load rfl rfl rfl ?_
      refine E_load rfl rfl rfl ?_
      refine E_load rfl rfl rfl ?_
      refine E_const rfl ?_
      refine E_V2 (q := a) (c := 8) (y := 60) rfl rfl (by have := hS.1; omega : a < mN h) hS.2.1 rfl rfl rfl rfl (s_atv hS (by decide) (by decide) (by omega) (by omega) (by rw [hM.1]; omega) (by rw [hM.1]; omega) (atM (by rw [hM.1]; omega) (hM.2 i (by omega)))) (fun r h2 hq => ?_)
      obtain ⟨rfl, hh⟩ := hq
      subst hh
      refine E_add rfl ?_
      refine E_store rfl rfl rfl ?_
      refine E_iinc rfl rfl rfl ?_
      refine E_goto rfl ?_
      exact ih (i + 1) _ (by omega) (by rw [hz]; rfl)
set_option maxHeartbeats 4000000 in
set_option maxRecDepth 100000 in
theorem c_sum {d : Nat} {h : Hp} {c : Nat → Nat → Int} {t : Nat → Int} {a : Nat} (hS : Sh h c a 1 4) (hM : MoodR (c a 3) (c (a + 1)) t) (n36 : 0 ≤ t 36 ∧ t 36 ≤ 4) : Ok (d + 1) 117 [(1, ((a : Nat) : Int))] (wC h c) (fun r h2 => r = some (0, amS t) ∧ h2 = wC h c) := by
  show Ex _ none t_X10_sum 0 0 _ [] (wC h c) _
  refine E_const rfl ?_
  refine E_store rfl rfl rfl ?_
  refine E_const rfl ?_
  refine E_store rfl rfl rfl ?_
  exact cl_sum hS hM n36 _ 0 0 (Nat.zero_add _) rfl
set_option maxHeartbeats 4000000 in
set_option maxRecDepth 100000 in
theorem cl_full {d : Nat} {h : Hp} {B : Nat → Nat} {s im : Nat → Int} {hi : Int} {L : List Int} (hL : Lay h) (hG : InvG s)  : ∀ (n i : Nat), i + n = (s 29).toNat → ∀ (a : Int), a = orL (fun b => decide (s (19 + b) = 0)) i → ∀ c, RepC h c B s im hi L → Ex (d + 4) none t_X10_fullOnes 0 4 [(1, ((0 : Nat) : Int)), (0, a), (0, (i : Int))] [] (wC h c) (fun r h2 => r = some (0, (fuN s : Int)) ∧ h2 = wC h c) := by
  have hGG := hG
  obtain ⟨hI, hH, ⟨⟨n29, n30, n31, n32, n33, n34, n36⟩, nM⟩⟩ := hGG
  intro n
  induction n with
  | zero =>
    intro i hin a ha c hR 
    refine E_load rfl rfl rfl ?_
    refine E_load rfl rfl rfl ?_
    refine E_getr (c := 11) (r := 42) rfl (hL.lt 0 rfl) (hL.k 0 rfl) rfl (hR.C.g 0 11 42 (by decide)) ?_
    refine E_V0 (q := 42) (c := 0) (y := 3) rfl rfl (hL.lt 42 rfl) (hL.k 42 rfl) rfl rfl rfl rfl (j_size hL hR.list) (fun r h2 hq => ?_)
    obtain ⟨rfl, hh⟩ := hq
    subst hh
    refine E_cmp3 rfl (by omega) (fun q1 => ?_) (fun q1 => ?_)
    · refine E_load rfl rfl rfl ?_
      refine E_iret rfl (fun h => absurd h (by decide)) ?_
      exact ⟨by rw [ha, ← fuS_N n29.2, show i = (s 29).toNat by omega]; rfl, rfl⟩
    · exfalso; omega
  | succ n ih =>
    intro i hin a ha c hR 
    refine E_load rfl rfl rfl ?_
    refine E_load rfl rfl rfl ?_
    refine E_getr (c := 11) (r := 42) rfl (hL.lt 0 rfl) (hL.k 0 rfl) rfl (hR.C.g 0 11 42 (by decide)) ?_
    refine E_V0 (q := 42) (c := 0) (y := 3) rfl rfl (hL.lt 42 rfl) (hL.k 42 rfl) rfl rfl rfl rfl (j_size hL hR.list) (fun r h2 hq => ?_)
    obtain ⟨rfl, hh⟩ := hq
    subst hh
    refine E_cmp3 rfl (by omega) (fun q1 => ?_) (fun q1 => ?_)
    · exfalso; omega
    · refine E_load rfl rfl rfl ?_
      refine E_getr (c := 11) (r := 42) rfl (hL.lt 0 rfl) (hL.k 0 rfl) rfl (hR.C.g 0 11 42 (by decide)) ?_
      refine E_load rfl rfl rfl ?_
      refine E_V1 (q := 42) (c := 0) (y := 5) rfl rfl (hL.lt 42 rfl) (hL.k 42 rfl) rfl rfl rfl rfl (j_get hL hR.list (by omega)) (fun r h2 hq => ?_)
      obtain ⟨rfl, hh⟩ := hq
      subst hh
      refine E_castB rfl (show (B i) < mN h by have := (hR.bot i (by omega)).1.1.1; omega) (hR.bot i (by omega)).1.isB ?_
      refine E_getrB (r := (B i + 1)) rfl (show (B i) < mN h by have := (hR.bot i (by omega)).1.1.1; omega) (hR.bot i (by omega)).1.isB rfl ((hR.bot i (by omega)).1.2.1.2.2.2.1) ?_
      refine E_getf (c := 6) (v := (0, (s (19 + i)))) rfl (show (B i + 1) < mN h by have := (hR.bot i (by omega)).1.1.1; omega) (hR.bot i (by omega)).1.2.2.1.2.1 rfl (fv ((hR.bot i (by omega)).2.1.1.2.2.2.2)) ?_
      refine E_if1 rfl (by have := (hI i (by omega)).2.2.2.1; omega) (fun q2 => ?_) (fun q2 => ?_)
      · refine E_iinc rfl rfl rfl ?_
        refine E_goto rfl ?_
        exact ih (i + 1) (by omega) _ (by rw [ha]; exact (mBit_0 (orL_R _ _)).symm.trans (orL_f (decide_eq_false (by omega)))) c hR
      · refine E_load rfl rfl rfl ?_
        refine E_const rfl ?_
        refine E_load rfl rfl rfl ?_
        refine E_bit (z := (mBit 8 1 ((i : Nat) : Int))) rfl rfl rfl ?_
        refine E_bit (z := (mBit 6 a (mBit 8 1 ((i : Nat) : Int)))) rfl rfl rfl ?_
        refine E_store rfl rfl rfl ?_
        refine E_iinc rfl rfl rfl ?_
        refine E_goto rfl ?_
        exact ih (i + 1) (by omega) _ (by rw [ha]; exact orL_t (decide_eq_true (by omega))) c hR
set_option maxHeartbeats 4000000 in
set_option maxRecDepth 100000 in
theorem c_full {d : Nat} {h : Hp} {c : Nat → Nat → Int} {B : Nat → Nat} {s im : Nat → Int} {hi : Int} {L : List Int} (hL : Lay h) (hR : RepC h c B s im hi L) (hG : InvG s) : Ok (d + 4) 124 [(1, ((0 : Nat) : Int))] (wC h c) (fun r h2 => r = some (0, (fuN s : Int)) ∧ h2 = wC h c) := by
  show Ex _ none t_X10_fullOnes 0 0 _ [] (wC h c) _
  refine E_const rfl ?_
  refine E_store rfl rfl rfl ?_
  refine E_const rfl ?_
  refine E_store rfl rfl rfl ?_
  exact cl_full hL hG _ 0 (Nat.zero_add _) 0 rfl c hR
set_option maxHeartbeats 4000000 in
set_option maxRecDepth 100000 in
theorem cl_asay {d : Nat} {h : Hp} {B : Nat → Nat} {s im : Nat → Int} {hi : Int} {L : List Int} (hL : Lay h) (hG : InvG s) {m : Nat} (hm : m ≤ 100) : ∀ (n i : Nat), i + n = (s 29).toNat → ∀ (a : Int) (v4 : AV), a = sm (fun b => if goN s m (19 + b) = 0 then syS (goN s m) b else 0) i → ∀ c, RepC h c B s im hi L → Ex (d + 9) none t_X10_allSay 0 4 [(1, ((0 : Nat) : Int)), (0, (m : Int)), (0, a), (0, (i : Int)), v4] [] (wC h c) (fun r h2 => r = some (0, alS (goN s m)) ∧ ∃ c2, h2 = wC h c2 ∧ EqP (ScrP B (s 29)) c c2) := by
  have hGG := hG
  obtain ⟨hI, hH, ⟨⟨n29, n30, n31, n32, n33, n34, n36⟩, nM⟩⟩ := hGG
  intro n
  induction n with
  | zero =>
    intro i hin a v4 ha c hR 
    refine E_load rfl rfl rfl ?_
    refine E_load rfl rfl rfl ?_
    refine E_getr (c := 11) (r := 42) rfl (hL.lt 0 rfl) (hL.k 0 rfl) rfl (hR.C.g 0 11 42 (by decide)) ?_
    refine E_V0 (q := 42) (c := 0) (y := 3) rfl rfl (hL.lt 42 rfl) (hL.k 42 rfl) rfl rfl rfl rfl (j_size hL hR.list) (fun r h2 hq => ?_)
    obtain ⟨rfl, hh⟩ := hq
    subst hh
    refine E_cmp3 rfl (by omega) (fun q1 => ?_) (fun q1 => ?_)
    · refine E_load rfl rfl rfl ?_
      refine E_iret rfl (fun h => absurd h (by decide)) ?_
      exact ⟨by rw [ha, show i = (s 29).toNat by omega]; unfold alS; rw [goN_hi hG (by omega)], c, rfl, EqP.nil⟩
    · exfalso; omega
  | succ n ih =>
    intro i hin a v4 ha c hR 
    refine E_load rfl rfl rfl ?_
    refine E_load rfl rfl rfl ?_
    refine E_getr (c := 11) (r := 42) rfl (hL.lt 0 rfl) (hL.k 0 rfl) rfl (hR.C.g 0 11 42 (by decide)) ?_
    refine E_V0 (q := 42) (c := 0) (y := 3) rfl rfl (hL.lt 42 rfl) (hL.k 42 rfl) rfl rfl rfl rfl (j_size hL hR.list) (fun r h2 hq => ?_)
    obtain ⟨rfl, hh⟩ := hq
    subst hh
    refine E_cmp3 rfl (by omega) (fun q1 => ?_) (fun q1 => ?_)
    · exfalso; omega
    · have e19 : goN s m (19 + i) = s (19 + i) := goN_lo hG (by omega) (by omega) m
      refine E_load rfl rfl rfl ?_
      refine E_getr (c := 11) (r := 42) rfl (hL.lt 0 rfl) (hL.k 0 rfl) rfl (hR.C.g 0 11 42 (by decide)) ?_
      refine E_load rfl rfl rfl ?_
      refine E_V1 (q := 42) (c := 0) (y := 5) rfl rfl (hL.lt 42 rfl) (hL.k 42 rfl) rfl rfl rfl rfl (j_get hL hR.list (by omega)) (fun r h2 hq => ?_)
      obtain ⟨rfl, hh⟩ := hq
      subst hh
      refine E_castB rfl (show (B i) < mN h by have := (hR.bot i (by omega)).1.1.1; omega) (hR.bot i (by omega)).1.isB ?_
      refine E_store rfl rfl rfl ?_
      refine E_load rfl rfl rfl ?_
      refine E_getrB (r := (B i + 1)) rfl (show (B i) < mN h by have := (hR.bot i (by omega)).1.1.1; omega) (hR.bot i (by omega)).1.isB rfl ((hR.bot i (by omega)).1.2.1.2.2.2.1) ?_
      refine E_getf (c := 6) (v := (0, (s (19 + i)))) rfl (show (B i + 1) < mN h by have := (hR.bot i (by omega)).1.1.1; omega) (hR.bot i (by omega)).1.2.2.1.2.1 rfl (fv ((hR.bot i (by omega)).2.1.1.2.2.2.2)) ?_
      refine E_if1 rfl (by have := (hI i (by omega)).2.2.2.1; omega) (fun q2 => ?_) (fun q2 => ?_)
      · refine E_iinc rfl rfl rfl ?_
        refine E_goto rfl ?_
        exact ih (i + 1) (by omega) _ _ (by rw [ha]; show _ = sm _ i + (if _ = _ then _ else _); rw [if_neg (by rw [e19]; omega), Int.add_zero]) c hR
      · refine E_load rfl rfl rfl ?_
        refine E_load rfl rfl rfl ?_
        refine E_load rfl rfl rfl ?_
        refine E_load rfl rfl rfl ?_
        refine E_load rfl rfl rfl ?_
        refine E_V1 (q := (B i)) (c := (mK h (B i))) (y := 14) rfl rfl (show (B i) < mN h by have := (hR.bot i (by omega)).1.1.1; omega) rfl (by have e := (hR.bot i (by omega)).1.isB; rcases e with e | e | e | e | e | e | e <;> rw [e] <;> rfl) rfl rfl rfl (c_beh hR hG (b := i) (by omega) (by omega)) (fun r h2 hq => ?_)
        obtain ⟨rfl, c_1, hh, hX_1, hE_1⟩ := hq
        subst hh
        have hR_1 := hR.scr hE_1
        refine E_V2 (q := 0) (c := 11) (y := 122) rfl rfl (hL.lt 0 rfl) (hL.k 0 rfl) rfl rfl rfl rfl (c_sayT hL hR_1 hG (hG.goN m) (b := i) (by omega) hX_1 (fun k hk _ => goN_hi hG hk _) (goN_hi hG (by omega) _)) (fun r h2 hq => ?_)
        obtain ⟨rfl, hh⟩ := hq
        subst hh
        refine E_add rfl ?_
        refine E_store rfl rfl rfl ?_
        refine E_iinc rfl rfl rfl ?_
        refine E_goto rfl ?_
        refine (ih (i + 1) (by omega) _ _ (by rw [ha]; show _ = sm _ i + (if _ = _ then _ else _); rw [if_pos (by rw [e19]; omega)]) c_1 hR_1).mono ?_
        rintro r hE ⟨e1, c9, e2, e3⟩
        exact ⟨e1, c9, e2, EqP.trans hE_1 e3⟩
set_option maxHeartbeats 4000000 in
set_option maxRecDepth 100000 in
theorem c_allSay {d : Nat} {h : Hp} {c : Nat → Nat → Int} {B : Nat → Nat} {s im : Nat → Int} {hi : Int} {L : List Int} (hL : Lay h) (hR : RepC h c B s im hi L) (hG : InvG s) {m : Nat} (hm : m ≤ 100) : Ok (d + 9) 123 [(1, ((0 : Nat) : Int)), (0, (m : Int))] (wC h c) (fun r h2 => r = some (0, alS (goN s m)) ∧ ∃ c2, h2 = wC h c2 ∧ EqP (ScrP B (s 29)) c c2) := by
  show Ex _ none t_X10_allSay 0 0 _ [] (wC h c) _
  refine E_const rfl ?_
  refine E_store rfl rfl rfl ?_
  refine E_const rfl ?_
  refine E_store rfl rfl rfl ?_
  exact cl_asay hL hG hm _ 0 (Nat.zero_add _) 0 _ rfl c hR
