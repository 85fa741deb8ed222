/-! THE LAW'S LOOP: what stands between two calls -/
theorem RepC.ref {h : Hp} {c c2 : Nat → Nat → Int} {B : Nat → Nat} {s im : Nat → Int} {hi : Int} {L : List Int} (hR : RepC h c B s im hi L) (hE : ∀ a k, (a < 43 ∨ 55 ≤ a) → c2 a k = c a k) : RepC h c2 B s im hi L := by
  have row : ∀ a, a < 43 → c2 a = c a := fun a h1 => funext fun k => hE a k (Or.inl h1)
  have hCT : ∀ e ∈ CT, e.1 < 43 := by decide
  have hLa : ∀ b : Nat, (b : Int) < s 29 → ∀ q t, (q = B b + 1 ∨ q = B b + 3) → LaidS c q t b → LaidS c2 q t b := fun b hb1 q t hq hl => by
    have := (hR.bot b hb1).2.2
    exact hl.ofE (fun k => hE q k (by omega)) (fun k => hE (q + 1) k (by omega))
  refine ⟨hR.C.of fun e he => hE _ _ (Or.inl (hCT e he)), ?_, ?_, ?_, ?_, ?_, ?_, ?_, ?_, ?_, ?_, hR.dis, ?_, ?_⟩
  · rw [row 0 (by omega)]; exact hR.2.1
  · rw [row 1 (by omega), row 2 (by omega)]; exact hR.tape
  · rw [row 4 (by omega), row 5 (by omega)]; exact hR.mood
  · rw [row 10 (by omega), row 11 (by omega)]; exact hR.seen
  · rw [row 13 (by omega), row 14 (by omega)]; exact hR.eve
  · rw [row 16 (by omega), row 17 (by omega)]; exact hR.book
  · rw [row 19 (by omega), row 20 (by omega)]; exact hR.bod
  · rw [row 29 (by omega), row 30 (by omega), row 32 (by omega), row 33 (by omega)]; exact hR.held
  · exact hR.list.ofE (hE 42 1 (by omega)) (hE 42 2 (by omega)) fun E e1 e2 e3 k => hE E k (by omega)
  · intro b hb1
    obtain ⟨b1, b2, b3⟩ := hR.bot b hb1
    exact ⟨b1.ofE (fun k => hE _ k (by omega)) (hE _ 0 (by omega)) (hE _ 0 (by omega)) (hE _ 0 (by omega)), hLa b hb1 _ s (Or.inl rfl) b2, b3⟩
  · rw [row 0 (by omega)]; exact hR.none
  · intro h1
    obtain ⟨k1, k2, k3, k4, k5, k6, k7, k8, k9⟩ := hR.kept h1
    refine ⟨?_, ?_, ?_, ?_, ?_, ?_, ?_, k8, fun b hb1 => ⟨hLa b (by omega) _ im (Or.inr rfl) (k9 b hb1).1, (k9 b hb1).2⟩⟩
    · rw [row 0 (by omega)]; exact k1
    · rw [row 1 (by omega), row 3 (by omega)]; exact k2
    · rw [row 4 (by omega), row 6 (by omega)]; exact k3
    · rw [row 10 (by omega), row 12 (by omega)]; exact k4
    · rw [row 13 (by omega), row 15 (by omega)]; exact k5
    · rw [row 16 (by omega), row 18 (by omega)]; exact k6
    · rw [row 29 (by omega), row 31 (by omega), row 32 (by omega), row 34 (by omega)]; exact k7
def LawI (h : Hp) (c : Nat → Nat → Int) (B : Nat → Nat) (s im : Nat → Int) (hi : Int) (L : List Int) : Prop := Lay h ∧ Mc c ∧ c 44 = s ∧ Inv s ∧ RepC h c B s im hi L ∧ TrR L c ∧ L.length ≤ 20 ∧ (hi = 0 ∨ hi = 1) ∧ c 43 4 = hi ∧ (∀ k, k < 943 → c 45 k = im k) ∧ (hi = 1 → Inv im)
section LAWI
variable {h h1 : Hp} {c c1 c2 : Nat → Nat → Int} {B B1 : Nat → Nat} {s s1 im : Nat → Int} {hi : Int} {L L1 : List Int}
theorem TrR.of (hT : TrR L c) (e1 : c2 43 20 = c 43 20) (e2 : c2 54 = c 54) : TrR L c2 := ⟨e1.trans hT.1, by rw [e2]; exact hT.2⟩
theorem PS_cls {a k : Nat} (ha : a < 43 ∨ 55 ≤ a) : PS a k = false := by
  unfold PS PQ
  simp only [Bool.or_eq_false_iff, Bool.and_eq_false_iff, beq_eq_false_iff_ne]
  omega
theorem PQ_cls {a k : Nat} (ha : a < 43 ∨ 55 ≤ a) : PQ a k = false := PQ_PS a k (PS_cls ha)
theorem PA_cls {a k : Nat} (ha : a < 43 ∨ 55 ≤ a) : PA a k = false := by
  unfold PA
  simp only [Bool.or_eq_false_iff, Bool.and_eq_false_iff, beq_eq_false_iff_ne]
  omega
theorem PI_cls {a k : Nat} (ha : a < 43 ∨ 55 ≤ a) : PI a k = false := by
  unfold PI
  simp only [Bool.or_eq_false_iff, Bool.and_eq_false_iff, beq_eq_false_iff_ne]
  omega
theorem PU_cls {a k : Nat} (ha : a < 43 ∨ 55 ≤ a) : PU a k = false := by
  unfold PU
  simp only [beq_eq_false_iff_ne]
  omega
theorem cstM_in {k : Nat} (h : cstM k = true) : k = 1 ∨ k = 2 ∨ k = 3 ∨ k = 10 ∨ k = 11 ∨ k = 12 ∨ k = 13 ∨ k = 14 ∨ k = 16 ∨ k = 17 ∨ k = 19 := by
  unfold cstM at h
  simp only [Bool.or_eq_true, beq_iff_eq] at h
  omega
theorem Mc.ps (hM : Mc c) (e : Eqk PS c c2) : Mc c2 := hM.ofk fun k hk => e 43 k (by
  rcases cstM_in hk with rfl | rfl | rfl | rfl | rfl | rfl | rfl | rfl | rfl | rfl | rfl <;> rfl)
theorem Mc.pa (hM : Mc c) (e : Eqk PA c c2) : Mc c2 := hM.ofk fun k hk => e 43 k (by
  rcases cstM_in hk with rfl | rfl | rfl | rfl | rfl | rfl | rfl | rfl | rfl | rfl | rfl <;> rfl)
theorem Mc.pi (hM : Mc c) (e : Eqk PI c c2) : Mc c2 := hM.ofk fun k hk => e 43 k (by
  rcases cstM_in hk with rfl | rfl | rfl | rfl | rfl | rfl | rfl | rfl | rfl | rfl | rfl <;> rfl)
/-- the class leaves the reference -/
theorem FrC.m (f : EqP FrC c c1) : ∀ a, 43 ≤ a → a < 55 → c1 a = c a := fun a h1 h2 => funext fun k => f a k (by unfold FrC; omega)
theorem Mc.fc (hM : Mc c) (f : EqP FrC c c1) : Mc c1 := hM.of (FrC.m f 43 (by omega) (by omega))
theorem scr_fc (hR : RepC h c B s im hi L) (e : EqP (ScrP B (s 29)) c c1) : EqP FrC c c1 := e.mono fun a k z => by
  unfold FrC
  rcases z with z | ⟨b, hb, z⟩
  · unfold fixS at z; omega
  · have := (hR.bot b hb).2.2
    omega
theorem LawI.q (hI : LawI h c B s im hi L) (hR1 : RepC h c1 B s im hi L) (f : EqP FrC c c1) (e : Eqk PQ c1 c2) : LawI h c2 B s im hi L := by
  obtain ⟨hL, hM, hs, hA, hR, hT, hl, h01, h4, h45, hAi⟩ := hI
  have m := FrC.m f
  have e2 : Eqk PS c1 c2 := e.mono PQ_PS
  refine ⟨hL, (hM.fc f).ps e2, ?_, hA, hR1.ref fun a k ha => e a k (PQ_cls ha), (hT.of (by rw [m 43 (by omega) (by omega)]) (m 54 (by omega) (by omega))).of (e 43 20 rfl) (e.row 54 fun _ => rfl), hl, h01, ?_, fun k hk => ?_, hAi⟩
  · rw [e.row 44 (fun _ => rfl), m 44 (by omega) (by omega)]; exact hs
  · rw [e 43 4 rfl, m 43 (by omega) (by omega)]; exact h4
  · rw [e.row 45 (fun _ => rfl), m 45 (by omega) (by omega)]; exact h45 k hk
theorem LawI.mu (hI : LawI h c B s im hi L) (hx : Hx h h1) (hA1 : Inv s1) (hR1 : RepC h1 c1 B1 s1 im hi L) (f : EqP FrC c c1) (hs2 : c2 44 = s1) (e : Eqk PS c1 c2) : LawI h1 c2 B1 s1 im hi L := by
  obtain ⟨hL, hM, hs, hA, hR, hT, hl, h01, h4, h45, hAi⟩ := hI
  have m := FrC.m f
  refine ⟨hL.x hx, (hM.fc f).ps e, hs2, hA1, hR1.ref fun a k ha => e a k (PS_cls ha), (hT.of (by rw [m 43 (by omega) (by omega)]) (m 54 (by omega) (by omega))).of (e 43 20 rfl) (e.row 54 fun _ => rfl), hl, h01, ?_, fun k hk => ?_, hAi⟩
  · rw [e 43 4 rfl, m 43 (by omega) (by omega)]; exact h4
  · rw [e.row 45 (fun _ => rfl), m 45 (by omega) (by omega)]; exact h45 k hk
theorem LawI.ac (hI : LawI h c B s im hi L) (hR1 : RepC h c1 B s im hi L1) (f : EqP FrC c c1) (hT2 : TrR L1 c2) (hl1 : L1.length ≤ 20) (e : Eqk PA c1 c2) : LawI h c2 B s im hi L1 := by
  obtain ⟨hL, hM, hs, hA, hR, hT, hl, h01, h4, h45, hAi⟩ := hI
  have m := FrC.m f
  refine ⟨hL, (hM.fc f).pa e, ?_, hA, hR1.ref fun a k ha => e a k (PA_cls ha), hT2, hl1, h01, ?_, fun k hk => ?_, hAi⟩
  · rw [e.row 44 (fun _ => rfl), m 44 (by omega) (by omega)]; exact hs
  · rw [e 43 4 rfl, m 43 (by omega) (by omega)]; exact h4
  · rw [e.row 45 (fun _ => rfl), m 45 (by omega) (by omega)]; exact h45 k hk
theorem LawI.ima (hI : LawI h c B s im hi L) (hR1 : RepC h c1 B s s 1 L) (f : EqP FrC c c1) (h45' : ∀ k, k < 943 → c2 45 k = s k) (h4' : c2 43 4 = 1) (e : Eqk PI c1 c2) : LawI h c2 B s s 1 L := by
  obtain ⟨hL, hM, hs, hA, hR, hT, hl, h01, h4, h45, hAi⟩ := hI
  have m := FrC.m f
  refine ⟨hL, (hM.fc f).pi e, ?_, hA, hR1.ref fun a k ha => e a k (PI_cls ha), (hT.of (by rw [m 43 (by omega) (by omega)]) (m 54 (by omega) (by omega))).of (e 43 20 rfl) (e.row 54 fun _ => rfl), hl, Or.inr rfl, h4', h45', fun _ => hA⟩
  rw [e.row 44 (fun _ => rfl), m 44 (by omega) (by omega)]; exact hs
theorem LawI.un (hI : LawI h c B s im hi L) (hA1 : Inv s1) (hR1 : RepC h c1 B s1 im hi L) (f : EqP FrC c c1) (hs2 : c2 44 = s1) (e : Eqk PU c1 c2) : LawI h c2 B s1 im hi L :=
  hI.mu Hx.refl hA1 hR1 f hs2 fun a k z => e a k (by
    unfold PS at z
    unfold PU
    simp only [Bool.or_eq_false_iff] at z
    exact z.1)
end LAWI
/-- one run comes to one end -/
theorem Ok.det {d y : Nat} {as : List AV} {h : Hp} {Q Q2 : Option AV → Hp → Prop} (a : Ok d y as h Q) (b : Ok d y as h Q2) : Ok d y as h (fun r hE => Q r hE ∧ Q2 r hE) := by
  obtain ⟨f, r, hE, e, q⟩ := a
  obtain ⟨f2, r2, hE2, e2, q2⟩ := b
  have h1 := mRun_le (Nat.le_max_left f f2) e
  have h2 := mRun_le (Nat.le_max_right f f2) e2
  rw [h1] at h2
  cases h2
  exact ⟨f, r, hE, e, q, q2⟩
theorem CelR.v {s s2 s3 : Nat → Int} {v w : Int} (a : CelR s v s2) (b : CelR s w s3) : v = w := by
  rcases a with ⟨a1, a2, -⟩ | ⟨a1, s', -, ⟨a2, a3, -⟩ | ⟨a2, a3, -⟩⟩ <;> rcases b with ⟨b1, b2, -⟩ | ⟨b1, s'', -, ⟨b2, b3, -⟩ | ⟨b2, b3, -⟩⟩
  · omega
  · omega
  · omega
  · omega
  · omega
  · rw [a2] at b2; cases b2
  · omega
  · rw [a2] at b2; cases b2
  · omega
theorem wC_inj {h : Hp} {c c2 : Nat → Nat → Int} (e : wC h c = wC h c2) : c = c2 := congrArg (fun z : Hp => z.2.2.2.2) e
theorem C_cellarA {d : Nat} {h : Hp} {c : Nat → Nat → Int} {B : Nat → Nat} {s im : Nat → Int} {hi : Int} {L : List Int} (hI : LawI h c B s im hi L) : Ok (d + 22) 75 [(1, ((0 : Nat) : Int))] (wC h c) (fun r h2 => ∃ v, r = some (0, v) ∧ ∃ c2, h2 = wC h c2 ∧ EqP FrC c c2 ∧ ∀ v' s2, CelR s v' s2 → v' = v ∧ RepC h c2 B s2 im hi L) := by
  obtain ⟨hL, hM, hs, hA, hR, -⟩ := hI
  obtain ⟨f, r, hE, e, v, -, c9, s9, -, -, hV, -⟩ := n_cellar (d := 0) hL hM hs hA
  obtain ⟨f1, r1, h1, e1, q1, c1, q2, q3, q4⟩ := C_cellar (d := d) hL hR hA hV
  refine ⟨f1, r1, h1, e1, v, q1, c1, q2, q4, fun v' s2 hV2 => ?_⟩
  obtain ⟨f2, r2, h2, e2, p1, c2, p2, p3, p4⟩ := C_cellar (d := d) hL hR hA hV2
  have g1 := mRun_le (Nat.le_max_left f1 f2) e1
  have g2 := mRun_le (Nat.le_max_right f1 f2) e2
  rw [g1] at g2
  cases g2
  have ec : c1 = c2 := wC_inj (q2.symm.trans p2)
  subst ec
  exact ⟨hV2.v hV, p3⟩
theorem act_len {s : Nat → Int} {x a y : Int} : (f_act s x a y).2.length ≤ 20 := by
  unfold f_act
  (repeat' split) <;> first | (exact Nat.zero_le _) | (exact Nat.le_trans (uA_len _ _ _) (by decide)) | (exact Nat.le_trans (kA_len _ _ _ _) (by decide)) | (exact Nat.le_trans (tA_len _ _ _ _) (by decide))
theorem E_same {d : Nat} {sc : Option (Nat × (Nat → Int))} {tb : List ME} {rk pc nx : Nat} {a : Int} {l : List (Int × Int)} {lv st : List AV} {h : Hp} {Q : Option AV → Hp → Prop} {v : Int} (hat : mAt tb pc = some (nx, 7, a, 0, l)) (k : Ex d sc tb rk a.toNat lv st h Q) : Ex d sc tb rk pc lv ((0, v) :: (0, v) :: st) h Q :=
  E_cmpw (o := 0) hat rfl rfl (fun _ => k) (fun e => absurd (mCmp_0.2.mp e) (fun z => z rfl))
