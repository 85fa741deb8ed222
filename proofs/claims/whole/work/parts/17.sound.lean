/-! A RUN OF THE SMALL MACHINE IS A RUN OF THE JVM -/
def xRetOk (rk : Nat) (rt : Option FieldType) (i : Instr) (r : Option AV) : Prop :=
  (i = .ireturn ∧ (∃ x, r = some (0, x) ∧ (rk = 3 → x = 0 ∨ x = 1)) ∧ (rt = some .int ∨ (rt = some .boolean ∧ rk = 3))) ∨
  (i = .areturn ∧ (∃ x, r = some (1, x)) ∧ ∃ t, rt = some t ∧ ((∃ n, t = .object n) ∨ ∃ u, t = .array u)) ∨
  (i = .lreturn ∧ (∃ x, r = some (2, x)) ∧ rt = some .long) ∨ (i = .return_ ∧ r = none ∧ rt = none)
theorem mArgs_len (z : Nat) (ex : Int → Nat) (as : List AV) : (lg_sl (as.map (xV z ex))).length = (mArgs as).length := by
  induction as with
  | nil => rfl
  | cons v as ih =>
    have e : lg_sl ((v :: as).map (xV z ex)) = (if (xV z ex v).category = 2 then [Slot.val (xV z ex v), .second] else [.val (xV z ex v)]) ++ lg_sl (as.map (xV z ex)) := by
      simp [lg_sl]
    rw [e, List.length_append, ih]
    by_cases h2 : v.1 = 2
    · obtain ⟨t, x⟩ := v
      subst h2
      simp [xV_long, Value.category, mArgs]
      omega
    · rw [xV_cat h2]
      simp [mArgs, h2]
      omega
theorem mArgs_at (z : Nat) (ex : Int → Nat) (as : List AV) : ∀ (n j : Nat) (v : AV), (mArgs as)[j]? = some v → v.1 ≠ 9 → (n + j, xV z ex v) ∈ lv_args n (as.map (xV z ex)) := by
  induction as with
  | nil => intro n j v h; simp [mArgs] at h
  | cons w as ih =>
    intro n j v h h9
    rw [List.map_cons]
    unfold lv_args
    by_cases h2 : w.1 = 2
    · have ec : (xV z ex w).category = 2 := by
        obtain ⟨t, x⟩ := w
        subst h2
        rfl
      rw [if_pos ec]
      simp only [mArgs, h2, if_true] at h
      match j, h with
      | 0, h =>
        cases h
        exact List.mem_cons_self
      | 1, h =>
        cases h
        exact absurd rfl h9
      | j + 2, h =>
        have := ih (n + 2) j v h h9
        rw [show n + (j + 2) = n + 2 + j by omega]
        exact List.mem_cons_of_mem _ this
    · rw [if_neg (by rw [xV_cat h2]; decide)]
      simp only [mArgs, h2, if_false] at h
      match j, h with
      | 0, h =>
        cases h
        exact List.mem_cons_self
      | j + 1, h =>
        have := ih (n + 1) j v h h9
        rw [show n + (j + 1) = n + 1 + j by omega]
        exact List.mem_cons_of_mem _ this
theorem xEnt {z : Nat} {ex : Int → Nat} {as : List AV} {n : Nat} (hn : (mArgs as).length ≤ n) : xAL z ex ((lg_sl (as.map (xV z ex)) ++ List.replicate (n - (lg_sl (as.map (xV z ex))).length) Slot.unset).toArray) n (mEnt n as) := by
  have h1 := lv_entry (as.map (xV z ex)) (n := n) (by rw [mArgs_len]; exact hn)
  refine ⟨⟨h1.1, h1.2.1, fun q hq => h1.2.2 q ?_⟩, by simp [mEnt]; omega⟩
  obtain ⟨v, g1, g2, g3⟩ := xLs_mem.mp hq
  unfold mEnt at g1
  by_cases hj : q.1 < (mArgs as).length
  · rw [List.getElem?_append_left hj] at g1
    have := mArgs_at z ex as 0 q.1 v g1 g2
    rw [Nat.zero_add] at this
    rw [← g3] at this
    exact this
  · rw [List.getElem?_append_right (by omega)] at g1
    have := List.mem_of_getElem? g1
    rw [List.mem_replicate] at this
    rw [this.2] at g2
    exact absurd rfl g2
theorem xDecC_ret {own rk op : Nat} {rt : Option FieldType} {i : Instr} {a b : Int} {st : List AV} {r : Option AV} (hc : xDecC own rk rt i op a b = true) (hr : mRet op rk st = some r) : xRetOk rk rt i r ∧ xLn i = 1 ∧ ∀ z ex, st.map (xV z ex) = (r.map (xV z ex)).toList := by
  unfold mRet at hr
  split at hr
  · split at hr
    · split at hr
      · rename_i x hx
        cases hr
        cases i <;> simp [xDecC] at hc
        exact ⟨Or.inl ⟨rfl, ⟨x, rfl, hx⟩, hc⟩, rfl, fun _ _ => rfl⟩
      · cases hr
    · cases hr
  · split at hr
    · rename_i x
      cases hr
      cases i <;> simp [xDecC] at hc
      refine ⟨Or.inr (Or.inl ⟨rfl, ⟨x, rfl⟩, ?_⟩), rfl, fun _ _ => rfl⟩
      split at hc
      · exact ⟨_, rfl, Or.inl ⟨_, rfl⟩⟩
      · exact ⟨_, rfl, Or.inr ⟨_, rfl⟩⟩
      · cases hc
    · cases hr
  · split at hr
    · rename_i x
      cases hr
      cases i <;> simp [xDecC] at hc
      exact ⟨Or.inr (Or.inr (Or.inl ⟨rfl, ⟨x, rfl⟩, hc⟩)), rfl, fun _ _ => rfl⟩
    · cases hr
  · split at hr
    · cases hr
      cases i <;> simp [xDecC] at hc
      exact ⟨Or.inr (Or.inr (Or.inr ⟨rfl, rfl, hc⟩)), rfl, fun _ _ => rfl⟩
    · cases hr
  · cases hr
section XSOUND
variable {l : Launch} {D : va_G} {z : Nat} {ex : Int → Nat} {aV : Nat → Nat} {cA : Nat → ClassId} {HB : Heap}
/-- what is claimed of runs of f steps -/
def XS (l : Launch) (D : va_G) (z : Nat) (ex : Int → Nat) (aV : Nat → Nat) (cA : Nat → ClassId) (HB : Heap) (f : Nat) : Prop :=
  ∀ (d : Nat) (sc : Option (Nat × (Nat → Int))) (tb : List ME) (rk pc : Nat) (lv st : List AV) (h : Hp) (r : Option AV) (hE : Hp), mRun mt vt txt f d sc tb rk pc lv st h = some (r, hE) →
  ∀ {p : Program} {e : Env} {R : Room} {s : State} {m : MethodId} {args : Array Value} {below : List Frame} {meth : Method} {c : Code} {H : Heap} {locs : List Loc} {cells slots : Nat} {Q : State → Prop} {cc : ByteArray} {nL own : Nat} {ini : Bool} {rt : Option FieldType} {ls : Array Slot},
    xCtx p m c s args meth cc nL own ini D z ex aV cA sc → tb.all (xChkE own rk rt ini cc) = true → d + 6 ≤ R.frames → 40 * (d + 6) ≤ R.locals → xAL z ex ls nL lv → xP D z ex cA HB h H → va_S (xA z) s.heap H locs →
    cells + (mN hE - mN h) ≤ R.cells → slots + (mS hE - mS h) ≤ R.slots →
    (∀ (i : Instr) (pc : Nat) (ls : Array Slot) (H' : Heap) (locs' : List Loc), decode cc pc = .ok (i, 1) → xRetOk rk rt i r → xP D z ex cA HB hE H' → va_S (xA z) s.heap H' locs' → W p l e R s m args below meth c H' locs' (cells + (mN hE - mN h)) (slots + (mS hE - mS h)) Q (F0 m pc ls ((r.map (xV z ex)).toList))) →
    W p l e R s m args below meth c H locs cells slots Q (F0 m pc ls (st.map (xV z ex)))
theorem xMet {f : Nat} (ih : XS l D z ex aV cA HB f) (hx2 : ex (-2) < z) {y n d : Nat} {as : List AV} {h h1 : Hp} {r1 : Option AV} (me : MeOk y n) (hc : mRun mt vt txt f d none (mt y).1 (mt y).2.2.2 0 (mEnt (mt y).2.1 as) [] h = some (r1, h1)) (hn : (mArgs as).length ≤ (mt y).2.1) :
    Met l (xNm y) (xWs y) (xRm (d + 6) (mN h1 - mN h) (mS h1 - mS h)) (xPc D z ex aV cA HB as h) (xQc D z ex cA HB r1 h1) (mN h1 - mN h) (mS h1 - mS h) (xA z) := by
  obtain ⟨m1, m2, m3, m4, m5, m6, m7, m8⟩ := me
  refine Met.ofW (cc := xBc y) (maxL := (mt y).2.1) (ret := xRt y) m5 rfl ?_
  intro p e s m args below meth c s₁ B hml hv
  obtain ⟨rfl, hP, hK, hN⟩ := hv
  have hts : ∀ w ∈ BW, w.before _ s = true := fun w hw => atoms_spec (ws := xWs y) B.pre w (List.mem_cons_of_mem _ hw)
  have hown : s.vm.findClass (xCn (xOw y)) = some m.cls := by rw [m7]; exact findClass_of_methodNamed B.named
  have hnm := (name_of_methodNamed B.named B.method).1
  have hlocks := B.notSynchronized
  have C : xCtx p m c s _ meth (xBc y) (mt y).2.1 (xOw y) (xIni y) D z ex aV cA none := ⟨⟨B.exec, B.bytes, hml, hown, hts⟩, fun g => hnm.trans (m8 g), hK, hN, by have := hP.2.1; omega, trivial, hx2⟩
  rw [lg_entry_eq]
  refine ih _ _ _ _ _ _ _ _ _ _ hc C (xChk_all y) (R := (headSpec (xWs y) (xRm (d + 6) (mN h1 - mN h) (mS h1 - mS h))).room) (Nat.le_refl _) (Nat.le_refl _) (xEnt hn) hP va_S.rf (by rw [Nat.zero_add]; exact Nat.le_refl _) (by rw [Nat.zero_add]; exact Nat.le_refl _) ?_
  intro i pc ls H' locs' hdec hr hP' hS'
  rw [Nat.zero_add, Nat.zero_add]
  have hq : ∀ (v : Option Value), v = r1.map (xV z ex) → ∀ t : State, t.heap = H' → s.WarmedH t.vm → xQc D z ex cA HB r1 h1 (as.map (xV z ex)).toArray s (.returned v) t := fun v hv t ht _ => ⟨by rw [hv], by rw [ht]; exact hP', hS'.F ht⟩
  rcases hr with ⟨rfl, ⟨x, rfl, hx3⟩, hrt⟩ | ⟨rfl, ⟨x, rfl⟩, t, hrt, ht⟩ | ⟨rfl, ⟨x, rfl⟩, hrt⟩ | ⟨rfl, rfl, hrt⟩
  · rcases hrt with hrt | ⟨hrt, h3⟩
    · exact W.iret B.exec B.bytes (B.returns.trans hrt) (hq _ rfl) (fun q hq => hS'.2.2 q hq) hdec hlocks
    · have hnar : narrow .boolean (.int (Int32.ofInt x)) = .int (Int32.ofInt x) := by rcases hx3 h3 with rfl | rfl <;> rfl
      exact W.zret B.exec B.bytes (B.returns.trans hrt) hnar (hq _ rfl) (fun q hq => hS'.2.2 q hq) hdec hlocks
  · refine W.aret B.exec B.bytes (B.returns.trans hrt) ht ?_ (hq _ rfl) (fun q hq => hS'.2.2 q hq) hdec hlocks
    show va_rf (xR z ex x) = .null ∨ ∃ a, va_rf (xR z ex x) = .ref a
    cases xR z ex x with
    | none => exact Or.inl rfl
    | some a => exact Or.inr ⟨a, rfl⟩
  · exact W.lret B.exec B.bytes (B.returns.trans hrt) (hq _ rfl) (fun q hq => hS'.2.2 q hq) hdec hlocks
  · exact W.vret B.exec B.bytes (B.returns.trans hrt) (hq _ rfl) (fun q hq => hS'.2.2 q hq) hdec hlocks
end XSOUND
