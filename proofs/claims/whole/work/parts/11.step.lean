/-- the array classes -/
abbrev xTy (cA : Nat → ClassId) : List (ClassId × FieldType) := [(cA 0, .int), (cA 1, .boolean), (cA 2, .object "java/lang/Object")]
abbrev xA (z : Nat) : Nat → Prop := fun q => z ≤ q
def xNest : List (String × Nat × MethodName × String) := [("LaidQuarrel$Cellar", 143, ⟨"LaidQuarrel", "within", "(III)Z"⟩, "LaidQuarrel"), ("LaidQuarrel$Bottle", 9, ⟨"LaidQuarrel$Laid", "<init>", "()V"⟩, "LaidQuarrel"), ("LaidQuarrel$Hard", 13, ⟨"LaidQuarrel", "nearer", "(II)I"⟩, "LaidQuarrel"), ("LaidQuarrel$Sweet", 13, ⟨"LaidQuarrel", "nearer", "(II)I"⟩, "LaidQuarrel"), ("LaidQuarrel$Bottle", 44, ⟨"LaidQuarrel", "nearer", "(II)I"⟩, "LaidQuarrel"), ("LaidQuarrel$Laid", 32, ⟨"LaidQuarrel$Shelf", "copy", "([I[I)V"⟩, "LaidQuarrel")]
def xCast : List (String × String) := [("LaidQuarrel$Corked", "LaidQuarrel$Bottle"), ("LaidQuarrel$Feud", "LaidQuarrel$Bottle"), ("LaidQuarrel$Hard", "LaidQuarrel$Bottle"), ("LaidQuarrel$Love", "LaidQuarrel$Bottle"), ("LaidQuarrel$Sweet", "LaidQuarrel$Bottle"), ("LaidQuarrel$Told", "LaidQuarrel$Bottle"), ("LaidQuarrel", "java/lang/Object"), ("LaidQuarrel$Shelf", "java/lang/Object"), ("LaidQuarrel$Cellar", "java/lang/Object"), ("java/util/ArrayList", "java/lang/Object"), ("LaidQuarrelModel", "java/lang/Object"), ("LaidQuarrel$Hard", "java/lang/Object"), ("LaidQuarrel$Laid", "java/lang/Object"), ("LaidQuarrel$Sweet", "java/lang/Object"), ("LaidQuarrel$Corked", "java/lang/Object"), ("LaidQuarrel$Feud", "java/lang/Object"), ("LaidQuarrel$Love", "java/lang/Object"), ("LaidQuarrel$Told", "java/lang/Object"), ("LaidQuarrel$Bottle", "java/lang/Object")]
def xFw : List (MethodName × MethodName) := [(⟨"java/util/List", "size", "()I"⟩, ⟨"java/util/ArrayList", "size", "()I"⟩), (⟨"java/util/List", "add", "(Ljava/lang/Object;)Z"⟩, ⟨"java/util/ArrayList", "add", "(Ljava/lang/Object;)Z"⟩), (⟨"java/util/List", "get", "(I)Ljava/lang/Object;"⟩, ⟨"java/util/ArrayList", "get", "(I)Ljava/lang/Object;"⟩), (⟨"java/util/List", "remove", "(I)Ljava/lang/Object;"⟩, ⟨"java/util/ArrayList", "remove", "(I)Ljava/lang/Object;"⟩)]
def xDecl : List MethodName := [⟨"LaidQuarrel$Bottle", "utters", "(I)I"⟩, ⟨"LaidQuarrel$Bottle", "keeps", "(I)I"⟩, ⟨"LaidQuarrel$Bottle", "tells", "(I)I"⟩, ⟨"LaidQuarrel$Hard", "utters", "(I)I"⟩]
def xSt : List (Nat × String × Nat × String) := [(0, "LaidQuarrel$Cellar", 104, "alm "), (1, "LaidQuarrel$Cellar", 118, "eace "), (2, "LaidQuarrel$Cellar", 120, "often "), (3, "LaidQuarrel$Cellar", 122, "harpen "), (4, "LaidQuarrelModel", 126, "calm "), (5, "LaidQuarrelModel", 131, "peace "), (6, "LaidQuarrelModel", 118, "often "), (7, "LaidQuarrelModel", 100, "bkvyqw"), (8, "LaidQuarrelModel", 106, "<=>"), (9, "LaidQuarrelModel", 124, "harpen ")]
def xLen : List Nat := [4, 5, 6, 7, 5, 6, 6, 6, 3, 7]
def xByt : List (List Int32) := [[97, 108, 109, 32], [101, 97, 99, 101, 32], [111, 102, 116, 101, 110, 32], [104, 97, 114, 112, 101, 110, 32], [99, 97, 108, 109, 32], [112, 101, 97, 99, 101, 32], [111, 102, 116, 101, 110, 32], [98, 107, 118, 121, 113, 119], [60, 61, 62], [104, 97, 114, 112, 101, 110, 32]]
theorem xLS_ok : ∀ q ∈ xLS, ∃ t ∈ xSt, t.1 = q.2 ∧ t.2.1 = xCn q.1.1 ∧ t.2.2.1 = q.1.2 := by decide +kernel
/-- the claim's texts, as objects -/
def xStr (z : Nat) (ex : Int → Nat) (aV : Nat → Nat) (U : State) (H : Heap) : Prop := ∀ i : Nat, i < 10 → va_O "java/lang/String" (ex (-10 - (i : Int))) (xA z) U H ∧ va_OF "java/lang/String" "coder" "B" (.int 0) (ex (-10 - (i : Int))) (xA z) U H ∧ va_OF "java/lang/String" "value" "[B" (.ref (aV i)) (ex (-10 - (i : Int))) (xA z) U H ∧ va_T .byte (aV i) (xLen.getD i 0) (fun j => .int ((xByt.getD i []).getD j 0)) (xA z) U H
theorem xStr.moved {z : Nat} {ex : Int → Nat} {aV : Nat → Nat} {u U : State} {H : Heap} (hvm : u.vm.Alike U.vm) (h : xStr z ex aV u H) : xStr z ex aV U H := fun i hi => ⟨(h i hi).1.moved hvm, (h i hi).2.1.moved hvm, (h i hi).2.2.1.moved hvm, (h i hi).2.2.2.moved hvm⟩
theorem xStr.kept {z : Nat} {ex : Int → Nat} {aV : Nat → Nat} {U : State} {H H1 : Heap} (h : xStr z ex aV U H) (hq : ∀ a : Nat, a < H.size → ¬ xA z a → H1[a]? = H[a]?) : xStr z ex aV U H1 := fun i hi => ⟨(h i hi).1.kept hq, (h i hi).2.1.kept hq, (h i hi).2.2.1.kept hq, (h i hi).2.2.2.kept hq⟩

/-- what of the tables and of the old heap a state tells, at every call -/
def xN (z : Nat) (ex : Int → Nat) (aV : Nat → Nat) (U : State) : Prop :=
  (∀ q ∈ xNest, va_Nw (.methodLinkNest q.1 q.2.1 q.2.2.1 q.2.2.2) U) ∧ (∀ q ∈ xCast, va_Nw (.castable q.1 q.2) U) ∧ (∀ q ∈ xFw, va_Fw "java/util/ArrayList" q.1 q.2 U) ∧ (∀ q ∈ xDecl, va_Nw (.declares q) U) ∧ va_AO "java/lang/Object" U ∧
  va_Z "java/util/ArrayList" "DEFAULTCAPACITY_EMPTY_ELEMENTDATA" "[Ljava/lang/Object;" (.ref (ex (-2))) (xA z) U U.heap ∧ va_T (.object "java/lang/Object") (ex (-2)) 0 (fun _ => .null) (xA z) U U.heap ∧
  (∀ q ∈ xSt, vk_R q.2.1 q.2.2.1 q.2.2.2 (ex (-10 - (q.1 : Int))) U) ∧ xStr z ex aV U U.heap ∧
  va_Z "java/lang/String" "COMPACT_STRINGS" "Z" (.int 1) (xA z) U U.heap ∧ va_Zq "jdk/internal/util/Preconditions" "SIOOBE_FORMATTER" "Ljava/util/function/BiFunction;" (xA z) U U.heap
def xSc (z : Nat) (ex : Int → Nat) (sc : Option (Nat × (Nat → Int))) (s : State) : Prop := match sc with
  | none => True
  | some q => va_X (ex (-5)) q.1 (fun j => Int32.ofInt (q.2 j)) s s.heap ∧ ex (-5) < s.heap.size ∧ ¬ z ≤ ex (-5)
/-- the running method's surroundings -/
def xCtx (p : Program) (m : MethodId) (c : Code) (s : State) (args : Array Value) (meth : Method) (cc : ByteArray) (nL own : Nat) (ini : Bool) (D : va_G) (z : Nat) (ex : Int → Nat) (aV : Nat → Nat) (cA : Nat → ClassId) (sc : Option (Nat × (Nat → Int))) : Prop :=
  (p.tables.exec = Jvm.exec ∧ c.code = cc ∧ c.maxLocals = nL ∧ s.vm.findClass (xCn own) = some m.cls ∧ ∀ w ∈ BW, w.before args s = true) ∧ (ini = true → meth.name = "<init>") ∧ va_K D vwCl (xTy cA) s ∧ xN z ex aV s ∧ z ≤ s.heap.size ∧ xSc z ex sc s ∧ ex (-2) < z
section XSTEP
variable {p : Program} {l : Launch} {e : Env} {R : Room} {s : State} {m : MethodId} {args : Array Value} {below : List Frame} {meth : Method} {c : Code} {H : Heap} {locs : List Loc} {cells slots : Nat} {Q : State → Prop}
variable {cc : ByteArray} {nL own : Nat} {ini : Bool} {D : va_G} {z : Nat} {ex : Int → Nat} {aV : Nat → Nat} {cA : Nat → ClassId} {sc : Option (Nat × (Nat → Int))} {HB : Heap}
variable {pc : Nat} {lv st : List AV} {h : Hp} {ls : Array Slot}
theorem xb {p q : Prop} [Decidable p] {α : Type} {a b : α} (hpq : p ↔ q) [Decidable q] : (if p then a else b) = if q then a else b := by simp [hpq]
theorem xTgt {pc : Nat} {off : Int} (h : 0 ≤ (pc : Int) + off) : (pc : Int) + off = ((((pc : Int) + off).toNat : Nat) : Int) := by omega
/-- a load -/
theorem xLd {i : Instr} {len : Nat} {a b : Int} (C : xCtx p m c s args meth cc nL own ini D z ex aV cA sc) (hdec : decode cc pc = .ok (i, len)) {k : Nat} (hi : (i = .iload k ∧ len = 2 ∧ a = 0) ∨ (i = .aload k ∧ len = 2 ∧ a = 1) ∨ (i = .lload k ∧ len = 2 ∧ a = 2) ∨ (∃ n : Fin 4, (n : Nat) = k ∧ len = 1 ∧ ((i = .iload_n n ∧ a = 0) ∨ (i = .aload_n n ∧ a = 1) ∨ (i = .lload_n n ∧ a = 2))))
    (hAL : xAL z ex ls nL lv) {v : AV} (hv : lv[k]? = some v) (ht : v.1 = a.toNat)
    (kk : W p l e R s m args below meth c H locs cells slots Q (F0 m (pc + len) ls (xV z ex v :: st.map (xV z ex)))) : W p l e R s m args below meth c H locs cells slots Q (F0 m pc ls (st.map (xV z ex))) := by
  obtain ⟨⟨hx, hb, -⟩, -⟩ := C
  obtain ⟨t, x⟩ := v
  have h9 : t ≠ 9 := by
    rcases hi with ⟨-, -, rfl⟩ | ⟨-, -, rfl⟩ | ⟨-, -, rfl⟩ | ⟨n, -, -, (⟨-, rfl⟩ | ⟨-, rfl⟩ | ⟨-, rfl⟩)⟩ <;> simp at ht <;> omega
  have hl := hAL.at hv h9
  rcases hi with ⟨rfl, rfl, rfl⟩ | ⟨rfl, rfl, rfl⟩ | ⟨rfl, rfl, rfl⟩ | ⟨n, hn, rfl, (⟨rfl, rfl⟩ | ⟨rfl, rfl⟩ | ⟨rfl, rfl⟩)⟩
  · obtain rfl : t = 0 := ht
    exact lv_iload hx hb hdec hl kk
  · obtain rfl : t = 1 := ht
    rw [xV_ref] at hl kk
    cases hr : xR z ex x with
    | none => rw [hr] at hl kk; exact lv_aloadN hx hb hdec hl kk
    | some y => rw [hr] at hl kk; exact lv_aload hx hb hdec hl kk
  · obtain rfl : t = 2 := ht
    exact lv_lload hx hb hdec hl kk
  · obtain rfl : t = 0 := ht
    exact lv_iload_n hx hb hdec hn hl kk
  · obtain rfl : t = 1 := ht
    rw [xV_ref] at hl kk
    cases hr : xR z ex x with
    | none => rw [hr] at hl kk; exact lv_aload_nN hx hb hdec hn hl kk
    | some y => rw [hr] at hl kk; exact lv_aload_n hx hb hdec hn hl kk
  · obtain rfl : t = 2 := ht
    exact lv_lload_n hx hb hdec hn hl kk
/-- a store -/
theorem xSto {i : Instr} {len : Nat} {a : Int} (C : xCtx p m c s args meth cc nL own ini D z ex aV cA sc) (hdec : decode cc pc = .ok (i, len)) {k : Nat} (hi : (i = .istore k ∧ len = 2 ∧ a = 0) ∨ (i = .astore k ∧ len = 2 ∧ a = 1) ∨ (i = .lstore k ∧ len = 2 ∧ a = 2) ∨ (∃ n : Fin 4, (n : Nat) = k ∧ len = 1 ∧ ((i = .istore_n n ∧ a = 0) ∨ (i = .astore_n n ∧ a = 1) ∨ (i = .lstore_n n ∧ a = 2))))
    (hAL : xAL z ex ls nL lv) {v : AV} {lv' : List AV} (hm : mSet lv k v = some lv') (ht : v.1 = a.toNat)
    (kk : ∀ ls', xAL z ex ls' nL lv' → W p l e R s m args below meth c H locs cells slots Q (F0 m (pc + len) ls' (st.map (xV z ex)))) : W p l e R s m args below meth c H locs cells slots Q (F0 m pc ls (xV z ex v :: st.map (xV z ex))) := by
  obtain ⟨⟨hx, hb, -⟩, -⟩ := C
  obtain ⟨t, x⟩ := v
  have hk := (mSet_spec hm).1
  have hnk : k < nL := by rw [← hAL.2]; exact hk
  rcases hi with ⟨rfl, rfl, rfl⟩ | ⟨rfl, rfl, rfl⟩ | ⟨rfl, rfl, rfl⟩ | ⟨n, hn, rfl, (⟨rfl, rfl⟩ | ⟨rfl, rfl⟩ | ⟨rfl, rfl⟩)⟩
  · obtain rfl : t = 0 := ht
    exact lv_istore hx hb hdec hAL.1 hnk rfl (fun ls' g => kk ls' (xAL.set1 hAL.2 hm (show (0 : Nat) ≠ 2 by decide) g))
  · obtain rfl : t = 1 := ht
    have key : ∀ ls', lv_has ls' nL ((k, va_rf (xR z ex x)) :: (xLs z ex lv).filter (fun q => !(q.1 == k) && !(q.1 + 1 == k && q.2.category == 2))) → xAL z ex ls' nL lv' := fun ls' g => xAL.set1 (v := (1, x)) hAL.2 hm (show (1 : Nat) ≠ 2 by decide) g
    rw [xV_ref]
    cases hr : xR z ex x with
    | none => rw [hr] at key; exact lv_astoreN hx hb hdec hAL.1 hnk rfl (fun ls' g => kk ls' (key ls' g))
    | some y => rw [hr] at key; exact lv_astore hx hb hdec hAL.1 hnk rfl (fun ls' g => kk ls' (key ls' g))
  · obtain rfl : t = 2 := ht
    have h2 : k + 1 < nL := by
      rcases (mSet_spec hm).2.2 with ⟨-, q, -⟩ | ⟨q, -⟩
      · rw [← hAL.2]; exact q
      · exact absurd rfl q
    exact lv_lstore hx hb hdec hAL.1 h2 rfl (fun ls' g => kk ls' (xAL.set2 hAL.2 hm rfl g))
  · obtain rfl : t = 0 := ht
    exact lv_istore_n hx hb hdec hn hAL.1 hnk rfl (fun ls' g => kk ls' (xAL.set1 hAL.2 hm (show (0 : Nat) ≠ 2 by decide) g))
  · obtain rfl : t = 1 := ht
    have key : ∀ ls', lv_has ls' nL ((k, va_rf (xR z ex x)) :: (xLs z ex lv).filter (fun q => !(q.1 == k) && !(q.1 + 1 == k && q.2.category == 2))) → xAL z ex ls' nL lv' := fun ls' g => xAL.set1 (v := (1, x)) hAL.2 hm (show (1 : Nat) ≠ 2 by decide) g
    rw [xV_ref]
    cases hr : xR z ex x with
    | none => rw [hr] at key; exact lv_astore_nN hx hb hdec hn hAL.1 hnk rfl (fun ls' g => kk ls' (key ls' g))
    | some y => rw [hr] at key; exact lv_astore_n hx hb hdec hn hAL.1 hnk rfl (fun ls' g => kk ls' (key ls' g))
  · obtain rfl : t = 2 := ht
    have h2 : k + 1 < nL := by
      rcases (mSet_spec hm).2.2 with ⟨-, q, -⟩ | ⟨q, -⟩
      · rw [← hAL.2]; exact q
      · exact absurd rfl q
    exact lv_lstore_n hx hb hdec hn hAL.1 h2 rfl (fun ls' g => kk ls' (xAL.set2 hAL.2 hm rfl g))
/-- a comparison of two numbers -/
theorem xIcmp0 {off : Int} {cd : Jvm.ClassFile.Cond} {x y : Int} (C : xCtx p m c s args meth cc nL own ini D z ex aV cA sc) (hdec : decode cc pc = .ok (.if_icmp cd off, 3)) (ho : 0 ≤ (pc : Int) + off) (hc : inR x ∧ inR y)
    (kk : W p l e R s m args below meth c H locs cells slots Q (F0 m (if mCmp0 (xCo cd) x y then ((pc : Int) + off).toNat else pc + 3) ls (st.map (xV z ex)))) : W p l e R s m args below meth c H locs cells slots Q (F0 m pc ls (.int (Int32.ofInt y) :: .int (Int32.ofInt x) :: st.map (xV z ex))) := by
  obtain ⟨⟨hx, hb, -⟩, -⟩ := C
  have hq : cd = .eq ∨ cd = .ne → (Int32.ofInt x = Int32.ofInt y ↔ x = y) := by
    intro q
    exact ofInt_inj hc.1 hc.2
  have hr : ¬ (cd = .eq ∨ cd = .ne) → inR x ∧ inR y := fun _ => hc
  cases cd with
  | eq =>
    have e := hq (Or.inl rfl)
    refine lv_icmp_eq hx hb hdec (xTgt ho) (fun g => ?_) (fun g => ?_)
    · rw [e] at g; simpa [xCo, mCmp0, g] using kk
    · rw [e] at g; simpa [xCo, mCmp0, g] using kk
  | ne =>
    have e := hq (Or.inr rfl)
    refine lv_icmp_ne hx hb hdec (xTgt ho) (fun g => ?_) (fun g => ?_)
    · rw [e] at g; simpa [xCo, mCmp0, g] using kk
    · rw [e] at g; simpa [xCo, mCmp0, g] using kk
  | lt =>
    obtain ⟨r1, r2⟩ := hr (by simp)
    refine lv_icmp_lt hx hb hdec (xTgt ho) (fun g => ?_) (fun g => ?_)
    · rw [ofInt_lt r1 r2] at g; simpa [xCo, mCmp0, g] using kk
    · rw [ofInt_lt r1 r2] at g; simpa [xCo, mCmp0, g] using kk
  | ge =>
    obtain ⟨r1, r2⟩ := hr (by simp)
    refine lv_icmp_ge hx hb hdec (xTgt ho) (fun g => ?_) (fun g => ?_)
    · rw [ofInt_le r2 r1] at g; simpa [xCo, mCmp0, show ¬ x < y by omega] using kk
    · rw [ofInt_le r2 r1] at g; simpa [xCo, mCmp0, show x < y by omega] using kk
  | gt =>
    obtain ⟨r1, r2⟩ := hr (by simp)
    refine lv_icmp_gt hx hb hdec (xTgt ho) (fun g => ?_) (fun g => ?_)
    · rw [ofInt_lt r2 r1] at g; simpa [xCo, mCmp0, g] using kk
    · rw [ofInt_lt r2 r1] at g; simpa [xCo, mCmp0, g] using kk
  | le =>
    obtain ⟨r1, r2⟩ := hr (by simp)
    refine lv_icmp_le hx hb hdec (xTgt ho) (fun g => ?_) (fun g => ?_)
    · rw [ofInt_le r1 r2] at g; simpa [xCo, mCmp0, show ¬ y < x by omega] using kk
    · rw [ofInt_le r1 r2] at g; simpa [xCo, mCmp0, show y < x by omega] using kk
/-- a comparison with 0 -/
theorem xIf00 {off : Int} {cd : Jvm.ClassFile.Cond} {x : Int} (C : xCtx p m c s args meth cc nL own ini D z ex aV cA sc) (hdec : decode cc pc = .ok (.ifCond cd off, 3)) (ho : 0 ≤ (pc : Int) + off) (hc : inR x)
    (kk : W p l e R s m args below meth c H locs cells slots Q (F0 m (if mCmp0 (xCo cd) x 0 then ((pc : Int) + off).toNat else pc + 3) ls (st.map (xV z ex)))) : W p l e R s m args below meth c H locs cells slots Q (F0 m pc ls (.int (Int32.ofInt x) :: st.map (xV z ex))) := by
  obtain ⟨⟨hx, hb, -⟩, -⟩ := C
  have r0 : inR 0 := by omega
  have e0 : (0 : Int32) = Int32.ofInt 0 := rfl
  have hq : cd = .eq ∨ cd = .ne → (Int32.ofInt x = 0 ↔ x = 0) := by
    intro q
    rw [e0]
    exact ofInt_inj hc r0
  have hr : ¬ (cd = .eq ∨ cd = .ne) → inR x := fun _ => hc
  cases cd with
  | eq =>
    have e := hq (Or.inl rfl)
    refine lv_if_eq hx hb hdec (xTgt ho) (fun g => ?_) (fun g => ?_)
    · rw [e] at g; simpa [xCo, mCmp0, g] using kk
    · rw [e] at g; simpa [xCo, mCmp0, g] using kk
  | ne =>
    have e := hq (Or.inr rfl)
    refine lv_if_ne hx hb hdec (xTgt ho) (fun g => ?_) (fun g => ?_)
    · rw [e] at g; simpa [xCo, mCmp0, g] using kk
    · rw [e] at g; simpa [xCo, mCmp0, g] using kk
  | lt =>
    have r1 := hr (by simp)
    refine lv_if_lt hx hb hdec (xTgt ho) (fun g => ?_) (fun g => ?_)
    · rw [e0, ofInt_lt r1 r0] at g; simpa [xCo, mCmp0, g] using kk
    · rw [e0, ofInt_lt r1 r0] at g; simpa [xCo, mCmp0, g] using kk
  | ge =>
    have r1 := hr (by simp)
    refine lv_if_ge hx hb hdec (xTgt ho) (fun g => ?_) (fun g => ?_)
    · rw [e0, ofInt_le r0 r1] at g; simpa [xCo, mCmp0, show ¬ x < 0 by omega] using kk
    · rw [e0, ofInt_le r0 r1] at g; simpa [xCo, mCmp0, show x < 0 by omega] using kk
  | gt =>
    have r1 := hr (by simp)
    refine lv_if_gt hx hb hdec (xTgt ho) (fun g => ?_) (fun g => ?_)
    · rw [e0, ofInt_lt r0 r1] at g; simpa [xCo, mCmp0, g] using kk
    · rw [e0, ofInt_lt r0 r1] at g; simpa [xCo, mCmp0, g] using kk
  | le =>
    have r1 := hr (by simp)
    refine lv_if_le hx hb hdec (xTgt ho) (fun g => ?_) (fun g => ?_)
    · rw [e0, ofInt_le r1 r0] at g; simpa [xCo, mCmp0, show ¬ 0 < x by omega] using kk
    · rw [e0, ofInt_le r1 r0] at g; simpa [xCo, mCmp0, show 0 < x by omega] using kk
theorem wI_in (x : Int) : inR (wI x) := ⟨Int32.le_toInt _, Int32.toInt_lt _⟩
theorem wI_of (x : Int) : Int32.ofInt (wI x) = Int32.ofInt x := Int32.ofInt_toInt _
theorem xIcmp {off : Int} {cd : Jvm.ClassFile.Cond} {x y : Int} (C : xCtx p m c s args meth cc nL own ini D z ex aV cA sc) (hdec : decode cc pc = .ok (.if_icmp cd off, 3)) (ho : 0 ≤ (pc : Int) + off) (_hc : mCan (xCo cd) x y)
    (kk : W p l e R s m args below meth c H locs cells slots Q (F0 m (if mCmp (xCo cd) x y then ((pc : Int) + off).toNat else pc + 3) ls (st.map (xV z ex)))) : W p l e R s m args below meth c H locs cells slots Q (F0 m pc ls (.int (Int32.ofInt y) :: .int (Int32.ofInt x) :: st.map (xV z ex))) := by
  rw [← wI_of x, ← wI_of y]
  exact xIcmp0 C hdec ho ⟨wI_in x, wI_in y⟩ kk
theorem wI_0 : wI 0 = 0 := by decide
theorem xIf0 {off : Int} {cd : Jvm.ClassFile.Cond} {x : Int} (C : xCtx p m c s args meth cc nL own ini D z ex aV cA sc) (hdec : decode cc pc = .ok (.ifCond cd off, 3)) (ho : 0 ≤ (pc : Int) + off) (_hc : mCan (xCo cd) x 0)
    (kk : W p l e R s m args below meth c H locs cells slots Q (F0 m (if mCmp (xCo cd) x 0 then ((pc : Int) + off).toNat else pc + 3) ls (st.map (xV z ex)))) : W p l e R s m args below meth c H locs cells slots Q (F0 m pc ls (.int (Int32.ofInt x) :: st.map (xV z ex))) := by
  rw [← wI_of x]
  refine xIf00 C hdec ho (wI_in x) ?_
  unfold mCmp at kk
  rw [wI_0] at kk
  exact kk
end XSTEP
