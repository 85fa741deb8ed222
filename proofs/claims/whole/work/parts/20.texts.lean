/-! THE TEXTS' METHODS: length and charAt of the claim's constants -/
def txn_coder : MethodName := ⟨"java/lang/String", "coder", "()B"⟩
abbrev txb_coder : ByteArray := prog_21_method_152_code
theorem txd_coder_0 : decode txb_coder 0 = .ok (.getstatic 38, 3) := by decide +kernel
theorem txd_coder_3 : decode txb_coder 3 = .ok (.ifCond .eq 10, 3) := by decide +kernel
theorem txd_coder_6 : decode txb_coder 6 = .ok (.aload_n 0, 1) := by decide +kernel
theorem txd_coder_7 : decode txb_coder 7 = .ok (.getfield 15, 3) := by decide +kernel
theorem txd_coder_10 : decode txb_coder 10 = .ok (.goto 4, 3) := by decide +kernel
theorem txd_coder_13 : decode txb_coder 13 = .ok (.iconst 1, 1) := by decide +kernel
theorem txd_coder_14 : decode txb_coder 14 = .ok (.ireturn, 1) := by decide +kernel
abbrev txw_coder : List Cond := Cond.code txn_coder txb_coder 1 (some FieldType.byte) :: BW
theorem txg_coder : GoodIn BW txw_coder := fun w hw => by
  rcases List.mem_cons.mp hw with rfl | hw
  · exact ⟨(bw w_0_214 rfl), BW_good (bw w_0_214 rfl)⟩
  · exact ⟨hw, BW_good hw⟩
def txn_latin : MethodName := ⟨"java/lang/String", "isLatin1", "()Z"⟩
abbrev txb_latin : ByteArray := prog_21_method_154_code
theorem txd_latin_0 : decode txb_latin 0 = .ok (.getstatic 38, 3) := by decide +kernel
theorem txd_latin_3 : decode txb_latin 3 = .ok (.ifCond .eq 14, 3) := by decide +kernel
theorem txd_latin_6 : decode txb_latin 6 = .ok (.aload_n 0, 1) := by decide +kernel
theorem txd_latin_7 : decode txb_latin 7 = .ok (.getfield 15, 3) := by decide +kernel
theorem txd_latin_10 : decode txb_latin 10 = .ok (.ifCond .ne 7, 3) := by decide +kernel
theorem txd_latin_13 : decode txb_latin 13 = .ok (.iconst 1, 1) := by decide +kernel
theorem txd_latin_14 : decode txb_latin 14 = .ok (.goto 4, 3) := by decide +kernel
theorem txd_latin_17 : decode txb_latin 17 = .ok (.iconst 0, 1) := by decide +kernel
theorem txd_latin_18 : decode txb_latin 18 = .ok (.ireturn, 1) := by decide +kernel
abbrev txw_latin : List Cond := Cond.code txn_latin txb_latin 1 (some FieldType.boolean) :: BW
theorem txg_latin : GoodIn BW txw_latin := fun w hw => by
  rcases List.mem_cons.mp hw with rfl | hw
  · exact ⟨(bw w_0_224 rfl), BW_good (bw w_0_224 rfl)⟩
  · exact ⟨hw, BW_good hw⟩
def txn_chk : MethodName := ⟨"java/lang/String", "checkIndex", "(II)V"⟩
abbrev txb_chk : ByteArray := prog_21_method_155_code
theorem txd_chk_0 : decode txb_chk 0 = .ok (.iload_n 0, 1) := by decide +kernel
theorem txd_chk_1 : decode txb_chk 1 = .ok (.iload_n 1, 1) := by decide +kernel
theorem txd_chk_2 : decode txb_chk 2 = .ok (.getstatic 1053, 3) := by decide +kernel
theorem txd_chk_5 : decode txb_chk 5 = .ok (.invokestatic 1059, 3) := by decide +kernel
theorem txd_chk_8 : decode txb_chk 8 = .ok (.pop, 1) := by decide +kernel
theorem txd_chk_9 : decode txb_chk 9 = .ok (.return_, 1) := by decide +kernel
abbrev txw_chk : List Cond := Cond.code txn_chk txb_chk 2 (none : Option FieldType) :: BW
theorem txg_chk : GoodIn BW txw_chk := fun w hw => by
  rcases List.mem_cons.mp hw with rfl | hw
  · exact ⟨(bw w_0_230 rfl), BW_good (bw w_0_230 rfl)⟩
  · exact ⟨hw, BW_good hw⟩
def txn_pre : MethodName := ⟨"jdk/internal/util/Preconditions", "checkIndex", "(IILjava/util/function/BiFunction;)I"⟩
abbrev txb_pre : ByteArray := prog_37_method_11_code
theorem txd_pre_0 : decode txb_pre 0 = .ok (.iload_n 0, 1) := by decide +kernel
theorem txd_pre_1 : decode txb_pre 1 = .ok (.ifCond .lt 8, 3) := by decide +kernel
theorem txd_pre_4 : decode txb_pre 4 = .ok (.iload_n 0, 1) := by decide +kernel
theorem txd_pre_5 : decode txb_pre 5 = .ok (.iload_n 1, 1) := by decide +kernel
theorem txd_pre_6 : decode txb_pre 6 = .ok (.if_icmp .lt 10, 3) := by decide +kernel
theorem txd_pre_9 : decode txb_pre 9 = .ok (.aload_n 2, 1) := by decide +kernel
theorem txd_pre_10 : decode txb_pre 10 = .ok (.iload_n 0, 1) := by decide +kernel
theorem txd_pre_11 : decode txb_pre 11 = .ok (.iload_n 1, 1) := by decide +kernel
theorem txd_pre_12 : decode txb_pre 12 = .ok (.invokestatic 95, 3) := by decide +kernel
theorem txd_pre_15 : decode txb_pre 15 = .ok (.athrow, 1) := by decide +kernel
theorem txd_pre_16 : decode txb_pre 16 = .ok (.iload_n 0, 1) := by decide +kernel
theorem txd_pre_17 : decode txb_pre 17 = .ok (.ireturn, 1) := by decide +kernel
abbrev txw_pre : List Cond := Cond.code txn_pre txb_pre 3 (some FieldType.int) :: BW
theorem txg_pre : GoodIn BW txw_pre := fun w hw => by
  rcases List.mem_cons.mp hw with rfl | hw
  · exact ⟨(bw w_0_235 rfl), BW_good (bw w_0_235 rfl)⟩
  · exact ⟨hw, BW_good hw⟩
def txn_at1 : MethodName := ⟨"java/lang/StringLatin1", "charAt", "([BI)C"⟩
abbrev txb_at1 : ByteArray := prog_22_method_2_code
theorem txd_at1_0 : decode txb_at1 0 = .ok (.iload_n 1, 1) := by decide +kernel
theorem txd_at1_1 : decode txb_at1 1 = .ok (.aload_n 0, 1) := by decide +kernel
theorem txd_at1_2 : decode txb_at1 2 = .ok (.arraylength, 1) := by decide +kernel
theorem txd_at1_3 : decode txb_at1 3 = .ok (.invokestatic 9, 3) := by decide +kernel
theorem txd_at1_6 : decode txb_at1 6 = .ok (.aload_n 0, 1) := by decide +kernel
theorem txd_at1_7 : decode txb_at1 7 = .ok (.iload_n 1, 1) := by decide +kernel
theorem txd_at1_8 : decode txb_at1 8 = .ok (.baload, 1) := by decide +kernel
theorem txd_at1_9 : decode txb_at1 9 = .ok (.sipush 255, 3) := by decide +kernel
theorem txd_at1_12 : decode txb_at1 12 = .ok (.iand, 1) := by decide +kernel
theorem txd_at1_13 : decode txb_at1 13 = .ok (.i2c, 1) := by decide +kernel
theorem txd_at1_14 : decode txb_at1 14 = .ok (.ireturn, 1) := by decide +kernel
abbrev txw_at1 : List Cond := Cond.code txn_at1 txb_at1 2 (some FieldType.char) :: BW
theorem txg_at1 : GoodIn BW txw_at1 := fun w hw => by
  rcases List.mem_cons.mp hw with rfl | hw
  · exact ⟨(bw w_0_227 rfl), BW_good (bw w_0_227 rfl)⟩
  · exact ⟨hw, BW_good hw⟩
def txn_len : MethodName := ⟨"java/lang/String", "length", "()I"⟩
abbrev txb_len : ByteArray := prog_21_method_54_code
theorem txd_len_0 : decode txb_len 0 = .ok (.aload_n 0, 1) := by decide +kernel
theorem txd_len_1 : decode txb_len 1 = .ok (.getfield 9, 3) := by decide +kernel
theorem txd_len_4 : decode txb_len 4 = .ok (.arraylength, 1) := by decide +kernel
theorem txd_len_5 : decode txb_len 5 = .ok (.aload_n 0, 1) := by decide +kernel
theorem txd_len_6 : decode txb_len 6 = .ok (.invokevirtual 335, 3) := by decide +kernel
theorem txd_len_9 : decode txb_len 9 = .ok (.ishr, 1) := by decide +kernel
theorem txd_len_10 : decode txb_len 10 = .ok (.ireturn, 1) := by decide +kernel
abbrev txw_len : List Cond := Cond.code txn_len txb_len 1 (some FieldType.int) :: BW
theorem txg_len : GoodIn BW txw_len := fun w hw => by
  rcases List.mem_cons.mp hw with rfl | hw
  · exact ⟨(bw w_0_210 rfl), BW_good (bw w_0_210 rfl)⟩
  · exact ⟨hw, BW_good hw⟩
def txn_at : MethodName := ⟨"java/lang/String", "charAt", "(I)C"⟩
abbrev txb_at : ByteArray := prog_21_method_56_code
theorem txd_at_0 : decode txb_at 0 = .ok (.aload_n 0, 1) := by decide +kernel
theorem txd_at_1 : decode txb_at 1 = .ok (.invokevirtual 492, 3) := by decide +kernel
theorem txd_at_4 : decode txb_at 4 = .ok (.ifCond .eq 12, 3) := by decide +kernel
theorem txd_at_7 : decode txb_at 7 = .ok (.aload_n 0, 1) := by decide +kernel
theorem txd_at_8 : decode txb_at 8 = .ok (.getfield 9, 3) := by decide +kernel
theorem txd_at_11 : decode txb_at 11 = .ok (.iload_n 1, 1) := by decide +kernel
theorem txd_at_12 : decode txb_at 12 = .ok (.invokestatic 495, 3) := by decide +kernel
theorem txd_at_15 : decode txb_at 15 = .ok (.ireturn, 1) := by decide +kernel
theorem txd_at_16 : decode txb_at 16 = .ok (.aload_n 0, 1) := by decide +kernel
theorem txd_at_17 : decode txb_at 17 = .ok (.getfield 9, 3) := by decide +kernel
theorem txd_at_20 : decode txb_at 20 = .ok (.iload_n 1, 1) := by decide +kernel
theorem txd_at_21 : decode txb_at 21 = .ok (.invokestatic 498, 3) := by decide +kernel
theorem txd_at_24 : decode txb_at 24 = .ok (.ireturn, 1) := by decide +kernel
abbrev txw_at : List Cond := Cond.code txn_at txb_at 2 (some FieldType.char) :: BW
theorem txg_at : GoodIn BW txw_at := fun w hw => by
  rcases List.mem_cons.mp hw with rfl | hw
  · exact ⟨(bw w_0_220 rfl), BW_good (bw w_0_220 rfl)⟩
  · exact ⟨hw, BW_good hw⟩
def xPw (D : va_G) (z : Nat) (ex : Int → Nat) (aV : Nat → Nat) (cA : Nat → ClassId) (HB : Heap) (vs : List Value) (h : Hp) : Array Value → State → Prop := fun v U => v = vs.toArray ∧ xP D z ex cA HB h U.heap ∧ va_K D vwCl (xTy cA) U ∧ xN z ex aV U
def xQw (D : va_G) (z : Nat) (ex : Int → Nat) (cA : Nat → ClassId) (HB : Heap) (r : Option Value) (h : Hp) : Array Value → State → Outcome → State → Prop := fun _ st oc t => oc = .returned r ∧ xP D z ex cA HB h t.heap ∧ va_F (xA z) st t
section XSTR
variable {l : Launch} {D : va_G} {z : Nat} {ex : Int → Nat} {aV : Nat → Nat} {cA : Nat → ClassId} {HB : Heap} {h : Hp}
theorem sBlind {vs : List Value} : FrameBlind (xPw D z ex aV cA HB vs h) := by
  intro a U g mk q
  obtain ⟨q1, q2, q3, q4⟩ := q
  exact ⟨q1, q2, va_K.moved (u := U) (U := U.calling g mk a) (Vm.Alike.refl U.vm) q3, xN.warm (s := U) (U := U.calling g mk a) (State.WarmedH.refl U) (fun _ _ _ => rfl) q4⟩
theorem sPre {vs : List Value} {s : State} {H : Heap} {locs : List Loc} (hK : va_K D vwCl (xTy cA) s) (hN : xN z ex aV s) (hP : xP D z ex cA HB h H) (hS : va_S (xA z) s.heap H locs) : PreS s H (xPw D z ex aV cA HB vs h) vs :=
  ⟨sBlind, fun U hU hW => ⟨rfl, by rw [hU]; exact hP, va_K.moved hW.alike hK, xN.warm hW (fun a h1 h2 => by rw [hU]; exact hS.2.1 a h1 h2) hN⟩⟩
/-- a call that changes nothing -/
theorem sUse {p : Program} {e : Env} {R : Room} {s : State} {m : MethodId} {args : Array Value} {below : List Frame} {meth : Method} {c : Code} {H : Heap} {locs : List Loc} {cells slots : Nat} {Q : State → Prop} {pc : Nat} {ls : Array Slot} {r : Option Value} {rest st0 : List Value} {a : Array Value} (hr : va_Run p l e R s m args below meth c H locs cells slots 0 0 (F0 m pc ls st0) rest (xQw D z ex cA HB r h a) (xA z)) (hS : va_S (xA z) s.heap H locs)
    (kk : ∀ H1 locs1, xP D z ex cA HB h H1 → va_S (xA z) s.heap H1 locs1 → W p l e R s m args below meth c H1 locs1 cells slots Q (F0 m (pc + 3) ls (r.toList ++ rest))) : W p l e R s m args below meth c H locs cells slots Q (F0 m pc ls st0) := by
  intro T hT X
  obtain ⟨v, st₀, t, T', L, h0, X', hL, e1, e2, ⟨hv, hp, hz, hk⟩, st⟩ := hr T hT X
  cases hv
  subst h0
  have hS' : va_S (xA z) s.heap t.heap (locs ++ L) := ⟨Nat.le_trans hS.1 hz, fun q h1 h2 => (hk q (Nat.lt_of_lt_of_le h1 hS.1) h2).trans (hS.2.1 q h1 h2), fun q hq => (List.mem_append.mp hq).elim (hS.2.2 q) (hL q)⟩
  obtain ⟨t2, a1, b1⟩ := kk t.heap (locs ++ L) hp hS' T' e1 X'
  exact ⟨t2, st t2 a1, b1⟩
set_option maxRecDepth 100000 in
theorem txm_coder {i : Nat} (hi : i < 10) : Met l txn_coder txw_coder (xRm 0 0 0) (xPw D z ex aV cA HB [.ref (ex (-10 - (i : Int)))] h) (xQw D z ex cA HB (some (.int 0)) h) 0 0 (xA z) := by
  refine Met.ofW (cc := txb_coder) (maxL := 1) (ret := (some FieldType.byte)) (by decide +kernel) rfl ?_
  intro p e s m args below meth c s₁ B hml hv
  obtain ⟨rfl, hP, hK, hN⟩ := hv
  have hx := B.exec
  have hb := B.bytes
  have hr := B.returns
  have hts : ∀ w ∈ BW, w.before _ s = true := fun w hw => atoms_spec (ws := txw_coder) B.pre w (List.mem_cons_of_mem _ hw)
  have hown : s.vm.findClass "java/lang/String" = some m.cls := findClass_of_methodNamed B.named
  have hlocks := B.notSynchronized
  have hS : va_S (xA z) s.heap s.heap [] := va_S.rf
  have hl := lv_entry [.ref (ex (-10 - (i : Int)))] (n := 1) (Nat.le_of_ble_eq_true rfl)
  rw [lg_entry_eq]
  generalize (lg_sl [.ref (ex (-10 - (i : Int)))] ++ List.replicate (1 - (lg_sl [.ref (ex (-10 - (i : Int)))]).length) Slot.unset).toArray = ls at hl ⊢
  have hl : lv_has ls 1 [(0, .ref (ex (-10 - (i : Int))))] := hl
  refine va_gets hx hb hN.2.2.2.2.2.2.2.2.2.1 hS hown (hts _ (bw w_0_215 rfl)) (fun x h => h) txd_coder_0 ?_
  refine lv_if_eq (tgt := 13) hx hb txd_coder_3 (by decide) (fun q => absurd q (by decide)) (fun _ => ?_)
  refine lv_aload_n hx hb txd_coder_6 rfl (lv_at hl 0 rfl) ?_
  refine vk_getf hx hb (hN.2.2.2.2.2.2.2.2.1 i hi).2.1 hS hown (hts _ (bw w_6_60 rfl)) (fun x h => h) txd_coder_7 ?_
  refine lv_goto (tgt := 14) hx hb txd_coder_10 (by decide) ?_
  exact W.zret hx hb hr rfl (fun t ht _ => ⟨rfl, by rw [ht]; exact hP, hS.F ht⟩) (fun q hq => hS.2.2 q hq) txd_coder_14 hlocks
set_option maxRecDepth 100000 in
theorem txm_latin {i : Nat} (hi : i < 10) : Met l txn_latin txw_latin (xRm 0 0 0) (xPw D z ex aV cA HB [.ref (ex (-10 - (i : Int)))] h) (xQw D z ex cA HB (some (.int 1)) h) 0 0 (xA z) := by
  refine Met.ofW (cc := txb_latin) (maxL := 1) (ret := (some FieldType.boolean)) (by decide +kernel) rfl ?_
  intro p e s m args below meth c s₁ B hml hv
  obtain ⟨rfl, hP, hK, hN⟩ := hv
  have hx := B.exec
  have hb := B.bytes
  have hr := B.returns
  have hts : ∀ w ∈ BW, w.before _ s = true := fun w hw => atoms_spec (ws := txw_latin) B.pre w (List.mem_cons_of_mem _ hw)
  have hown : s.vm.findClass "java/lang/String" = some m.cls := findClass_of_methodNamed B.named
  have hlocks := B.notSynchronized
  have hS : va_S (xA z) s.heap s.heap [] := va_S.rf
  have hl := lv_entry [.ref (ex (-10 - (i : Int)))] (n := 1) (Nat.le_of_ble_eq_true rfl)
  rw [lg_entry_eq]
  generalize (lg_sl [.ref (ex (-10 - (i : Int)))] ++ List.replicate (1 - (lg_sl [.ref (ex (-10 - (i : Int)))]).length) Slot.unset).toArray = ls at hl ⊢
  have hl : lv_has ls 1 [(0, .ref (ex (-10 - (i : Int))))] := hl
  refine va_gets hx hb hN.2.2.2.2.2.2.2.2.2.1 hS hown (hts _ (bw w_0_215 rfl)) (fun x h => h) txd_latin_0 ?_
  refine lv_if_eq (tgt := 17) hx hb txd_latin_3 (by decide) (fun q => absurd q (by decide)) (fun _ => ?_)
  refine lv_aload_n hx hb txd_latin_6 rfl (lv_at hl 0 rfl) ?_
  refine vk_getf hx hb (hN.2.2.2.2.2.2.2.2.1 i hi).2.1 hS hown (hts _ (bw w_6_60 rfl)) (fun x h => h) txd_latin_7 ?_
  refine lv_if_ne (tgt := 17) hx hb txd_latin_10 (by decide) (fun q => absurd rfl q) (fun _ => ?_)
  refine lv_iconst hx hb txd_latin_13 rfl ?_
  refine lv_goto (tgt := 18) hx hb txd_latin_14 (by decide) ?_
  exact W.zret hx hb hr rfl (fun t ht _ => ⟨rfl, by rw [ht]; exact hP, hS.F ht⟩) (fun q hq => hS.2.2 q hq) txd_latin_18 hlocks
set_option maxRecDepth 100000 in
theorem txm_pre {j n : Int} {w : Option Nat} (h0 : 0 ≤ j) (h1 : j < n) (hn : n < 100000) : Met l txn_pre txw_pre (xRm 0 0 0) (xPw D z ex aV cA HB [.int (Int32.ofInt j), .int (Int32.ofInt n), va_rf w] h) (xQw D z ex cA HB (some (.int (Int32.ofInt j))) h) 0 0 (xA z) := by
  refine Met.ofW (cc := txb_pre) (maxL := 3) (ret := (some FieldType.int)) (by decide +kernel) rfl ?_
  intro p e s m args below meth c s₁ B hml hv
  obtain ⟨rfl, hP, hK, hN⟩ := hv
  have hx := B.exec
  have hb := B.bytes
  have hr := B.returns
  have hts : ∀ w ∈ BW, w.before _ s = true := fun w hw => atoms_spec (ws := txw_pre) B.pre w (List.mem_cons_of_mem _ hw)
  have hown : s.vm.findClass "jdk/internal/util/Preconditions" = some m.cls := findClass_of_methodNamed B.named
  have hlocks := B.notSynchronized
  have hS : va_S (xA z) s.heap s.heap [] := va_S.rf
  have hl := lv_entry [.int (Int32.ofInt j), .int (Int32.ofInt n), va_rf w] (n := 3) (by cases w <;> exact Nat.le_of_ble_eq_true rfl)
  rw [lg_entry_eq]
  generalize (lg_sl [.int (Int32.ofInt j), .int (Int32.ofInt n), va_rf w] ++ List.replicate (3 - (lg_sl [.int (Int32.ofInt j), .int (Int32.ofInt n), va_rf w]).length) Slot.unset).toArray = ls at hl ⊢
  have hl : lv_has ls 3 [(0, .int (Int32.ofInt j)), (1, .int (Int32.ofInt n)), (2, va_rf w)] := hl
  refine lv_iload_n hx hb txd_pre_0 rfl (lv_at hl 0 rfl) ?_
  refine lv_if_lt (tgt := 9) hx hb txd_pre_1 (by decide) (fun q => ?_) (fun _ => ?_)
  · rw [show (0 : Int32) = Int32.ofInt 0 from rfl, ofInt_lt (by omega) (by omega)] at q
    omega
  refine lv_iload_n hx hb txd_pre_4 rfl (lv_at hl 0 rfl) ?_
  refine lv_iload_n hx hb txd_pre_5 rfl (lv_at hl 1 rfl) ?_
  refine lv_icmp_lt (tgt := 16) hx hb txd_pre_6 (by decide) (fun _ => ?_) (fun q => ?_)
  · refine lv_iload_n hx hb txd_pre_16 rfl (lv_at hl 0 rfl) ?_
    exact W.iret hx hb hr (fun t ht _ => ⟨rfl, by rw [ht]; exact hP, hS.F ht⟩) (fun q hq => hS.2.2 q hq) txd_pre_17 hlocks
  · rw [ofInt_lt (by omega) (by omega)] at q
    omega
set_option maxRecDepth 100000 in
theorem txm_chk {j n : Int} (h0 : 0 ≤ j) (h1 : j < n) (hn : n < 100000) : Met l txn_chk txw_chk (xRm 1 0 0) (xPw D z ex aV cA HB [.int (Int32.ofInt j), .int (Int32.ofInt n)] h) (xQw D z ex cA HB none h) 0 0 (xA z) := by
  refine Met.ofW (cc := txb_chk) (maxL := 2) (ret := (none : Option FieldType)) (by decide +kernel) rfl ?_
  intro p e s m args below meth c s₁ B hml hv
  obtain ⟨rfl, hP, hK, hN⟩ := hv
  have hx := B.exec
  have hb := B.bytes
  have hr := B.returns
  have hts : ∀ w ∈ BW, w.before _ s = true := fun w hw => atoms_spec (ws := txw_chk) B.pre w (List.mem_cons_of_mem _ hw)
  have hown : s.vm.findClass "java/lang/String" = some m.cls := findClass_of_methodNamed B.named
  have hlocks := B.notSynchronized
  have hS : va_S (xA z) s.heap s.heap [] := va_S.rf
  have hl := lv_entry [.int (Int32.ofInt j), .int (Int32.ofInt n)] (n := 2) (Nat.le_of_ble_eq_true rfl)
  rw [lg_entry_eq]
  generalize (lg_sl [.int (Int32.ofInt j), .int (Int32.ofInt n)] ++ List.replicate (2 - (lg_sl [.int (Int32.ofInt j), .int (Int32.ofInt n)]).length) Slot.unset).toArray = ls at hl ⊢
  have hl : lv_has ls 2 [(0, .int (Int32.ofInt j)), (1, .int (Int32.ofInt n))] := hl
  refine lv_iload_n hx hb txd_chk_0 rfl (lv_at hl 0 rfl) ?_
  refine lv_iload_n hx hb txd_chk_1 rfl (lv_at hl 1 rfl) ?_
  have go : ∀ w : Option Nat, W p l e (headSpec txw_chk (xRm 1 0 0)).room s m ([.int (Int32.ofInt j), .int (Int32.ofInt n)] : List Value).toArray below meth c s.heap [] 0 0 (MQ below (xQw D z ex cA HB none h) ([.int (Int32.ofInt j), .int (Int32.ofInt n)] : List Value).toArray s 0 0 (xA z)) (F0 m 5 ls [va_rf w, .int (Int32.ofInt n), .int (Int32.ofInt j)]) := by
    intro w
    have hM := txm_pre (l := l) (D := D) (z := z) (ex := ex) (aV := aV) (cA := cA) (HB := HB) (h := h) (w := w) h0 h1 hn
    have key := va_runS (e := e) (R := (headSpec txw_chk (xRm 1 0 0)).room) (below := below) (meth := meth) (H := s.heap) (locs := []) (cells := 0) (slots := 0) (rest := []) (n := 3) ⟨hx, hb, hml, hown, hts⟩ hM ⟨⟨rfl, rfl, Nat.le_of_ble_eq_true rfl, Nat.le_of_ble_eq_true rfl, pay_in hts txg_pre, List.mem_cons_self, hts _ (bw w_0_235 rfl), hts _ (bw w_0_11 rfl), ⟨by decide +kernel, by decide +kernel⟩, xLenN (by decide +kernel), (hts _ (bw w_0_233 rfl))⟩, hts _ (bw w_0_234 rfl)⟩ (sPre hK hN hP hS) (g := F0 m 5 ls [va_rf w, .int (Int32.ofInt n), .int (Int32.ofInt j)]) rfl rfl hl.1 rfl (Nat.le_of_ble_eq_true rfl) txd_chk_5 ⟨Nat.le_refl _, Nat.le_refl _⟩
    refine sUse key hS (fun H1 locs1 hP hS => ?_)
    refine lv_pop hx hb txd_chk_8 rfl ?_
    exact W.vret hx hb hr (fun t ht _ => ⟨rfl, by rw [ht]; exact hP, hS.F ht⟩) (fun q hq => hS.2.2 q hq) txd_chk_9 hlocks
  rcases hN.2.2.2.2.2.2.2.2.2.2 with hZ | ⟨t, hZ⟩
  · exact va_gets hx hb hZ hS hown (hts _ (bw w_0_231 rfl)) (fun x h => h) txd_chk_2 (go none)
  · exact va_gets hx hb hZ hS hown (hts _ (bw w_0_231 rfl)) (fun x h => h) txd_chk_2 (go (some t))
theorem xShr0 (x : Int32) : x >>> ((0 : Int32) &&& 31) = x := by
  apply Int32.toBitVec_inj.mp
  rw [Int32.toBitVec_shiftRight]
  show x.toBitVec.sshiftRight' _ = _
  simp
theorem xByt_ok : ∀ i, i < 10 → xLen.getD i 0 = (txt i).length ∧ (txt i).length < 100 ∧ ∀ j, j < (txt i).length → (((xByt.getD i []).getD j 0 &&& Int32.ofInt 255).toUInt32 % 65536).toInt32 = Int32.ofInt (((txt i).getD j 0 : Nat) : Int) ∧ narrow .char (.int (Int32.ofInt (((txt i).getD j 0 : Nat) : Int))) = .int (Int32.ofInt (((txt i).getD j 0 : Nat) : Int)) := by decide +kernel
set_option maxRecDepth 100000 in
theorem txm_at1 {i : Nat} {j : Int} (hi : i < 10) (h0 : 0 ≤ j) (h1 : j.toNat < (txt i).length) : Met l txn_at1 txw_at1 (xRm 2 0 0) (xPw D z ex aV cA HB [.ref (aV i), .int (Int32.ofInt j)] h) (xQw D z ex cA HB (some (.int (Int32.ofInt (((txt i).getD j.toNat 0 : Nat) : Int)))) h) 0 0 (xA z) := by
  refine Met.ofW (cc := txb_at1) (maxL := 2) (ret := (some FieldType.char)) (by decide +kernel) rfl ?_
  intro p e s m args below meth c s₁ B hml hv
  obtain ⟨rfl, hP, hK, hN⟩ := hv
  have hx := B.exec
  have hb := B.bytes
  have hr := B.returns
  have hts : ∀ w ∈ BW, w.before _ s = true := fun w hw => atoms_spec (ws := txw_at1) B.pre w (List.mem_cons_of_mem _ hw)
  have hown : s.vm.findClass "java/lang/StringLatin1" = some m.cls := findClass_of_methodNamed B.named
  have hlocks := B.notSynchronized
  have hS : va_S (xA z) s.heap s.heap [] := va_S.rf
  have hl := lv_entry [.ref (aV i), .int (Int32.ofInt j)] (n := 2) (Nat.le_of_ble_eq_true rfl)
  rw [lg_entry_eq]
  generalize (lg_sl [.ref (aV i), .int (Int32.ofInt j)] ++ List.replicate (2 - (lg_sl [.ref (aV i), .int (Int32.ofInt j)]).length) Slot.unset).toArray = ls at hl ⊢
  have hl : lv_has ls 2 [(0, .ref (aV i)), (1, .int (Int32.ofInt j))] := hl
  obtain ⟨b1, b2, b3⟩ := xByt_ok i hi
  have hT := (hN.2.2.2.2.2.2.2.2.1 i hi).2.2.2
  rw [b1] at hT
  refine lv_iload_n hx hb txd_at1_0 rfl (lv_at hl 1 rfl) ?_
  refine lv_aload_n hx hb txd_at1_1 rfl (lv_at hl 0 rfl) ?_
  refine va_tlen hx hb hT hS (v := Int32.ofInt ((txt i).length : Int)) Int32.ofInt_eq_ofNat.symm txd_at1_2 ?_
  have hM := txm_chk (l := l) (D := D) (z := z) (ex := ex) (aV := aV) (cA := cA) (HB := HB) (h := h) (j := j) (n := ((txt i).length : Int)) h0 (by omega) (by omega)
  have key := va_runS (e := e) (R := (headSpec txw_at1 (xRm 2 0 0)).room) (below := below) (meth := meth) (H := s.heap) (locs := []) (cells := 0) (slots := 0) (rest := []) (n := 2) ⟨hx, hb, hml, hown, hts⟩ hM ⟨⟨rfl, rfl, Nat.le_of_ble_eq_true rfl, Nat.le_of_ble_eq_true rfl, pay_in hts txg_chk, List.mem_cons_self, hts _ (bw w_0_230 rfl), hts _ (bw w_0_9 rfl), ⟨by decide +kernel, by decide +kernel⟩, xLenN (by decide +kernel), (hts _ (bw w_0_228 rfl))⟩, hts _ (bw w_0_229 rfl)⟩ (sPre hK hN hP hS) (g := F0 m 3 ls [.int (Int32.ofInt ((txt i).length : Int)), .int (Int32.ofInt j)]) rfl rfl hl.1 rfl (Nat.le_of_ble_eq_true rfl) txd_at1_3 ⟨Nat.le_refl _, Nat.le_refl _⟩
  refine sUse key hS (fun H1 locs1 hP hS => ?_)
  refine lv_aload_n hx hb txd_at1_6 rfl (lv_at hl 0 rfl) ?_
  refine lv_iload_n hx hb txd_at1_7 rfl (lv_at hl 1 rfl) ?_
  obtain ⟨v1, v2⟩ := ofInt_in (n := (txt i).length) h0 h1 (by omega)
  refine va_tb hx hb hT hS v1 (v := .int ((xByt.getD i []).getD j.toNat 0)) (by rw [v2]) txd_at1_8 ?_
  refine lv_sipush (v := Int32.ofInt 255) hx hb txd_at1_9 rfl ?_
  refine lv_iand hx hb txd_at1_12 ?_
  obtain ⟨c1, c2⟩ := b3 j.toNat h1
  refine lv_i2c hx hb txd_at1_13 c1 ?_
  exact W.zret hx hb hr c2 (fun t ht _ => ⟨rfl, by rw [ht]; exact hP, hS.F ht⟩) (fun q hq => hS.2.2 q hq) txd_at1_14 hlocks
set_option maxRecDepth 100000 in
theorem txm_len {i : Nat} (hi : i < 10) : Met l txn_len txw_len (xRm 5 0 0) (xPw D z ex aV cA HB [.ref (ex (-10 - (i : Int)))] h) (xQw D z ex cA HB (some (.int (Int32.ofInt ((txt i).length : Int)))) h) 0 0 (xA z) := by
  refine Met.ofW (cc := txb_len) (maxL := 1) (ret := (some FieldType.int)) (by decide +kernel) rfl ?_
  intro p e s m args below meth c s₁ B hml hv
  obtain ⟨rfl, hP, hK, hN⟩ := hv
  have hx := B.exec
  have hb := B.bytes
  have hr := B.returns
  have hts : ∀ w ∈ BW, w.before _ s = true := fun w hw => atoms_spec (ws := txw_len) B.pre w (List.mem_cons_of_mem _ hw)
  have hown : s.vm.findClass "java/lang/String" = some m.cls := findClass_of_methodNamed B.named
  have hlocks := B.notSynchronized
  have hS : va_S (xA z) s.heap s.heap [] := va_S.rf
  have hl := lv_entry [.ref (ex (-10 - (i : Int)))] (n := 1) (Nat.le_of_ble_eq_true rfl)
  rw [lg_entry_eq]
  generalize (lg_sl [.ref (ex (-10 - (i : Int)))] ++ List.replicate (1 - (lg_sl [.ref (ex (-10 - (i : Int)))]).length) Slot.unset).toArray = ls at hl ⊢
  have hl : lv_has ls 1 [(0, .ref (ex (-10 - (i : Int))))] := hl
  obtain ⟨b1, b2, b3⟩ := xByt_ok i hi
  have hT := (hN.2.2.2.2.2.2.2.2.1 i hi).2.2.2
  rw [b1] at hT
  refine lv_aload_n hx hb txd_len_0 rfl (lv_at hl 0 rfl) ?_
  refine vk_getf hx hb (hN.2.2.2.2.2.2.2.2.1 i hi).2.2.1 hS hown (hts _ (bw w_6_59 rfl)) (fun x h => h) txd_len_1 ?_
  refine va_tlen hx hb hT hS (v := Int32.ofInt ((txt i).length : Int)) Int32.ofInt_eq_ofNat.symm txd_len_4 ?_
  refine lv_aload_n hx hb txd_len_5 rfl (lv_at hl 0 rfl) ?_
  have hrec : ∃ cell : Cell, s.heap[ex (-10 - (i : Int))]? = some cell ∧ cell.vm.isStatics = false ∧ s.vm.findClass "java/lang/String" = some cell.cls := by
    obtain ⟨⟨cell, k1, k2, k3, k4⟩, -⟩ := hN.2.2.2.2.2.2.2.2.1 i hi
    exact ⟨cell, k1, k2, k3⟩
  have hM := txm_coder (l := l) (D := D) (z := z) (ex := ex) (aV := aV) (cA := cA) (HB := HB) (h := h) (i := i) hi
  have hpre := sPre (vs := [.ref (ex (-10 - (i : Int)))]) hK hN hP hS
  have key := va_runV (C := "java/lang/String") (e := e) (R := (headSpec txw_len (xRm 5 0 0)).room) (below := below) (meth := meth) (H := s.heap) (locs := []) (cells := 0) (slots := 0) (As := []) (rest := [.int (Int32.ofInt ((txt i).length : Int))]) (n := 0) ⟨hx, hb, hml, hown, hts⟩ hM ⟨⟨rfl, rfl, Nat.le_of_ble_eq_true rfl, Nat.le_of_ble_eq_true rfl, pay_in hts txg_coder, List.mem_cons_self, hts _ (bw w_0_214 rfl), hts _ (bw w_0_9 rfl), ⟨by decide +kernel, by decide +kernel⟩, xLenN (by decide +kernel), (hts _ (bw w_0_211 rfl))⟩, hts _ (bw w_0_212 rfl), hts _ (bw w_0_213 rfl)⟩ ⟨hpre.1, hrec, hpre.2⟩ (g := F0 m 6 ls [.ref (ex (-10 - (i : Int))), .int (Int32.ofInt ((txt i).length : Int))]) rfl rfl hl.1 rfl (Nat.le_of_ble_eq_true rfl) txd_len_6 ⟨Nat.le_refl _, Nat.le_refl _⟩
  refine sUse key hS (fun H1 locs1 hP hS => ?_)
  refine lv_ishr hx hb txd_len_9 ?_
  have e0 : (Int32.ofInt ((txt i).length : Int)) >>> ((0 : Int32) &&& 31) = Int32.ofInt ((txt i).length : Int) := xShr0 _
  rw [e0]
  exact W.iret hx hb hr (fun t ht _ => ⟨rfl, by rw [ht]; exact hP, hS.F ht⟩) (fun q hq => hS.2.2 q hq) txd_len_10 hlocks
set_option maxRecDepth 100000 in
theorem txm_at {i : Nat} {j : Int} (hi : i < 10) (h0 : 0 ≤ j) (h1 : j.toNat < (txt i).length) : Met l txn_at txw_at (xRm 5 0 0) (xPw D z ex aV cA HB [.ref (ex (-10 - (i : Int))), .int (Int32.ofInt j)] h) (xQw D z ex cA HB (some (.int (Int32.ofInt (((txt i).getD j.toNat 0 : Nat) : Int)))) h) 0 0 (xA z) := by
  refine Met.ofW (cc := txb_at) (maxL := 2) (ret := (some FieldType.char)) (by decide +kernel) rfl ?_
  intro p e s m args below meth c s₁ B hml hv
  obtain ⟨rfl, hP, hK, hN⟩ := hv
  have hx := B.exec
  have hb := B.bytes
  have hr := B.returns
  have hts : ∀ w ∈ BW, w.before _ s = true := fun w hw => atoms_spec (ws := txw_at) B.pre w (List.mem_cons_of_mem _ hw)
  have hown : s.vm.findClass "java/lang/String" = some m.cls := findClass_of_methodNamed B.named
  have hlocks := B.notSynchronized
  have hS : va_S (xA z) s.heap s.heap [] := va_S.rf
  have hl := lv_entry [.ref (ex (-10 - (i : Int))), .int (Int32.ofInt j)] (n := 2) (Nat.le_of_ble_eq_true rfl)
  rw [lg_entry_eq]
  generalize (lg_sl [.ref (ex (-10 - (i : Int))), .int (Int32.ofInt j)] ++ List.replicate (2 - (lg_sl [.ref (ex (-10 - (i : Int))), .int (Int32.ofInt j)]).length) Slot.unset).toArray = ls at hl ⊢
  have hl : lv_has ls 2 [(0, .ref (ex (-10 - (i : Int)))), (1, .int (Int32.ofInt j))] := hl
  obtain ⟨b1, b2, b3⟩ := xByt_ok i hi
  obtain ⟨c1, c2⟩ := b3 j.toNat h1
  refine lv_aload_n hx hb txd_at_0 rfl (lv_at hl 0 rfl) ?_
  have hrec : ∃ cell : Cell, s.heap[ex (-10 - (i : Int))]? = some cell ∧ cell.vm.isStatics = false ∧ s.vm.findClass "java/lang/String" = some cell.cls := by
    obtain ⟨⟨cell, k1, k2, k3, k4⟩, -⟩ := hN.2.2.2.2.2.2.2.2.1 i hi
    exact ⟨cell, k1, k2, k3⟩
  have hM := txm_latin (l := l) (D := D) (z := z) (ex := ex) (aV := aV) (cA := cA) (HB := HB) (h := h) (i := i) hi
  have hpre := sPre (vs := [.ref (ex (-10 - (i : Int)))]) hK hN hP hS
  have key := va_runV (C := "java/lang/String") (e := e) (R := (headSpec txw_at (xRm 5 0 0)).room) (below := below) (meth := meth) (H := s.heap) (locs := []) (cells := 0) (slots := 0) (As := []) (rest := []) (n := 0) ⟨hx, hb, hml, hown, hts⟩ hM ⟨⟨rfl, rfl, Nat.le_of_ble_eq_true rfl, Nat.le_of_ble_eq_true rfl, pay_in hts txg_latin, List.mem_cons_self, hts _ (bw w_0_224 rfl), hts _ (bw w_0_9 rfl), ⟨by decide +kernel, by decide +kernel⟩, xLenN (by decide +kernel), (hts _ (bw w_0_221 rfl))⟩, hts _ (bw w_0_222 rfl), hts _ (bw w_0_223 rfl)⟩ ⟨hpre.1, hrec, hpre.2⟩ (g := F0 m 1 ls [.ref (ex (-10 - (i : Int)))]) rfl rfl hl.1 rfl (Nat.le_of_ble_eq_true rfl) txd_at_1 ⟨Nat.le_refl _, Nat.le_refl _⟩
  refine sUse key hS (fun H1 locs1 hP hS => ?_)
  refine lv_if_eq (tgt := 16) hx hb txd_at_4 (by decide) (fun q => absurd q (by decide)) (fun _ => ?_)
  refine lv_aload_n hx hb txd_at_7 rfl (lv_at hl 0 rfl) ?_
  refine vk_getf hx hb (hN.2.2.2.2.2.2.2.2.1 i hi).2.2.1 hS hown (hts _ (bw w_6_59 rfl)) (fun x h => h) txd_at_8 ?_
  refine lv_iload_n hx hb txd_at_11 rfl (lv_at hl 1 rfl) ?_
  have hM := txm_at1 (l := l) (D := D) (z := z) (ex := ex) (aV := aV) (cA := cA) (HB := HB) (h := h) (i := i) (j := j) hi h0 h1
  have key := va_runS (e := e) (R := (headSpec txw_at (xRm 5 0 0)).room) (below := below) (meth := meth) (H := H1) (locs := locs1) (cells := 0) (slots := 0) (rest := []) (n := 2) ⟨hx, hb, hml, hown, hts⟩ hM ⟨⟨rfl, rfl, Nat.le_of_ble_eq_true rfl, Nat.le_of_ble_eq_true rfl, pay_in hts txg_at1, List.mem_cons_self, hts _ (bw w_0_227 rfl), hts _ (bw w_0_10 rfl), ⟨by decide +kernel, by decide +kernel⟩, xLenN (by decide +kernel), (hts _ (bw w_0_225 rfl))⟩, hts _ (bw w_0_226 rfl)⟩ (sPre hK hN hP hS) (g := F0 m 12 ls [.int (Int32.ofInt j), .ref (aV i)]) rfl rfl hl.1 rfl (Nat.le_of_ble_eq_true rfl) txd_at_12 ⟨Nat.le_refl _, Nat.le_refl _⟩
  refine sUse key hS (fun H1 locs1 hP hS => ?_)
  exact W.zret hx hb hr c2 (fun t ht _ => ⟨rfl, by rw [ht]; exact hP, hS.F ht⟩) (fun q hq => hS.2.2 q hq) txd_at_15 hlocks
theorem xPr : XPr l D z ex aV cA HB := by
  intro k as v h hk hp
  match k, hk with
  | 0, _ =>
    unfold mPrim at hp
    split at hp
    · rename_i x _
      split at hp
      · rename_i hc
        cases hp
        have hM := txm_len (l := l) (D := D) (z := z) (ex := ex) (aV := aV) (cA := cA) (HB := HB) (h := h) (i := (-10 - x).toNat) (by omega)
        have ei : -10 - (((-10 - x).toNat : Nat) : Int) = x := by omega
        rw [ei] at hM
        have e1 : [Value.ref (ex x)] = ([(1, x)] : List AV).map (xV z ex) := by rw [List.map_cons, xV_ref, xR_ex (by omega)]; rfl
        rw [e1] at hM
        exact hM
      · cases hp
    all_goals first | (exfalso; omega) | cases hp
  | 1, _ =>
    unfold mPrim at hp
    split at hp
    · exfalso; omega
    · rename_i x j _
      split at hp
      · rename_i hc
        cases hp
        have hM := txm_at (l := l) (D := D) (z := z) (ex := ex) (aV := aV) (cA := cA) (HB := HB) (h := h) (i := (-10 - x).toNat) (j := j) (by omega) hc.2.2.1 hc.2.2.2
        have ei : -10 - (((-10 - x).toNat : Nat) : Int) = x := by omega
        rw [ei] at hM
        have e1 : [Value.ref (ex x), .int (Int32.ofInt j)] = ([(1, x), (0, j)] : List AV).map (xV z ex) := by rw [List.map_cons, xV_ref, xR_ex (by omega)]; rfl
        rw [e1] at hM
        exact hM
      · cases hp
    all_goals first | (exfalso; omega) | cases hp
end XSTR
