/-! THE LAW'S ENTRY -/
def R_law : String := "LaidQuarrelLaw"
def lw_P (b : Addr) (xs : List Int32) (args : Array Value) (s : State) : Prop := args = #[.ref b] ∧ s.IntsAt b xs ∧ xs.length ≤ 2048 ∧ (Jvm.Cond.and given_1 narrow_1).before args s = true
def lw_Q (_ : Array Value) (s : State) (o : Outcome) (t : State) : Prop := o = .returned (some (.int 1)) ∧ Framed s o t [] 600000 7302250
def lw_Z (below : List Frame) (a : Array Value) (s : State) : State → Prop := fun t => ∃ o, t.status = .running ∧ Ended t below o ∧ lw_Q a s o t
/-- the law's own end, with 1 on the stack, nothing written that was there before, its room as the claim has it -/
theorem lw_ret {p : Program} {l : Launch} {e : Env} {s : State} {m : MethodId} {below : List Frame} {meth : Method} {c : Code} {b : Nat} (hx : p.tables.exec = Jvm.exec) (hb : c.code = code) (hr : meth.sig.returnType = ret) (hlocks : meth.locks = false) {pc : Nat} {H : Heap} {ls : Array Slot} (hdg : decode code pc = .ok (.ireturn, 1)) : W p l e room_1 s m #[Value.ref b] below meth c H [] 600000 7302250 (lw_Z below #[Value.ref b] s) (F0 m pc ls [.int 1]) := by
  intro T hT X
  obtain ⟨fs, hret, hrun, hended, hW, hframe⟩ := X.leave (v := some (.int 1)) (hlocks := hlocks) (fun h => by rw [hr] at h; cases h)
  have hmeth' : T.vm.method? m = some meth := X.method'
  refine ⟨T.setFrames fs, ?_, .returned (some (.int 1)), hrun, hended, rfl, ⟨_, rfl⟩, hW, hframe⟩
  jvm_step X.here [X.here.top, hx, hb, hdg, hmeth', hr, ret, narrow_b1]
  (try refine ⟨rfl, ?_⟩); (try refine ⟨rfl, ?_⟩)
  first | (intro acts; rw [hret _ acts rfl rfl rfl]) | rw [hret _ _ rfl rfl rfl]
  exact Steps.refl _
/-- what holds at the law's entry: the machine, the code, the tables' words (any of lw_tbl by 'hts w (by decide +kernel)'), the script of L ints xs at the cell b, what the Statement gives of the start (any of its parts by flat_of_before) -/
def lw_At (p : Program) (s : State) (m : MethodId) (meth : Method) (c : Code) (b L : Nat) (xs : Nat → Int32) : Prop :=
  p.tables.exec = Jvm.exec ∧ c.code = code ∧ meth.sig.returnType = ret ∧ c.maxLocals = 4 ∧ s.vm.findClass R_law = some m.cls ∧ (∀ w ∈ lw_tbl, w.before #[Value.ref b] s = true) ∧ va_X b L xs s s.heap ∧ b < s.heap.size ∧ meth.locks = false ∧ (Jvm.Cond.and given_1 narrow_1).before #[Value.ref b] s = true
section XLAW
variable {p : Program} {e : Env} {s : State} {m : MethodId} {below : List Frame} {meth : Method} {c : Code} {b L : Nat} {xs : Nat → Int32}
theorem lNest (C0 : lw_At p s m meth c b L xs) : ∀ q ∈ xNest, va_Nw (.methodLinkNest q.1 q.2.1 q.2.2.1 q.2.2.2) s := by
  obtain ⟨hx, hb, hr, hml, hown, hts, hX, hbl, hlocks, hgv⟩ := C0
  exact List.forall_mem_cons.mpr ⟨va_Nw.of rfl (hts _ w_1_19), List.forall_mem_cons.mpr ⟨va_Nw.of rfl (hts _ w_1_89), List.forall_mem_cons.mpr ⟨va_Nw.of rfl (hts _ w_2_137), List.forall_mem_cons.mpr ⟨va_Nw.of rfl (hts _ w_2_149), List.forall_mem_cons.mpr ⟨va_Nw.of rfl (hts _ w_2_160), List.forall_mem_cons.mpr ⟨va_Nw.of rfl (hts _ w_2_221), fun _ h => absurd h List.not_mem_nil⟩⟩⟩⟩⟩⟩
theorem lCast (C0 : lw_At p s m meth c b L xs) : ∀ q ∈ xCast, va_Nw (.castable q.1 q.2) s := by
  obtain ⟨hx, hb, hr, hml, hown, hts, hX, hbl, hlocks, hgv⟩ := C0
  exact List.forall_mem_cons.mpr ⟨va_Nw.of rfl (hts _ w_6_32), List.forall_mem_cons.mpr ⟨va_Nw.of rfl (hts _ w_6_33), List.forall_mem_cons.mpr ⟨va_Nw.of rfl (hts _ w_6_34), List.forall_mem_cons.mpr ⟨va_Nw.of rfl (hts _ w_6_35), List.forall_mem_cons.mpr ⟨va_Nw.of rfl (hts _ w_6_36), List.forall_mem_cons.mpr ⟨va_Nw.of rfl (hts _ w_6_37), List.forall_mem_cons.mpr ⟨va_Nw.of rfl (hts _ w_6_38), List.forall_mem_cons.mpr ⟨va_Nw.of rfl (hts _ w_6_39), List.forall_mem_cons.mpr ⟨va_Nw.of rfl (hts _ w_6_40), List.forall_mem_cons.mpr ⟨va_Nw.of rfl (hts _ w_6_41), List.forall_mem_cons.mpr ⟨va_Nw.of rfl (hts _ w_6_42), List.forall_mem_cons.mpr ⟨va_Nw.of rfl (hts _ w_6_43), List.forall_mem_cons.mpr ⟨va_Nw.of rfl (hts _ w_6_44), List.forall_mem_cons.mpr ⟨va_Nw.of rfl (hts _ w_6_45), List.forall_mem_cons.mpr ⟨va_Nw.of rfl (hts _ w_6_46), List.forall_mem_cons.mpr ⟨va_Nw.of rfl (hts _ w_6_47), List.forall_mem_cons.mpr ⟨va_Nw.of rfl (hts _ w_6_48), List.forall_mem_cons.mpr ⟨va_Nw.of rfl (hts _ w_6_49), List.forall_mem_cons.mpr ⟨va_Nw.of rfl (hts _ w_6_50), fun _ h => absurd h List.not_mem_nil⟩⟩⟩⟩⟩⟩⟩⟩⟩⟩⟩⟩⟩⟩⟩⟩⟩⟩⟩
theorem lFw (C0 : lw_At p s m meth c b L xs) : ∀ q ∈ xFw, va_Fw "java/util/ArrayList" q.1 q.2 s := by
  obtain ⟨hx, hb, hr, hml, hown, hts, hX, hbl, hlocks, hgv⟩ := C0
  exact List.forall_mem_cons.mpr ⟨va_Fw.of (hts _ w_1_67) (hts _ w_1_66) (hts _ w_1_72) (hts _ w_1_70) (hts _ w_1_68), List.forall_mem_cons.mpr ⟨va_Fw.of (hts _ w_2_11) (hts _ w_2_10) (hts _ w_2_15) (hts _ w_2_13) (hts _ w_1_68), List.forall_mem_cons.mpr ⟨va_Fw.of (hts _ w_2_86) (hts _ w_2_85) (hts _ w_2_90) (hts _ w_2_88) (hts _ w_1_68), List.forall_mem_cons.mpr ⟨va_Fw.of (hts _ w_4_51) (hts _ w_4_50) (hts _ w_4_55) (hts _ w_4_53) (hts _ w_1_68), fun _ h => absurd h List.not_mem_nil⟩⟩⟩⟩
theorem lDecl (C0 : lw_At p s m meth c b L xs) : ∀ q ∈ xDecl, va_Nw (.declares q) s := by
  obtain ⟨hx, hb, hr, hml, hown, hts, hX, hbl, hlocks, hgv⟩ := C0
  exact List.forall_mem_cons.mpr ⟨va_Nw.of rfl (hts _ w_3_187), List.forall_mem_cons.mpr ⟨va_Nw.of rfl (hts _ w_3_211), List.forall_mem_cons.mpr ⟨va_Nw.of rfl (hts _ w_3_229), List.forall_mem_cons.mpr ⟨va_Nw.of rfl (hts _ w_3_232), fun _ h => absurd h List.not_mem_nil⟩⟩⟩⟩
theorem lA (s : State) : ∀ a : Nat, a < s.heap.size → ¬ xA s.heap.size a := fun a h q => Nat.not_le.mpr h q
theorem lAt (C0 : lw_At p s m meth c b L xs) {w : Cond} (h : w ∈ flatC (Jvm.Cond.and given_1 narrow_1)) : w.before #[Value.ref b] s = true := flat_of_before _ C0.2.2.2.2.2.2.2.2.2 w h
theorem lDef (C0 : lw_At p s m meth c b L xs) : ∃ t : Nat, t < s.heap.size ∧ va_Z "java/util/ArrayList" "DEFAULTCAPACITY_EMPTY_ELEMENTDATA" "[Ljava/lang/Object;" (.ref t) (xA s.heap.size) s s.heap ∧ va_T (.object "java/lang/Object") t 0 (fun _ => .null) (xA s.heap.size) s s.heap := by
  have h1 := lAt C0 (w := Cond.arrayOf (.static "java/util/ArrayList" "DEFAULTCAPACITY_EMPTY_ELEMENTDATA" "[Ljava/lang/Object;") (.object "java/lang/Object")) (by decide +kernel)
  have h2 := lAt C0 (w := Cond.eq (.length (.static "java/util/ArrayList" "DEFAULTCAPACITY_EMPTY_ELEMENTDATA" "[Ljava/lang/Object;")) (.int 0)) (by decide +kernel)
  obtain ⟨t, ht, hT⟩ := va_Tof (N := 0) (f := fun _ => .null) (by decide) h1 (va_eqt h2) (fun j hj => absurd hj (by omega)) (lA s)
  refine ⟨t, ?_, va_Zref (C0.2.2.2.2.2.1 _ w_0_99) (C0.2.2.2.2.2.1 _ w_0_7) ht (lA s), hT⟩
  obtain ⟨cell, k1, -⟩ := hT
  exact (Array.getElem?_eq_some_iff.mp k1).1
theorem lOne {n : Nat} (h : n < 2 ^ 31) : ∀ i : Nat, i < 1 → [n].getD i 0 < 2 ^ 31 := by
  intro i hi
  obtain rfl : i = 0 := by omega
  exact h
/-- one text -/
def lTxt (s : State) (b : Nat) (own : String) (idx i a v : Nat) : Prop := (Term.string own idx).eval #[Value.ref b] s none [] s = some (.ref a) ∧ va_O "java/lang/String" a (xA s.heap.size) s s.heap ∧ va_OF "java/lang/String" "coder" "B" (.int 0) a (xA s.heap.size) s s.heap ∧ va_OF "java/lang/String" "value" "[B" (.ref v) a (xA s.heap.size) s s.heap ∧ va_T .byte v (xLen.getD i 0) (fun j => .int ((xByt.getD i []).getD j 0)) (xA s.heap.size) s s.heap
theorem lT0 (C0 : lw_At p s m meth c b L xs) : ∃ a v, lTxt s b "LaidQuarrel$Cellar" 104 0 a v := by
  obtain ⟨aK, aV, hS, hE⟩ := vk_Sof (N := 1) (args := #[Value.ref b]) (s := s) (tm := fun _ => (.string "LaidQuarrel$Cellar" 104)) (len := [4]) (byt := [xByt.getD 0 []]) (A := xA s.heap.size) (lOne (by decide)) (fun _ _ => lAt C0 (by decide +kernel)) (fun _ _ => lAt C0 (by decide +kernel)) (fun _ _ => lAt C0 (by decide +kernel)) (fun i hi => by
    obtain rfl : i = 0 := by omega
    exact lAt C0 (by decide +kernel)) (fun i hi j hj => by
    obtain rfl : i = 0 := by omega
    have hj : j < 4 := hj
    match j, hj with
    | 0, _ => exact lAt C0 (by decide +kernel)
    | 1, _ => exact lAt C0 (by decide +kernel)
    | 2, _ => exact lAt C0 (by decide +kernel)
    | 3, _ => exact lAt C0 (by decide +kernel)
    | k + 4, h => exact absurd h (by omega)) (fun i j h1 h2 h3 => absurd (show i = j by omega) h3) (lA s)
  obtain ⟨k1, k2, k3, k4⟩ := hS.1 0 (by decide)
  exact ⟨aK 0, aV 0, hE 0 (by decide), k1, k2, k3, k4⟩
theorem lT1 (C0 : lw_At p s m meth c b L xs) : ∃ a v, lTxt s b "LaidQuarrel$Cellar" 118 1 a v := by
  obtain ⟨aK, aV, hS, hE⟩ := vk_Sof (N := 1) (args := #[Value.ref b]) (s := s) (tm := fun _ => (.string "LaidQuarrel$Cellar" 118)) (len := [5]) (byt := [xByt.getD 1 []]) (A := xA s.heap.size) (lOne (by decide)) (fun _ _ => lAt C0 (by decide +kernel)) (fun _ _ => lAt C0 (by decide +kernel)) (fun _ _ => lAt C0 (by decide +kernel)) (fun i hi => by
    obtain rfl : i = 0 := by omega
    exact lAt C0 (by decide +kernel)) (fun i hi j hj => by
    obtain rfl : i = 0 := by omega
    have hj : j < 5 := hj
    match j, hj with
    | 0, _ => exact lAt C0 (by decide +kernel)
    | 1, _ => exact lAt C0 (by decide +kernel)
    | 2, _ => exact lAt C0 (by decide +kernel)
    | 3, _ => exact lAt C0 (by decide +kernel)
    | 4, _ => exact lAt C0 (by decide +kernel)
    | k + 5, h => exact absurd h (by omega)) (fun i j h1 h2 h3 => absurd (show i = j by omega) h3) (lA s)
  obtain ⟨k1, k2, k3, k4⟩ := hS.1 0 (by decide)
  exact ⟨aK 0, aV 0, hE 0 (by decide), k1, k2, k3, k4⟩
theorem lT2 (C0 : lw_At p s m meth c b L xs) : ∃ a v, lTxt s b "LaidQuarrel$Cellar" 120 2 a v := by
  obtain ⟨aK, aV, hS, hE⟩ := vk_Sof (N := 1) (args := #[Value.ref b]) (s := s) (tm := fun _ => (.string "LaidQuarrel$Cellar" 120)) (len := [6]) (byt := [xByt.getD 2 []]) (A := xA s.heap.size) (lOne (by decide)) (fun _ _ => lAt C0 (by decide +kernel)) (fun _ _ => lAt C0 (by decide +kernel)) (fun _ _ => lAt C0 (by decide +kernel)) (fun i hi => by
    obtain rfl : i = 0 := by omega
    exact lAt C0 (by decide +kernel)) (fun i hi j hj => by
    obtain rfl : i = 0 := by omega
    have hj : j < 6 := hj
    match j, hj with
    | 0, _ => exact lAt C0 (by decide +kernel)
    | 1, _ => exact lAt C0 (by decide +kernel)
    | 2, _ => exact lAt C0 (by decide +kernel)
    | 3, _ => exact lAt C0 (by decide +kernel)
    | 4, _ => exact lAt C0 (by decide +kernel)
    | 5, _ => exact lAt C0 (by decide +kernel)
    | k + 6, h => exact absurd h (by omega)) (fun i j h1 h2 h3 => absurd (show i = j by omega) h3) (lA s)
  obtain ⟨k1, k2, k3, k4⟩ := hS.1 0 (by decide)
  exact ⟨aK 0, aV 0, hE 0 (by decide), k1, k2, k3, k4⟩
theorem lT3 (C0 : lw_At p s m meth c b L xs) : ∃ a v, lTxt s b "LaidQuarrel$Cellar" 122 3 a v := by
  obtain ⟨aK, aV, hS, hE⟩ := vk_Sof (N := 1) (args := #[Value.ref b]) (s := s) (tm := fun _ => (.string "LaidQuarrel$Cellar" 122)) (len := [7]) (byt := [xByt.getD 3 []]) (A := xA s.heap.size) (lOne (by decide)) (fun _ _ => lAt C0 (by decide +kernel)) (fun _ _ => lAt C0 (by decide +kernel)) (fun _ _ => lAt C0 (by decide +kernel)) (fun i hi => by
    obtain rfl : i = 0 := by omega
    exact lAt C0 (by decide +kernel)) (fun i hi j hj => by
    obtain rfl : i = 0 := by omega
    have hj : j < 7 := hj
    match j, hj with
    | 0, _ => exact lAt C0 (by decide +kernel)
    | 1, _ => exact lAt C0 (by decide +kernel)
    | 2, _ => exact lAt C0 (by decide +kernel)
    | 3, _ => exact lAt C0 (by decide +kernel)
    | 4, _ => exact lAt C0 (by decide +kernel)
    | 5, _ => exact lAt C0 (by decide +kernel)
    | 6, _ => exact lAt C0 (by decide +kernel)
    | k + 7, h => exact absurd h (by omega)) (fun i j h1 h2 h3 => absurd (show i = j by omega) h3) (lA s)
  obtain ⟨k1, k2, k3, k4⟩ := hS.1 0 (by decide)
  exact ⟨aK 0, aV 0, hE 0 (by decide), k1, k2, k3, k4⟩
theorem lT4 (C0 : lw_At p s m meth c b L xs) : ∃ a v, lTxt s b "LaidQuarrelModel" 126 4 a v := by
  obtain ⟨aK, aV, hS, hE⟩ := vk_Sof (N := 1) (args := #[Value.ref b]) (s := s) (tm := fun _ => (.string "LaidQuarrelModel" 126)) (len := [5]) (byt := [xByt.getD 4 []]) (A := xA s.heap.size) (lOne (by decide)) (fun _ _ => lAt C0 (by decide +kernel)) (fun _ _ => lAt C0 (by decide +kernel)) (fun _ _ => lAt C0 (by decide +kernel)) (fun i hi => by
    obtain rfl : i = 0 := by omega
    exact lAt C0 (by decide +kernel)) (fun i hi j hj => by
    obtain rfl : i = 0 := by omega
    have hj : j < 5 := hj
    match j, hj with
    | 0, _ => exact lAt C0 (by decide +kernel)
    | 1, _ => exact lAt C0 (by decide +kernel)
    | 2, _ => exact lAt C0 (by decide +kernel)
    | 3, _ => exact lAt C0 (by decide +kernel)
    | 4, _ => exact lAt C0 (by decide +kernel)
    | k + 5, h => exact absurd h (by omega)) (fun i j h1 h2 h3 => absurd (show i = j by omega) h3) (lA s)
  obtain ⟨k1, k2, k3, k4⟩ := hS.1 0 (by decide)
  exact ⟨aK 0, aV 0, hE 0 (by decide), k1, k2, k3, k4⟩
theorem lT5 (C0 : lw_At p s m meth c b L xs) : ∃ a v, lTxt s b "LaidQuarrelModel" 131 5 a v := by
  obtain ⟨aK, aV, hS, hE⟩ := vk_Sof (N := 1) (args := #[Value.ref b]) (s := s) (tm := fun _ => (.string "LaidQuarrelModel" 131)) (len := [6]) (byt := [xByt.getD 5 []]) (A := xA s.heap.size) (lOne (by decide)) (fun _ _ => lAt C0 (by decide +kernel)) (fun _ _ => lAt C0 (by decide +kernel)) (fun _ _ => lAt C0 (by decide +kernel)) (fun i hi => by
    obtain rfl : i = 0 := by omega
    exact lAt C0 (by decide +kernel)) (fun i hi j hj => by
    obtain rfl : i = 0 := by omega
    have hj : j < 6 := hj
    match j, hj with
    | 0, _ => exact lAt C0 (by decide +kernel)
    | 1, _ => exact lAt C0 (by decide +kernel)
    | 2, _ => exact lAt C0 (by decide +kernel)
    | 3, _ => exact lAt C0 (by decide +kernel)
    | 4, _ => exact lAt C0 (by decide +kernel)
    | 5, _ => exact lAt C0 (by decide +kernel)
    | k + 6, h => exact absurd h (by omega)) (fun i j h1 h2 h3 => absurd (show i = j by omega) h3) (lA s)
  obtain ⟨k1, k2, k3, k4⟩ := hS.1 0 (by decide)
  exact ⟨aK 0, aV 0, hE 0 (by decide), k1, k2, k3, k4⟩
theorem lT6 (C0 : lw_At p s m meth c b L xs) : ∃ a v, lTxt s b "LaidQuarrelModel" 118 6 a v := by
  obtain ⟨aK, aV, hS, hE⟩ := vk_Sof (N := 1) (args := #[Value.ref b]) (s := s) (tm := fun _ => (.string "LaidQuarrelModel" 118)) (len := [6]) (byt := [xByt.getD 6 []]) (A := xA s.heap.size) (lOne (by decide)) (fun _ _ => lAt C0 (by decide +kernel)) (fun _ _ => lAt C0 (by decide +kernel)) (fun _ _ => lAt C0 (by decide +kernel)) (fun i hi => by
    obtain rfl : i = 0 := by omega
    exact lAt C0 (by decide +kernel)) (fun i hi j hj => by
    obtain rfl : i = 0 := by omega
    have hj : j < 6 := hj
    match j, hj with
    | 0, _ => exact lAt C0 (by decide +kernel)
    | 1, _ => exact lAt C0 (by decide +kernel)
    | 2, _ => exact lAt C0 (by decide +kernel)
    | 3, _ => exact lAt C0 (by decide +kernel)
    | 4, _ => exact lAt C0 (by decide +kernel)
    | 5, _ => exact lAt C0 (by decide +kernel)
    | k + 6, h => exact absurd h (by omega)) (fun i j h1 h2 h3 => absurd (show i = j by omega) h3) (lA s)
  obtain ⟨k1, k2, k3, k4⟩ := hS.1 0 (by decide)
  exact ⟨aK 0, aV 0, hE 0 (by decide), k1, k2, k3, k4⟩
theorem lT7 (C0 : lw_At p s m meth c b L xs) : ∃ a v, lTxt s b "LaidQuarrelModel" 100 7 a v := by
  obtain ⟨aK, aV, hS, hE⟩ := vk_Sof (N := 1) (args := #[Value.ref b]) (s := s) (tm := fun _ => (.string "LaidQuarrelModel" 100)) (len := [6]) (byt := [xByt.getD 7 []]) (A := xA s.heap.size) (lOne (by decide)) (fun _ _ => lAt C0 (by decide +kernel)) (fun _ _ => lAt C0 (by decide +kernel)) (fun _ _ => lAt C0 (by decide +kernel)) (fun i hi => by
    obtain rfl : i = 0 := by omega
    exact lAt C0 (by decide +kernel)) (fun i hi j hj => by
    obtain rfl : i = 0 := by omega
    have hj : j < 6 := hj
    match j, hj with
    | 0, _ => exact lAt C0 (by decide +kernel)
    | 1, _ => exact lAt C0 (by decide +kernel)
    | 2, _ => exact lAt C0 (by decide +kernel)
    | 3, _ => exact lAt C0 (by decide +kernel)
    | 4, _ => exact lAt C0 (by decide +kernel)
    | 5, _ => exact lAt C0 (by decide +kernel)
    | k + 6, h => exact absurd h (by omega)) (fun i j h1 h2 h3 => absurd (show i = j by omega) h3) (lA s)
  obtain ⟨k1, k2, k3, k4⟩ := hS.1 0 (by decide)
  exact ⟨aK 0, aV 0, hE 0 (by decide), k1, k2, k3, k4⟩
theorem lT8 (C0 : lw_At p s m meth c b L xs) : ∃ a v, lTxt s b "LaidQuarrelModel" 106 8 a v := by
  obtain ⟨aK, aV, hS, hE⟩ := vk_Sof (N := 1) (args := #[Value.ref b]) (s := s) (tm := fun _ => (.string "LaidQuarrelModel" 106)) (len := [3]) (byt := [xByt.getD 8 []]) (A := xA s.heap.size) (lOne (by decide)) (fun _ _ => lAt C0 (by decide +kernel)) (fun _ _ => lAt C0 (by decide +kernel)) (fun _ _ => lAt C0 (by decide +kernel)) (fun i hi => by
    obtain rfl : i = 0 := by omega
    exact lAt C0 (by decide +kernel)) (fun i hi j hj => by
    obtain rfl : i = 0 := by omega
    have hj : j < 3 := hj
    match j, hj with
    | 0, _ => exact lAt C0 (by decide +kernel)
    | 1, _ => exact lAt C0 (by decide +kernel)
    | 2, _ => exact lAt C0 (by decide +kernel)
    | k + 3, h => exact absurd h (by omega)) (fun i j h1 h2 h3 => absurd (show i = j by omega) h3) (lA s)
  obtain ⟨k1, k2, k3, k4⟩ := hS.1 0 (by decide)
  exact ⟨aK 0, aV 0, hE 0 (by decide), k1, k2, k3, k4⟩
theorem lT9 (C0 : lw_At p s m meth c b L xs) : ∃ a v, lTxt s b "LaidQuarrelModel" 124 9 a v := by
  obtain ⟨aK, aV, hS, hE⟩ := vk_Sof (N := 1) (args := #[Value.ref b]) (s := s) (tm := fun _ => (.string "LaidQuarrelModel" 124)) (len := [7]) (byt := [xByt.getD 9 []]) (A := xA s.heap.size) (lOne (by decide)) (fun _ _ => lAt C0 (by decide +kernel)) (fun _ _ => lAt C0 (by decide +kernel)) (fun _ _ => lAt C0 (by decide +kernel)) (fun i hi => by
    obtain rfl : i = 0 := by omega
    exact lAt C0 (by decide +kernel)) (fun i hi j hj => by
    obtain rfl : i = 0 := by omega
    have hj : j < 7 := hj
    match j, hj with
    | 0, _ => exact lAt C0 (by decide +kernel)
    | 1, _ => exact lAt C0 (by decide +kernel)
    | 2, _ => exact lAt C0 (by decide +kernel)
    | 3, _ => exact lAt C0 (by decide +kernel)
    | 4, _ => exact lAt C0 (by decide +kernel)
    | 5, _ => exact lAt C0 (by decide +kernel)
    | 6, _ => exact lAt C0 (by decide +kernel)
    | k + 7, h => exact absurd h (by omega)) (fun i j h1 h2 h3 => absurd (show i = j by omega) h3) (lA s)
  obtain ⟨k1, k2, k3, k4⟩ := hS.1 0 (by decide)
  exact ⟨aK 0, aV 0, hE 0 (by decide), k1, k2, k3, k4⟩
/-- the outer addresses -/
def lEx (b t : Nat) (as : List Nat) (x : Int) : Nat := if x = -5 then b else if x = -2 then t else as.getD (-10 - x).toNat 0
theorem lEnv (C0 : lw_At p s m meth c b L xs) : ∃ (ex : Int → Nat) (aV : Nat → Nat), xN s.heap.size ex aV s ∧ ex (-5) = b ∧ ex (-2) < s.heap.size := by
  obtain ⟨t, t1, t2, t3⟩ := lDef C0
  obtain ⟨a0, v0, s0⟩ := lT0 C0
  obtain ⟨a1, v1, s1⟩ := lT1 C0
  obtain ⟨a2, v2, s2⟩ := lT2 C0
  obtain ⟨a3, v3, s3⟩ := lT3 C0
  obtain ⟨a4, v4, s4⟩ := lT4 C0
  obtain ⟨a5, v5, s5⟩ := lT5 C0
  obtain ⟨a6, v6, s6⟩ := lT6 C0
  obtain ⟨a7, v7, s7⟩ := lT7 C0
  obtain ⟨a8, v8, s8⟩ := lT8 C0
  obtain ⟨a9, v9, s9⟩ := lT9 C0
  refine ⟨lEx b t [a0, a1, a2, a3, a4, a5, a6, a7, a8, a9], fun k => [v0, v1, v2, v3, v4, v5, v6, v7, v8, v9].getD k 0, ⟨lNest C0, lCast C0, lFw C0, lDecl C0, va_AO.of (C0.2.2.2.2.2.1 _ w_2_61), t2, t3, ?_, ?_, ?_, ?_⟩, rfl, t1⟩
  · exact List.forall_mem_cons.mpr ⟨vk_R.of (C0.2.2.2.2.2.1 _ w_0_202) s0.1, List.forall_mem_cons.mpr ⟨vk_R.of (C0.2.2.2.2.2.1 _ w_1_25) s1.1, List.forall_mem_cons.mpr ⟨vk_R.of (C0.2.2.2.2.2.1 _ w_1_26) s2.1, List.forall_mem_cons.mpr ⟨vk_R.of (C0.2.2.2.2.2.1 _ w_1_27) s3.1, List.forall_mem_cons.mpr ⟨vk_R.of (C0.2.2.2.2.2.1 _ w_4_175) s4.1, List.forall_mem_cons.mpr ⟨vk_R.of (C0.2.2.2.2.2.1 _ w_4_194) s5.1, List.forall_mem_cons.mpr ⟨vk_R.of (C0.2.2.2.2.2.1 _ w_4_199) s6.1, List.forall_mem_cons.mpr ⟨vk_R.of (C0.2.2.2.2.2.1 _ w_4_220) s7.1, List.forall_mem_cons.mpr ⟨vk_R.of (C0.2.2.2.2.2.1 _ w_4_225) s8.1, List.forall_mem_cons.mpr ⟨vk_R.of (C0.2.2.2.2.2.1 _ w_4_226) s9.1, fun _ h => absurd h List.not_mem_nil⟩⟩⟩⟩⟩⟩⟩⟩⟩⟩
  · intro i hi
    match i, hi with
    | 0, _ => exact s0.2
    | 1, _ => exact s1.2
    | 2, _ => exact s2.2
    | 3, _ => exact s3.2
    | 4, _ => exact s4.2
    | 5, _ => exact s5.2
    | 6, _ => exact s6.2
    | 7, _ => exact s7.2
    | 8, _ => exact s8.2
    | 9, _ => exact s9.2
    | k + 10, h => exact absurd h (by omega)
  · exact va_Zof (C0.2.2.2.2.2.1 _ w_0_216) (C0.2.2.2.2.2.1 _ w_0_9) (va_eqi (lAt C0 (by decide +kernel))) (lA s)
  · exact va_Zqof (C0.2.2.2.2.2.1 _ w_0_232) (C0.2.2.2.2.2.1 _ w_0_11) (lAt C0 (by decide +kernel)) (lA s)
theorem lIns_0 : Cond.instantiable RJx4a65c 3 ∈ lw_tbl := w_0_87
theorem lIns_1 : Cond.instantiable RX0 6 ∈ lw_tbl := w_1_239
theorem lIns_2 : Cond.instantiable RX1 5 ∈ lw_tbl := w_0_63
theorem lIns_3 : Cond.instantiable RX2 6 ∈ lw_tbl := w_1_187
theorem lIns_4 : Cond.instantiable RX3 6 ∈ lw_tbl := w_1_200
theorem lIns_5 : Cond.instantiable RX4 6 ∈ lw_tbl := w_1_79
theorem lIns_6 : Cond.instantiable RX5 6 ∈ lw_tbl := w_1_88
theorem lIns_7 : Cond.instantiable RX6 6 ∈ lw_tbl := w_1_213
theorem lIns_8 : Cond.instantiable RX7 5 ∈ lw_tbl := w_0_35
theorem lIns_9 : Cond.instantiable RX8 6 ∈ lw_tbl := w_1_174
theorem lIns_10 : Cond.instantiable RX9 6 ∈ lw_tbl := w_1_226
theorem lIns_11 : Cond.instantiable RX10 17 ∈ lw_tbl := w_0_27
theorem lIns_12 : Cond.instantiable RX11 24 ∈ lw_tbl := w_4_78
theorem lIns (ci : Nat) (q : vw_C) (h : vwCl[ci]? = some q) : Cond.instantiable q.1 q.2.2 ∈ lw_tbl := by
  match ci, h with
  | 0, h => cases h; exact lIns_0
  | 1, h => cases h; exact lIns_1
  | 2, h => cases h; exact lIns_2
  | 3, h => cases h; exact lIns_3
  | 4, h => cases h; exact lIns_4
  | 5, h => cases h; exact lIns_5
  | 6, h => cases h; exact lIns_6
  | 7, h => cases h; exact lIns_7
  | 8, h => cases h; exact lIns_8
  | 9, h => cases h; exact lIns_9
  | 10, h => cases h; exact lIns_10
  | 11, h => cases h; exact lIns_11
  | 12, h => cases h; exact lIns_12
  | k + 13, h => simp [vwCl] at h
theorem lOver (C0 : lw_At p s m meth c b L xs) : ∃ (cA : ClassId) (kA : Class) (comp : ClassId), s.vm.findClass ("[" ++ (FieldType.object "java/lang/Object").toString) = some cA ∧ s.vm.classes[cA]? = some kA ∧ kA.kind = .array comp (.object "java/lang/Object") ∧ s.vm.findClass "java/lang/Object" = some comp := by
  have h := Cond.arrayOver_spec (C0.2.2.2.2.2.1 _ w_2_61)
  obtain ⟨comp, c, k, f1, f2, f3, f4, f5⟩ := h
  exact ⟨c, k, comp, f5, f3, f4, f1⟩
theorem lCls (C0 : lw_At p s m meth c b L xs) : ∃ (dC : Nat → ClassId) (dI : Nat → Nat → Nat), ∀ (k : Nat) (q : vw_C), vwCl[k]? = some q → u_Kn s q.1 q.2.1 q.2.2 (dC k) (dI k) := by
  have h : ∀ k : Nat, ∃ w : ClassId × (Nat → Nat), ∀ q : vw_C, vwCl[k]? = some q → u_Kn s q.1 q.2.1 q.2.2 w.1 w.2 := by
    intro k
    by_cases hk : k < 13
    · obtain ⟨C, T, N, ty, e1, e2, e3, -⟩ := xCls k hk
      obtain ⟨cC, iS, hKn⟩ := u_known (n := N) (ws := lw_tbl) C0.2.2.2.2.2.1 (fun w hw => BW_in (e3 w hw)) (C0.2.2.2.2.2.1 _ (lIns k _ e1))
      refine ⟨(cC, iS), fun q hq => ?_⟩
      cases e1.symm.trans hq
      exact hKn
    · refine ⟨(0, fun _ => 0), fun q hq => ?_⟩
      have := (List.getElem?_eq_some_iff.mp hq).1
      exact absurd this hk
  exact ⟨fun k => (Classical.choose (h k)).1, fun k => (Classical.choose (h k)).2, fun k q hq => Classical.choose_spec (h k) q hq⟩
theorem lArr (C0 : lw_At p s m meth c b L xs) : ∃ cA : Nat → ClassId, ∀ (k : Nat) (q : ClassId × FieldType), (xTy cA)[k]? = some q → ArrOfT s q.1 q.2 ∧ va_RA s q.1 q.2 := by
  obtain ⟨c0, k0, j0, a1, a2, a3⟩ := Cond.arrayClass_spec (C0.2.2.2.2.2.1 _ w_0_61)
  obtain ⟨c1, k1, j1, b1, b2, b3⟩ := Cond.arrayClass_spec (C0.2.2.2.2.2.1 _ w_4_155)
  obtain ⟨c2, k2, j2, d1, d2, d3, d4⟩ := lOver C0
  refine ⟨fun k => if k = 0 then c0 else if k = 1 then c1 else c2, fun k q hq => ?_⟩
  match k, hq with
  | 0, hq => cases hq; exact ⟨fun n z => ⟨fun k h => (by cases h), k0, a2, j0, a3⟩, a1⟩
  | 1, hq => cases hq; exact ⟨fun n z => ⟨fun k h => (by cases h), k1, b2, j1, b3⟩, b1⟩
  | 2, hq => cases hq; exact ⟨fun n z => ⟨fun k h => (by cases h), k2, d2, j2, d3⟩, k2, j2, d2, d3, d4, d1⟩
  | k + 3, hq => simp at hq
/-- the empty heap of the small machine -/
def h0 : Hp := (0, 0, fun _ => 99, fun _ => 0, fun _ _ => 0)
theorem lWalk (l : Launch) (C0 : lw_At p s m meth c b L xs) {f : Nat} {hE : Hp} (hrun : mRun mt vt txt f 200 (some (L, fun j => (xs j).toInt)) t_L_law 3 0 (mEnt 4 [(1, -5)]) [] h0 = some (some (0, 1), hE)) (hn : mN hE ≤ 600000) (hs : mS hE ≤ 7302250) :
    W p l e room_1 s m #[Value.ref b] below meth c s.heap [] 0 0 (lw_Z below #[Value.ref b] s) (entryFrame m ([Value.ref b] : List Value).toArray 4) := by
  obtain ⟨ex, aV, hN, he5, he2⟩ := lEnv C0
  obtain ⟨dC, dI, hKc⟩ := lCls C0
  obtain ⟨cA, hKa⟩ := lArr C0
  obtain ⟨hx, hb, hr, hml, hown, hts, hX, hbl, hlocks, hgv⟩ := id C0
  have C : xCtx p m c s #[Value.ref b] meth code 4 19 false (dC, dI) s.heap.size ex aV cA (some (L, fun j => (xs j).toInt)) :=
    ⟨⟨hx, hb, hml, hown, fun w hw => hts w (BW_in hw)⟩, (fun h => absurd h (by decide)), ⟨hKc, hKa⟩, hN, Nat.le_refl _, ⟨by
      rw [he5]
      have e1 : (fun j => Int32.ofInt ((xs j).toInt)) = xs := by funext j; exact Int32.ofInt_toInt _
      show va_X b L (fun j => Int32.ofInt ((xs j).toInt)) s s.heap
      rw [e1]
      exact hX, by rw [he5]; exact hbl, by rw [he5]; omega⟩, he2⟩
  rw [lg_entry_eq]
  have hA := xEnt (z := s.heap.size) (ex := ex) (as := [(1, -5)]) (n := 4) (by decide)
  have ev : ([(1, -5)] : List AV).map (xV s.heap.size ex) = [Value.ref b] := by
    rw [List.map_cons, xV_ref, xR_ex (by decide), he5]
    rfl
  rw [ev] at hA
  have hS := xSound (l := l) (D := (dC, dI)) (z := s.heap.size) (ex := ex) (aV := aV) (cA := cA) (HB := s.heap) he2 xPr f
  refine hS _ _ _ _ _ _ _ _ _ _ hrun C (ini := false) (rt := some .boolean) (R := room_1) (xChk_all 233) (Nat.le_of_ble_eq_true rfl) (Nat.le_of_ble_eq_true rfl) hA ⟨fun a ha => absurd ha (Nat.not_lt_zero a), rfl, fun q _ => rfl⟩ va_S.rf (by rw [Nat.zero_add]; exact Nat.le_trans (Nat.sub_le _ _) hn) (by rw [Nat.zero_add]; exact Nat.le_trans (Nat.sub_le _ _) hs) ?_
  intro i pc ls H' locs' hdec hrt hP' hS'
  rw [Nat.zero_add, Nat.zero_add]
  refine va_forget (fun q hq => hS'.2.2 q hq) (W.widen (k := 600000) (n := 7302250) (Nat.le_trans (Nat.sub_le _ _) hn) (Nat.le_trans (Nat.sub_le _ _) hs) ?_)
  rcases hrt with ⟨rfl, -⟩ | ⟨rfl, ⟨x, hx2⟩, -⟩ | ⟨rfl, ⟨x, hx2⟩, -⟩ | ⟨rfl, hx2, -⟩
  · exact lw_ret hx hb hr hlocks hdec
  · cases hx2
  · cases hx2
  · cases hx2
end XLAW
