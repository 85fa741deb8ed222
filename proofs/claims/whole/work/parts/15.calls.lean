/-! CALLS, by kind -/
def xRun (len : Nat) (p : Program) (l : Launch) (e : Env) (R : Room) (s : State) (m : MethodId) (args : Array Value) (below : List Frame) (meth : Method) (c : Code) (H : Heap) (locs : List Loc) (cells slots mc ms : Nat) (g : JFrame) (rest : List Value) (Qa : State → Outcome → State → Prop) (free : Addr → Prop) : Prop :=
  ∀ T : State, T.heap = H → Stand p l e R s m args below meth c T locs cells slots → ∃ (v : Option Value) (st₀ t T' : State) (L : List Loc), st₀.heap = H ∧ Stand p l e R s m args below meth c T' (locs ++ L) (cells + mc) (slots + ms) ∧ (∀ q ∈ L, free q.base) ∧ T'.heap = t.heap ∧ T'.vm = t.vm ∧ Qa st₀ (.returned v) t ∧
    Goes p e below T g T' { g with pc := g.pc + len, stack := v.toList ++ rest }
def xQc (D : va_G) (z : Nat) (ex : Int → Nat) (cA : Nat → ClassId) (HB : Heap) (r : Option AV) (hE : Hp) : Array Value → State → Outcome → State → Prop := fun _ st oc t => oc = .returned (r.map (xV z ex)) ∧ xP D z ex cA HB hE t.heap ∧ va_F (xA z) st t
def xPc (D : va_G) (z : Nat) (ex : Int → Nat) (aV : Nat → Nat) (cA : Nat → ClassId) (HB : Heap) (as : List AV) (h : Hp) : Array Value → State → Prop := fun v U => v = (as.map (xV z ex)).toArray ∧ xP D z ex cA HB h U.heap ∧ va_K D vwCl (xTy cA) U ∧ xN z ex aV U
def xRm (d mc ms : Nat) : Room := { frames := d, cells := mc, slots := ms, locals := 40 * d }
def MeOk (id n : Nat) : Prop := Cond.code (xNm id) (xBc id) (mt id).2.1 (xRt id) ∈ BW ∧ Cond.initialized (xNm id).cls ∈ BW ∧ ((xNm id).cls ≠ "java/lang/invoke/MethodHandle" ∧ (xNm id).cls ≠ "java/lang/invoke/VarHandle") ∧ (parseMethodDescriptor (xNm id).desc).map (fun d => d.parameters.length) = some n ∧ plainName (xNm id).cls = true ∧ (mt id).2.1 ≤ 21 ∧ xCn (xOw id) = (xNm id).cls ∧ (xIni id = true → (xNm id).name = "<init>")
def OkS (own idx id : Nat) : Prop := ∃ n, MeOk id n ∧ (mt id).2.2.1 = n ∧ Cond.static (xNm id) ∈ BW ∧ (Cond.methodLink (xCn own) idx (xNm id) ∈ BW ∨ ∃ host, (xCn own, idx, xNm id, host) ∈ xNest)
def OkP (own idx ci id : Nat) : Prop := ∃ n, MeOk id n ∧ (mt id).2.2.1 = n + 1 ∧ Cond.instanceMethod (xNm id) ∈ BW ∧
  (((xNm id).name = "<init>" ∧ xRt id = none ∧ (Cond.methodLink (xCn own) idx (xNm id) ∈ BW ∨ ∃ host, (xCn own, idx, xNm id, host) ∈ xNest)) ∨
   ((xNm id).name ≠ "<init>" ∧ ci < 13 ∧ ∃ sup, Cond.superclass (xCn own) sup ∈ BW ∧ (sup = (xNm id).cls ∨ Cond.superclass sup (xNm id).cls ∈ BW) ∧ Cond.methodLink (xCn own) idx ⟨sup, (xNm id).name, (xNm id).desc⟩ ∈ BW ∧ Cond.sameMethod sup (xNm id).cls (xNm id).name (xNm id).desc ∈ BW))
def OkV (own idx ci id : Nat) : Prop := ∃ n x, MeOk id n ∧ (mt id).2.2.1 = n + 1 ∧ Cond.instanceMethod (xNm id) ∈ BW ∧ Cond.methodLink (xCn own) idx x ∈ BW ∧ Cond.selects (xCn ci) x (xNm id) ∈ BW ∧ ci < 13 ∧
  (x = xNm id ∨ ∃ owner b0 m0 r0, Cond.sameMethod x.cls owner x.name x.desc ∈ BW ∧ Cond.instanceMethod ⟨owner, x.name, x.desc⟩ ∈ BW ∧ Cond.code ⟨owner, x.name, x.desc⟩ b0 m0 r0 ∈ BW ∧ (owner ≠ "java/lang/invoke/MethodHandle" ∧ owner ≠ "java/lang/invoke/VarHandle") ∧ (parseMethodDescriptor x.desc).map (fun d => d.parameters.length) = some n)
def OkF (own idx ci id : Nat) : Prop := ∃ n x, MeOk id n ∧ (mt id).2.2.1 = n + 1 ∧ ci = 0 ∧ Cond.instanceMethod (xNm id) ∈ BW ∧ Cond.methodLink (xCn own) idx x ∈ BW ∧ Cond.selects "java/util/ArrayList" x (xNm id) ∈ BW ∧ (x, xNm id) ∈ xFw ∧ (parseMethodDescriptor x.desc).map (fun d => d.parameters.length) = some n
theorem xLenN {d : String} {n : Nat} (h : (parseMethodDescriptor d).map (fun d => d.parameters.length) = some n) (sig : MethodDescriptor) (hs : parseMethodDescriptor d = some sig) : n = sig.parameters.length := by
  rw [hs] at h
  exact (Option.some.inj h).symm
section XCALLS
variable {p : Program} {l : Launch} {e : Env} {R : Room} {s : State} {m : MethodId} {args : Array Value} {below : List Frame} {meth : Method} {c : Code} {H : Heap} {locs : List Loc} {cells slots : Nat} {Q : State → Prop}
variable {cc : ByteArray} {nL own : Nat} {ini : Bool} {D : va_G} {z : Nat} {ex : Int → Nat} {aV : Nat → Nat} {cA : Nat → ClassId} {sc : Option (Nat × (Nat → Int))} {HB : Heap}
variable {pc : Nat} {h : Hp} {ls : Array Slot}
theorem xUse {len mc ms : Nat} {r : Option AV} {hE : Hp} {rest st0 : List Value} {a : Array Value} (hr : xRun len p l e R s m args below meth c H locs cells slots mc ms (F0 m pc ls st0) rest (xQc D z ex cA HB r hE a) (xA z)) (hS : va_S (xA z) s.heap H locs)
    (kk : ∀ H1 locs1, xP D z ex cA HB hE H1 → va_S (xA z) s.heap H1 locs1 → W p l e R s m args below meth c H1 locs1 (cells + mc) (slots + ms) Q (F0 m (pc + len) ls ((r.map (xV z ex)).toList ++ rest))) : W p l e R s m args below meth c H locs cells slots Q (F0 m pc ls st0) := by
  intro T hT X
  obtain ⟨v, st₀, t, T', L, h0, X', hL, e1, e2, ⟨hv, hp, hz, hk⟩, st⟩ := hr T hT X
  cases hv
  subst h0
  have hS' : va_S (xA z) s.heap t.heap (locs ++ L) := ⟨Nat.le_trans hS.1 hz, fun q h1 h2 => (hk q (Nat.lt_of_lt_of_le h1 hS.1) h2).trans (hS.2.1 q h1 h2), fun q hq => (List.mem_append.mp hq).elim (hS.2.2 q) (hL q)⟩
  obtain ⟨t2, a1, b1⟩ := kk t.heap (locs ++ L) hp hS' T' e1 X'
  exact ⟨t2, st t2 a1, b1⟩
theorem xBlind {as : List AV} : FrameBlind (xPc D z ex aV cA HB as h) := by
  intro a U g mk q
  obtain ⟨q1, q2, q3, q4⟩ := q
  exact ⟨q1, q2, va_K.moved (u := U) (U := U.calling g mk a) (Vm.Alike.refl U.vm) q3, xN.warm (s := U) (U := U.calling g mk a) (State.WarmedH.refl U) (fun _ _ _ => rfl) q4⟩
theorem xPre {as : List AV} (C : xCtx p m c s args meth cc nL own ini D z ex aV cA sc) (hP : xP D z ex cA HB h H) (hS : va_S (xA z) s.heap H locs) : PreS s H (xPc D z ex aV cA HB as h) (as.map (xV z ex)) := by
  obtain ⟨-, -, hK, hN, -⟩ := C
  exact ⟨xBlind, fun U hU hW => ⟨rfl, by rw [hU]; exact hP, va_K.moved hW.alike hK, xN.warm hW (fun a h1 h2 => by rw [hU]; exact hS.2.1 a h1 h2) hN⟩⟩
theorem xGood {id n : Nat} (me : MeOk id n) : GoodIn BW (xWs id) := by
  intro w hw
  rcases List.mem_cons.mp hw with rfl | hw
  · exact ⟨me.1, BW_good me.1⟩
  · exact ⟨hw, BW_good hw⟩
theorem xCB {idx id n d mc ms : Nat} (hts : ∀ w ∈ BW, w.before args s = true) (me : MeOk id n) (hl : Cond.methodLink (xCn own) idx (xNm id) ∈ BW) (h1 : d + 1 ≤ R.frames) (h2 : 40 * (d + 1) ≤ R.locals) : CallB R s args (xCn own) idx (xNm id) (xBc id) (mt id).2.1 (xRt id) (xWs id) (xRm d mc ms) mc ms n := by
  have g := me
  obtain ⟨m1, m2, m3, m4, m5, m6, -⟩ := me
  exact ⟨rfl, rfl, h1, by show 8 + ((mt id).2.1 + 11) + 40 * d ≤ R.locals; omega, pay_in hts (xGood g), List.mem_cons_self, hts _ m1, hts _ m2, m3, xLenN m4, hts _ hl⟩
theorem xCat {st : List AV} (h : mCats st ≤ 8) {g : JFrame} (hg : g.monitorRoom = 0) : 2 * g.monitorRoom + ((st.map (xV z ex)).map fun v => v.category).sum ≤ 8 := by
  rw [hg, xV_cats]
  unfold mCats at h
  omega
theorem xRunS {idx id d mc ms : Nat} {as rest : List AV} (C : xCtx p m c s args meth cc nL own ini D z ex aV cA sc) (hdec : decode cc pc = .ok (.invokestatic idx, 3)) (ok : OkS own idx id) (hlen : as.length = (mt id).2.2.1) {Qc : Array Value → State → Outcome → State → Prop}
    (hM : Met l (xNm id) (xWs id) (xRm d mc ms) (xPc D z ex aV cA HB as h) Qc mc ms (xA z)) (hP : xP D z ex cA HB h H) (hS : va_S (xA z) s.heap H locs) (hsize : ls.size = nL) (hc : mCats rest ≤ 8) (h1 : d + 1 ≤ R.frames) (h2 : 40 * (d + 1) ≤ R.locals) (hr1 : cells + mc ≤ R.cells) (hr2 : slots + ms ≤ R.slots) :
    xRun 3 p l e R s m args below meth c H locs cells slots mc ms (F0 m pc ls ((as.map (xV z ex)).reverse ++ rest.map (xV z ex))) (rest.map (xV z ex)) (Qc (as.map (xV z ex)).toArray) (xA z) := by
  have C' := C
  obtain ⟨⟨hx, hb, hml, hown, hts⟩, -, hK, hN, -⟩ := C'
  obtain ⟨n, me, hn, hst, hl⟩ := ok
  have g := me
  obtain ⟨m1, m2, m3, m4, m5, m6, -⟩ := g
  have hp := xPre (as := as) C hP hS
  rcases hl with hl | ⟨host, hl⟩
  · exact va_runS ⟨hx, hb, hml, hown, hts⟩ hM ⟨xCB hts me hl h1 h2, hts _ hst⟩ hp rfl (by rw [List.length_map, hlen, hn]) hsize rfl (xCat hc rfl) hdec ⟨hr1, hr2⟩
  · exact va_runSN ⟨hx, hb, hml, hown, hts⟩ hM ⟨⟨⟨rfl, rfl, h1, by show 8 + ((mt id).2.1 + 11) + 40 * d ≤ R.locals; omega, pay_in hts (xGood me), List.mem_cons_self⟩, hts _ m1, hts _ m2, m3, xLenN m4, va_Nw.use rfl (hN.1 _ hl)⟩, hts _ hst, trivial⟩ hp rfl (by rw [List.length_map, hlen, hn]) hsize rfl (xCat hc rfl) hdec ⟨hr1, hr2⟩
/-- super.m(..), where m may be inherited by the superclass itself -/
theorem xCallSU {T : State} (X : Stand p l e R s m args below meth c T locs cells slots) (hexec : p.tables.exec = Jvm.exec) {owN sup : String} {index : Nat} {y : MethodName} {bytes : ByteArray} {maxL : Nat} {ret : Option FieldType}
    (hown : s.vm.findClass owN = some m.cls) (hlink : (Cond.methodLink owN index ⟨sup, y.name, y.desc⟩).before args s = true) (hsame : (Cond.sameMethod sup y.cls y.name y.desc).before args s = true) (hsup : (Cond.superclass owN sup).before args s = true) (hup : sup = y.cls ∨ (Cond.superclass sup y.cls).before args s = true)
    (hinst : (Cond.instanceMethod y).before args s = true) (hcode : (Cond.code y bytes maxL ret).before args s = true) (hno : y.name ≠ "<init>")
    {Wd : Nat} {Pre : Pt → Array Value → Prop} {Post : Pt → Array Value → Option Value → Pt → Prop} (hK : Back l R p e below s args y 3 Wd Pre Post)
    {b : Addr} {cellB : Cell} {kB : Class} (hcell : T.heap[b]? = some cellB) (hobj : cellB.vm.isStatics = false) (hkB : s.vm.classes[cellB.cls]? = some kB)
    {g : JFrame} (hg : g.method = m) (hsize : g.locals.size = c.maxLocals) {argsL rest : List Value} (hlen : ∀ sig, parseMethodDescriptor y.desc = some sig → argsL.length = sig.parameters.length)
    (hstack : g.stack = argsL.reverse ++ .ref b :: rest) (hW : 2 * g.monitorRoom + (rest.map fun v => v.category).sum ≤ Wd) (hdg : decode c.code g.pc = .ok (.invokespecial index, 3))
    (hpre : ∀ vm₁, s.WarmedH vm₁ → Pre ⟨T.setVm vm₁, locs, cells, slots⟩ (Value.ref b :: argsL).toArray) :
    ∃ (v : Option Value) (vm₁ : Vm) (B : Pt), s.WarmedH vm₁ ∧ Stand p l e R s m args below meth c B.U B.locs B.cells B.slots ∧ Post ⟨T.setVm vm₁, locs, cells, slots⟩ (Value.ref b :: argsL).toArray v B ∧
      ∀ target, Steps p.tables e below (B.U.setTop { g with pc := g.pc + 3, stack := v.toList ++ rest }) target → Steps p.tables e below (T.setTop g) target := by
  obtain ⟨mk, methM, hnamed, hmethM, hstM, habM⟩ := Cond.instanceMethod_spec hinst
  obtain ⟨methM', cM, hmethM', -, -, -, -, -, -, hsigM⟩ := Cond.code_spec hnamed hcode
  cases hmethM.symm.trans hmethM'
  obtain ⟨ps, dk, kp, hps, hdk, hkp, hsuper, -, -, hnid⟩ := Cond.superclass_spec hown hsup
  have hn : s.methodNamed? ⟨y.cls, y.name, y.desc⟩ = some mk := hnamed
  have hcm := findClass_of_methodNamed hnamed
  have hsub : s.vm.isSubclass ps mk.cls = true := by
    rcases hup with rfl | hup
    · have hpm : ps = mk.cls := Option.some.inj (hps.symm.trans hcm)
      rw [hpm]; simp [Vm.isSubclass, Vm.isSubclassAux]
    · obtain ⟨pu, ku, kpu, hpu, hku, -, hsu, -⟩ := Cond.superclass_spec hps hup
      have hpm : pu = mk.cls := Option.some.inj (hpu.symm.trans hcm)
      subst hpm
      have hsz : 0 < s.vm.classes.size := Nat.lt_of_le_of_lt (Nat.zero_le _) (Array.getElem?_eq_some_iff.mp hku).1
      obtain ⟨k, hk⟩ : ∃ k, s.vm.classes.size = k + 1 := ⟨s.vm.classes.size - 1, by omega⟩
      simp [Vm.isSubclass, Vm.isSubclassAux, hk, hku, hsu]
  obtain ⟨vm₁, X₁, hstep₁⟩ := X.invokespecialUp hexec (x := ⟨sup, y.name, y.desc⟩) hown hlink hsame hn hmethM hstM habM hno hdk hnid hps hsuper hsub (a := b) (cell := cellB) hcell
    (fun z h => by rw [h] at hobj; cases hobj) hkB (g := g) hg (argsL := argsL) (rest := rest) (hlen _ hsigM) hstack hdg
  obtain ⟨v, B, X', hpost, hsteps⟩ := hK m meth c ⟨T.setVm vm₁, locs, cells, slots⟩ { g with stack := rest } (.invokespecial index) mk (Value.ref b :: argsL).toArray X₁ hg hsize hdg hW (X₁.named hnamed) (hpre vm₁ X₁.warmed)
  exact ⟨v, vm₁, B, X₁.warmed, X', hpost, fun target h => hstep₁ _ (by rw [doInvoke_state]; exact hsteps.trans h)⟩
theorem xName {ci : Nat} (h : ci < 13) : ∃ T N, vwCl[ci]? = some (xCn ci, T, N) := by
  match ci, h with
  | 0, _ => exact ⟨_, _, rfl⟩
  | 1, _ => exact ⟨_, _, rfl⟩
  | 2, _ => exact ⟨_, _, rfl⟩
  | 3, _ => exact ⟨_, _, rfl⟩
  | 4, _ => exact ⟨_, _, rfl⟩
  | 5, _ => exact ⟨_, _, rfl⟩
  | 6, _ => exact ⟨_, _, rfl⟩
  | 7, _ => exact ⟨_, _, rfl⟩
  | 8, _ => exact ⟨_, _, rfl⟩
  | 9, _ => exact ⟨_, _, rfl⟩
  | 10, _ => exact ⟨_, _, rfl⟩
  | 11, _ => exact ⟨_, _, rfl⟩
  | 12, _ => exact ⟨_, _, rfl⟩
  | k + 13, h => exact absurd h (by omega)
theorem xRecv {q ci : Nat} (C : xCtx p m c s args meth cc nL own ini D z ex aV cA sc) (hP : xP D z ex cA HB h H) (hq : q < mN h) (hci : mK h q = ci) (h13 : ci < 13) : ClassAt s (xCn ci) (D.1 ci) ∧ ∃ cell : Cell, H[z + q]? = some cell ∧ cell.vm.isStatics = false ∧ s.vm.findClass (xCn ci) = some cell.cls := by
  obtain ⟨-, -, hK, -⟩ := C
  obtain ⟨T, N, e1⟩ := xName h13
  have hat := hP.1 q hq
  subst hci
  rw [xC_obj h13] at hat
  exact ⟨(hK.1 _ _ e1).2, va_recv (q0 := 0) hK (va_P1 hat) e1 rfl⟩
theorem xRunP {idx id ci q d mc ms : Nat} {as rest : List AV} (C : xCtx p m c s args meth cc nL own ini D z ex aV cA sc) (hdec : decode cc pc = .ok (.invokespecial idx, 3)) (ok : OkP own idx ci id) (hlen : as.length + 1 = (mt id).2.2.1) {Qc : Array Value → State → Outcome → State → Prop} {v0 : AV} (hv0 : xV z ex v0 = .ref (z + q)) (hq : q < mN h) (hci : mK h q = ci)
    (hM : Met l (xNm id) (xWs id) (xRm d mc ms) (xPc D z ex aV cA HB (v0 :: as) h) Qc mc ms (xA z)) (hP : xP D z ex cA HB h H) (hS : va_S (xA z) s.heap H locs) (hsize : ls.size = nL) (hc : mCats rest ≤ 8) (h1 : d + 1 ≤ R.frames) (h2 : 40 * (d + 1) ≤ R.locals) (hr1 : cells + mc ≤ R.cells) (hr2 : slots + ms ≤ R.slots) :
    xRun 3 p l e R s m args below meth c H locs cells slots mc ms (F0 m pc ls ((as.map (xV z ex)).reverse ++ .ref (z + q) :: rest.map (xV z ex))) (rest.map (xV z ex)) (Qc (Value.ref (z + q) :: as.map (xV z ex)).toArray) (xA z) := by
  have C' := C
  obtain ⟨⟨hx, hb, hml, hown, hts⟩, -, hK, hN, -⟩ := C'
  obtain ⟨n, me, hn, hinst, hl⟩ := ok
  have g := me
  obtain ⟨m1, m2, m3, m4, m5, m6, -⟩ := g
  have hp := xPre (as := v0 :: as) C hP hS
  rw [List.map_cons, hv0] at hp
  have hlen' : (as.map (xV z ex)).length = n := by rw [List.length_map]; omega
  rcases hl with ⟨hi, hrt, hl⟩ | ⟨hi, h13, sup, s1, s2, s3, s4⟩
  · rcases hl with hl | ⟨host, hl⟩
    · have hcb := xCB (R := R) (s := s) (args := args) (own := own) (mc := mc) (ms := ms) hts me hl h1 h2
      rw [hrt] at hcb
      exact va_runI ⟨hx, hb, hml, hown, hts⟩ hM ⟨hcb, hi, hts _ hinst⟩ hp rfl hlen' hsize rfl (xCat hc rfl) hdec ⟨hr1, hr2⟩
    · have hcb : va_CN R s args (xCn own) idx (xNm id) host (xBc id) (mt id).2.1 (xRt id) (xWs id) (xRm d mc ms) mc ms n := ⟨⟨rfl, rfl, h1, by show 8 + ((mt id).2.1 + 11) + 40 * d ≤ R.locals; omega, pay_in hts (xGood me), List.mem_cons_self⟩, hts _ m1, hts _ m2, m3, xLenN m4, va_Nw.use rfl (hN.1 _ hl)⟩
      rw [hrt] at hcb
      exact va_runIN ⟨hx, hb, hml, hown, hts⟩ hM ⟨hcb, hi, hts _ hinst⟩ hp rfl hlen' hsize rfl (xCat hc rfl) hdec ⟨hr1, hr2⟩
  · obtain ⟨hat, cellB, hcB, hoB, hclB⟩ := xRecv C hP hq hci h13
    have hKb : Back l R p e below s args (xNm id) 3 8 (PreOf R mc ms (xPc D z ex aV cA HB (v0 :: as) h)) (PostOf Qc mc ms (xA z)) := back_of (bytes := xBc id) (maxL := (mt id).2.1) (ret := xRt id) hM xBlind rfl rfl h1 (by show 8 + ((mt id).2.1 + 11) + 40 * d ≤ R.locals; omega) (pay_in hts (xGood me)) List.mem_cons_self (fun a' U hW => word_at hW (Or.inl (by first | rfl | simp [Cond.onTables, Cond.keeps, Cond.steady])) (hts _ m2))
    obtain ⟨hfc, kB, hkB, -⟩ := hat
    have e9 : D.1 ci = cellB.cls := Option.some.inj (hfc.symm.trans hclB)
    rw [e9] at hkB
    intro T hT X
    obtain ⟨v, vm₁, ⟨U', l2, c2, s2'⟩, hW₁, X', ⟨g', mk, t, L, e1, e2, hq', k1, hL, k2, k3⟩, st⟩ := xCallSU X hx (bytes := xBc id) (maxL := (mt id).2.1) (ret := xRt id) hown (hts _ s3) (hts _ s4) (hts _ s1) (s2.imp (fun h => h) (hts _)) (hts _ hinst) (hts _ m1) hi hKb (by rw [hT]; exact hcB) hoB hkB (g := F0 m pc ls ((as.map (xV z ex)).reverse ++ .ref (z + q) :: rest.map (xV z ex))) rfl (hsize.trans hml.symm) (argsL := as.map (xV z ex)) (rest := rest.map (xV z ex)) (fun sig h => hlen'.trans (xLenN m4 sig h)) rfl (xCat hc rfl) (by rw [hb]; exact hdec)
      (fun vm₁ hW₁ => ⟨hr1, hr2, hp.2 (T.setVm vm₁) hT hW₁⟩)
    dsimp only [Pt.U, Pt.locs, Pt.cells, Pt.slots] at X' e1 e2 k1 k2 k3 st
    subst k1; subst k2; subst k3
    exact ⟨v, (T.setVm vm₁).calling g' mk (Value.ref (z + q) :: as.map (xV z ex)).toArray, t, U', L, hT, X', hL, e1, e2, hq', st⟩
theorem xRunV {idx id ci q d mc ms : Nat} {as rest : List AV} (C : xCtx p m c s args meth cc nL own ini D z ex aV cA sc) (hdec : decode cc pc = .ok (.invokevirtual idx, 3)) (ok : OkV own idx ci id) (hlen : as.length + 1 = (mt id).2.2.1) {Qc : Array Value → State → Outcome → State → Prop} {v0 : AV} (hv0 : xV z ex v0 = .ref (z + q)) (hq : q < mN h) (hci : mK h q = ci)
    (hM : Met l (xNm id) (xWs id) (xRm d mc ms) (xPc D z ex aV cA HB (v0 :: as) h) Qc mc ms (xA z)) (hP : xP D z ex cA HB h H) (hS : va_S (xA z) s.heap H locs) (hsize : ls.size = nL) (hc : mCats rest ≤ 8) (h1 : d + 1 ≤ R.frames) (h2 : 40 * (d + 1) ≤ R.locals) (hr1 : cells + mc ≤ R.cells) (hr2 : slots + ms ≤ R.slots) :
    xRun 3 p l e R s m args below meth c H locs cells slots mc ms (F0 m pc ls ((as.map (xV z ex)).reverse ++ .ref (z + q) :: rest.map (xV z ex))) (rest.map (xV z ex)) (Qc (Value.ref (z + q) :: as.map (xV z ex)).toArray) (xA z) := by
  have C' := C
  obtain ⟨⟨hx, hb, hml, hown, hts⟩, -, hK, hN, -⟩ := C'
  obtain ⟨n, x, me, hn, hinst, hl, hsel, h13, hx2⟩ := ok
  have g := me
  obtain ⟨m1, m2, m3, m4, m5, m6, -⟩ := g
  have hp := xPre (as := v0 :: as) C hP hS
  rw [List.map_cons, hv0] at hp
  have hlen' : (as.map (xV z ex)).length = n := by rw [List.length_map]; omega
  have hrec := (xRecv C hP hq hci h13).2
  rcases hx2 with rfl | ⟨owner, b0, m0, r0, o1, o2, o3, o4, o5⟩
  · exact va_runV (C := xCn ci) ⟨hx, hb, hml, hown, hts⟩ hM ⟨xCB hts me hl h1 h2, hts _ hinst, hts _ hsel⟩ ⟨hp.1, hrec, hp.2⟩ rfl hlen' hsize rfl (xCat hc rfl) hdec ⟨hr1, hr2⟩
  · have cw : va_CU R s args (xCn own) (xCn ci) owner idx x (xNm id) (xBc id) (mt id).2.1 (xRt id) (xWs id) (xRm d mc ms) mc ms n :=
      ⟨⟨rfl, rfl, h1, by show 8 + ((mt id).2.1 + 11) + 40 * d ≤ R.locals; omega, pay_in hts (xGood me), List.mem_cons_self⟩, hts _ m1, hts _ m2, o4, xLenN o5, hts _ hl, hts _ o1, va_Decl.of (hts _ o2) (hts _ o3), hts _ hsel, hts _ hinst⟩
    exact va_runU ⟨hx, hb, hml, hown, hts⟩ hM cw ⟨hp.1, hrec, hp.2⟩ rfl hlen' hsize rfl (xCat hc rfl) hdec ⟨hr1, hr2⟩
theorem xRunF {idx id ci q d mc ms count : Nat} {as rest : List AV} (C : xCtx p m c s args meth cc nL own ini D z ex aV cA sc) (hdec : decode cc pc = .ok (.invokeinterface idx count, 5)) (ok : OkF own idx ci id) (hlen : as.length + 1 = (mt id).2.2.1) {Qc : Array Value → State → Outcome → State → Prop} {v0 : AV} (hv0 : xV z ex v0 = .ref (z + q)) (hq : q < mN h) (hci : mK h q = ci)
    (hM : Met l (xNm id) (xWs id) (xRm d mc ms) (xPc D z ex aV cA HB (v0 :: as) h) Qc mc ms (xA z)) (hP : xP D z ex cA HB h H) (hS : va_S (xA z) s.heap H locs) (hsize : ls.size = nL) (hc : mCats rest ≤ 8) (h1 : d + 1 ≤ R.frames) (h2 : 40 * (d + 1) ≤ R.locals) (hr1 : cells + mc ≤ R.cells) (hr2 : slots + ms ≤ R.slots) :
    xRun 5 p l e R s m args below meth c H locs cells slots mc ms (F0 m pc ls ((as.map (xV z ex)).reverse ++ .ref (z + q) :: rest.map (xV z ex))) (rest.map (xV z ex)) (Qc (Value.ref (z + q) :: as.map (xV z ex)).toArray) (xA z) := by
  have C' := C
  obtain ⟨⟨hx, hb, hml, hown, hts⟩, -, hK, hN, -⟩ := C'
  obtain ⟨n, x, me, hn, rfl, hinst, hl, hsel, hF, hpx⟩ := ok
  have g := me
  obtain ⟨m1, m2, m3, m4, m5, m6, -⟩ := g
  have hp := xPre (as := v0 :: as) C hP hS
  rw [List.map_cons, hv0] at hp
  have hlen' : (as.map (xV z ex)).length = n := by rw [List.length_map]; omega
  obtain ⟨hat, hrec⟩ := xRecv C hP hq hci (by decide)
  obtain ⟨f1, f2, f3, f4, f5⟩ := hN.2.2.1 _ hF
  have use : ∀ {w : Cond}, w.onTables = true → w.before #[] s = true → w.before args s = true := fun hw h => va_Nw.use hw h
  have cw : va_CI R s args (xCn own) "java/util/ArrayList" idx x (xNm id) (xBc id) (mt id).2.1 (xRt id) (xWs id) (xRm d mc ms) mc ms n :=
    ⟨⟨rfl, rfl, h1, by show 8 + ((mt id).2.1 + 11) + 40 * d ≤ R.locals; omega, pay_in hts (xGood me), List.mem_cons_self⟩, hts _ hl, use rfl f1, use rfl f2, hts _ hsel, hts _ hinst, use rfl f3, use rfl f4, use rfl f5, hts _ m2, hts _ m1, xFw_ok _ hF, xLenN hpx⟩
  exact va_runF (C := "java/util/ArrayList") hat ⟨hx, hb, hml, hown, hts⟩ hM cw ⟨hp.1, hrec, hp.2⟩ rfl hlen' hsize rfl (xCat hc rfl) hdec ⟨hr1, hr2⟩
end XCALLS
