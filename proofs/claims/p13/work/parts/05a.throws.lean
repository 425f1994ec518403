/-! Methods that throw: a contract for them, the row of a throw, the row of a call that throws into a handler of the caller's own. -/
section TX
variable {p : Program} {l : Launch} {e : Env} {R : Room} {s : State} {m : MethodId} {args : Array Value} {below : List Frame} {meth : Method} {c : Code} {H : Heap} {locs : List Loc} {cells slots : Nat} {Q : State → Prop}
/-- what a throwing method leaves: a new object x of the class X is on its way, nothing that was there has changed -/
def tx_Post (X : String) (mc ms : Nat) (st : State) (o : Outcome) (t : State) : Prop :=
  ∃ (x : Addr) (ce : Cell), o = .threw x ∧ st.heap.size ≤ x ∧ t.heap[x]? = some ce ∧ ce.vm = .none ∧ st.vm.findClass X = some ce.cls ∧ st.vm.assignable ce.cls ce.cls = true ∧ st.WarmedH t.vm ∧ st.sameButNew ({ t with vm := st.vm } : State) [] mc ms
def tx_Met (l : Launch) (y : MethodName) (ws : List Cond) (rm : Room) (Pc : Array Value → State → Prop) (X : String) (mc ms : Nat) : Prop :=
  MetFree l y (headSpec ws rm) Pc (fun _ _ _ _ _ => True) (fun _ st o t => tx_Post X mc ms st o t)
def tx_Q (X : String) (mc ms : Nat) (below : List Frame) (s : State) : State → Prop := fun t => ∃ o, t.status = .running ∧ Ended t below o ∧ tx_Post X mc ms s o t
theorem tx_ofW {y : MethodName} {ws ws' : List Cond} {rm : Room} {Pc : Array Value → State → Prop} {X : String} {mc ms : Nat} {cc : ByteArray} {maxL : Nat} {ret : Option FieldType}
    (hy : plainName y.cls = true) (hw : ws = Cond.code y cc maxL ret :: ws')
    (body : ∀ p e s m args below meth c s₁, BodyLoose p l y (headSpec ws rm) cc maxL ret e s m args below meth c s₁ → c.maxLocals = maxL → Pc args s →
      W p l e (headSpec ws rm).room s m args below meth c s.heap [] 0 0 (tx_Q X mc ms below s) (entryFrame m args maxL)) : tx_Met l y ws rm Pc X mc ms := by
  refine MetFree.of_bodyS (code := cc) (maxLocals := maxL) (ret := ret) hy (fun args s m h hn => ?_) (fun p e s m args below meth c s₁ B hml hP _ => ?_)
  · have h0 := atoms_spec (ws := ws) h (Cond.code y cc maxL ret) (by rw [hw]; exact List.mem_cons_self)
    obtain ⟨meth, c, h1, h2, h3, h4, h5, h6, -, -⟩ := Cond.code_spec hn h0
    exact ⟨meth, c, h1, h2, h3, h4, h5, h6⟩
  · have hh : s₁.heap = s.heap := by rw [B.state]; rfl
    obtain ⟨t, a1, o, b1, b2, b3⟩ := body p e s m args below meth c s₁ B hml hP s₁ hh (Stand.of_body B)
    exact ⟨t, o, a1, b1, b2, b3⟩
/-- old cells stand as they stood -/
theorem tx_same {a b : State} {k n : Nat} (h : a.sameButNew b [] k n) : a.heap.size ≤ b.heap.size ∧ ∀ q : Nat, q < a.heap.size → b.heap[q]? = a.heap[q]? := by
  obtain ⟨-, h1, -, -, -, h2⟩ := h
  refine ⟨h1, fun q hq => ?_⟩
  have hc : a.heap[q]? = some a.heap[q] := Array.getElem?_eq_getElem hq
  obtain ⟨c', e1, e2, e3, e4⟩ := h2 q _ hc
  have e5 : c'.slots = (a.heap[q]).slots := Array.ext_getElem? (fun i => e4 i (by simp))
  rw [e1, hc, e2, e5]
/-- new X; dup; ldc; X(String); athrow: out of the method, if it has no handler and has changed nothing yet -/
theorem tx_throw {cc : ByteArray} (hx : p.tables.exec = Jvm.exec) (hb : c.code = cc) (htr : e.platform.stackTraces = false) (hlocks : meth.locks = false) (hno : c.exceptionTable.isEmpty = true)
    {own cls tx : String} {names : List String} {icl istr ic q pc : Nat} {ls : Array Slot} {rest : List Value} (hsize : ls.size = c.maxLocals)
    (hown : s.vm.findClass own = some m.cls) (hcls : Bundle.fit cls = true) (hnames : ∀ n ∈ names, Bundle.fit n = true)
    (hat : ∀ a ∈ Bundle.ownAtoms own ic cls names, a.before args s = true) (hcl : (Cond.classLink own icl cls).before args s = true) (hin : (Cond.instantiable cls 6).before args s = true) (hini : (Cond.initialized cls).before args s = true)
    (hZ : vk_R own istr tx q s)
    (d0 : decode cc pc = .ok (.new icl, 3)) (d3 : decode cc (pc + 3) = .ok (.dup, 1)) (d4 : decode cc (pc + 4) = .ok (.ldc istr, 2)) (d6 : decode cc (pc + 6) = .ok (.invokespecial ic, 3)) (d9 : decode cc (pc + 9) = .ok (.athrow, 1))
    (hR : names.length + 3 < R.frames) (hRl : (rest.map fun v => v.category).sum + (13 * (names.length + 1) + 43) ≤ R.locals) (hc : 1 ≤ R.cells) (hs : 6 ≤ R.slots) :
    W p l e R s m args below meth c s.heap [] 0 0 (tx_Q cls 1 6 below s) (F0 m pc ls rest) := by
  refine W.newc (C := cls) (n := 6) hx hb hown hcl hin hini rfl d0 (by omega) (by omega) (fun cC kC hfc hkc hord hsz => ?_)
  refine W.eq (g2 := F0 m (pc + 3) ls (.ref s.heap.size :: rest)) rfl ?_
  refine lv_dup hx hb d3 rfl ?_
  refine va_ldcS hx hb hown hZ d4 ?_
  intro T hT X
  have hcell : T.heap[s.heap.size]? = some (freshCell cC kC) := by rw [hT]; simp [freshCell]
  obtain ⟨U, st, hrun, hend, hW, hsame, ce, hce, K⟩ := X.ctorThrowS hx htr hown hcls hnames hat (fun y hy => by cases hy) hfc hkc hcell (Nat.le_refl _) (msg := .ref q) rfl
    (g := F0 m (pc + 4 + 2) ls (.ref q :: .ref s.heap.size :: .ref s.heap.size :: rest)) rfl hsize rfl rfl (rest := rest) rfl (by rw [hb]; exact d6) (by rw [hb]; exact d9) (covers_of_empty hno _) hR
    (by show 2 * 0 + (1 + (rest.map fun v => v.category).sum) + (13 * (names.length + 1) + 42) ≤ R.locals; omega)
  exact ⟨U, st, .threw s.heap.size, hrun, hend, s.heap.size, ce, rfl, Nat.le_refl _, hce, K.vm, K.cls, K.self, hW, hsame⟩
/-- a call of a method that throws, up to the note that x is on its way -/
theorem tx_call {T : State} (X : Stand p l e R s m args below meth c T locs cells slots) {y : MethodName} {ws : List Cond} {rm : Room} {Pc : Array Value → State → Prop} {Xn : String} {mc ms : Nat} {bytes : ByteArray} {maxL : Nat} {ret : Option FieldType}
    (hM : tx_Met l y ws rm Pc Xn mc ms) (hbl : FrameBlind Pc) (hrc : rm.cells = mc) (hrs : rm.slots = ms) (hfr : rm.frames + 1 ≤ R.frames) (hlo : 8 + (maxL + 11) + rm.locals ≤ R.locals)
    (hws : ∀ w ∈ ws, ∀ (a' : Array Value) (U : State), s.WarmedH U.vm → w.before a' U = true) (hcw : Cond.code y bytes maxL ret ∈ ws) (hini : (Cond.initialized y.cls).before args s = true)
    {g : JFrame} (hg : g.method = m) (hsize : g.locals.size = c.maxLocals) {ig : Instr} {len : Nat} (hdg : decode c.code g.pc = .ok (ig, len)) (hW : 2 * g.monitorRoom + (g.stack.map fun v => v.category).sum ≤ 8)
    {mk : MethodId} (hn : T.methodNamed? y = some mk) {a : Array Value} (hcells : cells + mc ≤ R.cells) (hslots : slots + ms ≤ R.slots) (hp : Pc a T) :
    ∃ (x : Addr) (ce : Cell) (T' : State), Stand p l e R s m args below meth c T' locs (cells + mc) (slots + ms) ∧ T.heap.size ≤ x ∧ T'.heap[x]? = some ce ∧ ce.vm = .none ∧ s.vm.findClass Xn = some ce.cls ∧ s.vm.assignable ce.cls ce.cls = true ∧
      T.heap.size ≤ T'.heap.size ∧ (∀ q : Nat, q < T.heap.size → T'.heap[q]? = T.heap[q]?) ∧ Steps p.tables e below (doInvoke e (T.setTop g) [] mk a).1 ((T'.setTop g).pushFrame (.throwing x)) := by
  obtain ⟨methY, cY, hmY, hcY, -, hlY, -, -, -, -⟩ := Cond.code_spec hn (hws _ hcw a T X.warmed)
  obtain ⟨kY, hkY, -⟩ := className_of_methodNamed hn
  have hinT : (Cond.initialized y.cls).before a T = true := word_at X.warmed (Or.inl (by first | rfl | simp [Cond.onTables, Cond.keeps, Cond.steady])) hini
  have hinitY : kY.init = .initialized := Cond.initialized_spec (findClass_of_methodNamed hn) hkY hinT
  have hA : At T g.method c below := by rw [hg]; exact X.here
  have happ : (headSpec ws rm).appliesLoose y e.platform (T.calling g mk a) = true :=
    Spec.appliesLoose_calling (g := g) hA hdg hn hkY hinitY (X.room_calling (g := g) (R' := rm) hsize hmY hcY hfr (by rw [hlY]; omega) (by rw [hrc]; exact hcells) (by rw [hrs]; exact hslots)) (atoms_intro fun w hw => hws w hw _ _ X.warmed)
  obtain ⟨mid, hmid⟩ := hA.above
  have hf : (T.setTop g).frames = (.java g :: mid) ++ below := by rw [State.frames_setTop' g hA.top, hmid]; rfl
  obtain ⟨o, t, st, -, hend, x, ce, rfl, h1, h2, h3, h4, h5, h6, h7⟩ := Steps.callFree hM p X.admits X.cas X.clock (acts := []) hf happ (hbl _ _ g mk hp) trivial
  rw [State.frames_setTop' g hA.top, X.tail] at hend
  obtain ⟨T', X', hW', hS', ht⟩ := X.outOfThrown hg (mk := mk) (a := a) hend h6 h7
  have hh : t.heap = T'.heap := by rw [ht]; exact throwing_heap T' g x
  obtain ⟨k1, k2⟩ := tx_same hS'
  rw [List.append_nil] at X'
  have ha := X.warmed.alike
  refine ⟨x, ce, T', X', h1, by rw [← hh]; exact h2, h3, ?_, ?_, k1, k2, by rw [← ht]; exact st⟩
  · have q : T.vm.findClass Xn = some ce.cls := h4
    rw [ha.findClass] at q; exact q
  · have q : T.vm.assignable ce.cls ce.cls = true := h5
    rw [ha.assignable] at q; exact q
end TX
/-- the search through a table whose first row covers, its class linked (resolved or not): as from the tables behind -/
theorem tx_find {e : Env} {E : CtlPost} {d : Bool} {acts : List Action} {s : State} {f : JFrame} {a : Addr} {Q : Handler → Pre} {x : ExceptionTableEntry} {t : List ExceptionTableEntry} {k : ClassId} {vm' : Vm}
    (hx : covers x f.pc = true) (h0 : x.catchType ≠ 0) (hg : (Jvm.resolveClass f.method.cls x.catchType).Gives e.toSetting s.vm (.ok k) vm') (hsz : vm'.classes.size ≤ s.vm.classes.size)
    {cell : Cell} (hcell : s.heap[a]? = some cell) (hobj : ∀ z, cell.vm ≠ .statics z) (hk : ∃ z, vm'.classes[cell.cls]? = some z) (hc : ∃ z, vm'.classes[k]? = some z) :
    wp (findHandler.go f a (x :: t)) Q E e d acts s ↔ if vm'.assignable cell.cls k = true then Q (.found x.handlerPc) d acts (s.setVm vm') else wp (findHandler.go f a t) Q E e d acts (s.setVm vm') := by
  simp only [covers] at hx
  obtain ⟨ha, ht⟩ := hg.op (op := VmOp.resolveClass f.method.cls x.catchType) rfl
  cases hfit : vm'.assignable cell.cls k <;>
    simp [findHandler.go, hx, h0, ha, ht, hsz, hcell, hobj, hk, hc, hfit, VmOp.dirties, VmOp.acts]
/-- what the search gives, and the state behind it -/
def tx_Finds (e : Env) (s s' : State) (f : JFrame) (a : Addr) (h : Handler) : Prop :=
  ∀ (Q : Handler → Pre) (E : CtlPost) (d : Bool) (acts : List Action), wp (findHandler f a) Q E e d acts s ↔ Q h d acts s'
theorem tx_step {e : Env} {s s' : State} {a : Addr} {f : JFrame} {r : List Frame} {pc : Nat} (hfind : tx_Finds e s s' f a (.found pc)) :
    (stepThrowing e s a (.java f :: r)).Is (s'.setFrames (.java { f with pc := pc, stack := [.ref a] } :: r)) [] := by
  simp only [stepThrowing, searchFrame, vmDo]
  generalize hr : Sem.go _ e false [] s = res
  obtain ⟨as, rfl, ha⟩ := Sem.eq_ok_of hr (a := Handler.found pc) (s' := s') (acts' := []) (by simp [hfind _ _ _ _])
  exact ⟨rfl, ha⟩
theorem tx_caught {tb : Tables} {e : Env} {s target : State} {g : JFrame} {c : Code} {below : List Frame} {a : Addr} (h : At s g.method c below) {vm' : Vm} {pc : Nat}
    (hfind : tx_Finds e ((s.setTop g).pushFrame (.throwing a)) (((s.setTop g).pushFrame (.throwing a)).setVm vm') g a (.found pc))
    (hrest : Steps tb e below ((s.setVm vm').setTop { g with pc := pc, stack := [.ref a] }) target) : Steps tb e below ((s.setTop g).pushFrame (.throwing a)) target := by
  obtain ⟨hgo, hw⟩ := h.throwing a
  refine Steps.head hgo hw ?_
  rw [stepThread_throwing (frames_entered h.top _), (tx_step (s := (s.setTop g).pushFrame (.throwing a)) hfind).1]
  obtain ⟨g₀, hg⟩ := Option.isSome_iff_exists.mp h.top
  obtain ⟨r, hr⟩ := State.topJava?_eq_some.mp hg
  have hr' : (s.setVm vm').frames = .java g₀ :: r := hr
  rw [State.setTop_of_frames _ hr'] at hrest
  have e1 : (((s.setTop g).pushFrame (.throwing a)).setVm vm').setFrames (.java { g with pc := pc, stack := [.ref a] } :: s.frames.tail) = (s.setVm vm').setFrames (.java { g with pc := pc, stack := [.ref a] } :: r) := by
    rw [State.pushFrame, State.setTop_of_frames _ hr, State.setFrames_setFrames, hr]
    show ((s.setVm vm').setFrames _).setFrames _ = _
    rw [State.setFrames_setFrames]
    rfl
  rw [e1]
  exact hrest
section TY
variable {p : Program} {l : Launch} {e : Env} {R : Room} {s : State} {m : MethodId} {args : Array Value} {below : List Frame} {meth : Method} {c : Code} {H : Heap} {locs : List Loc} {cells slots : Nat} {Q : State → Prop}
/-- invokevirtual of a method that throws an X, caught by the first row of the caller's own table -/
theorem tx_callV {y : MethodName} {bytes cc : ByteArray} {maxL nL mc ms n index pc b : Nat} {ret : Option FieldType} {ws Ts : List Cond} {rm : Room} {Pc : Array Value → State → Prop} {own C Xn : String} {As rest : List Value} {ls : Array Slot}
    (S : CallFix p m c cc nL s args Ts own) (hM : tx_Met l y ws rm Pc Xn mc ms) (cw : CallW R s args own C index y bytes maxL ret ws rm mc ms n) (hp : PreV s H C b Pc As)
    (hn : As.length = n) (hsize : ls.size = nL) (hW : (rest.map fun v => v.category).sum ≤ 8) (hdg : decode cc pc = .ok (.invokevirtual index, 3)) (hf : cells + mc ≤ R.cells ∧ slots + ms ≤ R.slots)
    {h1 : ExceptionTableEntry} {hs : List ExceptionTableEntry} (htab : c.exceptionTable.toList = h1 :: hs) (hcov : covers h1 pc = true) (hct : h1.catchType ≠ 0) (hlk : (Cond.classLink own h1.catchType Xn).before args s = true)
    (kk : ∀ (x : Nat) (H1 : Heap), H.size ≤ H1.size → (∀ q : Nat, q < H.size → H1[q]? = H[q]?) → W p l e R s m args below meth c H1 locs (cells + mc) (slots + ms) Q (F0 m h1.handlerPc ls [.ref x])) :
    W p l e R s m args below meth c H locs cells slots Q (F0 m pc ls (As.reverse ++ .ref b :: rest)) := by
  obtain ⟨hx, hb, hml, ho, -⟩ := S
  obtain ⟨⟨hrc, hrs, hfr, hlo, hws, hcw, hcode, hini, hy, hlen, hl⟩, hin, hse⟩ := cw
  obtain ⟨hbl, ⟨cellB, hcB, hoB, hclB⟩, hPc⟩ := hp
  intro T hT X
  obtain ⟨mk, methM, hnamed, hmethM, hstM, habM⟩ := Cond.instanceMethod_spec hin
  obtain ⟨methM', cM, hmethM', -, -, -, -, -, -, hsigM⟩ := Cond.code_spec hnamed hcode
  cases hmethM.symm.trans hmethM'
  obtain ⟨c2, r2, m2, q1, q2, q3, q4, kP, hkP, hkPi⟩ := Cond.selects_spec hse
  cases hclB.symm.trans q1
  cases (State.methodFound?_of_named hnamed hy).symm.trans q2
  cases hnamed.symm.trans q3
  have hselP : selectMethod e.platform s.vm cellB.cls mk = .method mk := by rw [Launch.admits_selectMethod X.admits]; exact q4
  obtain ⟨vm₁, X₁, hstep₁⟩ := X.invokevirtual hx ho hl hnamed hmethM hstM hkP hkPi hy (a := b) (cell := cellB) (by rw [hT]; exact hcB) (fun z h => by rw [h] at hoB; cases hoB) hselP hmethM habM hkP hkPi
    (g := F0 m pc ls (As.reverse ++ .ref b :: rest)) rfl (argsL := As) (rest := rest) (hn.trans (hlen _ hsigM)) rfl (by rw [hb]; exact hdg)
  obtain ⟨x, ce, T', X', g1, g2, g3, g4, g5, k1, k2, st⟩ := tx_call X₁ hM hbl hrc hrs hfr hlo hws hcw hini (g := F0 m pc ls rest) rfl (hsize.trans hml.symm) (by rw [hb]; exact hdg)
    (by simp only [JFrame.monitorRoom]; omega) (X₁.named hnamed) (a := (Value.ref b :: As).toArray) hf.1 hf.2 (hPc _ hT X₁.warmed)
  obtain ⟨cX, hfX, hcl⟩ := Cond.classLink_spec ho hlk e.platform (by rw [X.admits.platform])
  cases hfX.symm.trans g4
  obtain ⟨hg₁, hwarm₁, -⟩ := State.classEntry (e := e) X'.warmed hcl
  have hal := hwarm₁.alike
  have hk1 : ∃ z, (T'.vm.noted m.cls h1.catchType (.cls ce.cls)).classes[ce.cls]? = some z := by
    obtain ⟨z, hz⟩ := Vm.classAt_of_findClass g4
    obtain ⟨z', hz', -⟩ := hal.2.2 _ _ hz
    exact ⟨z', hz'⟩
  have hsz : (T'.vm.noted m.cls h1.catchType (.cls ce.cls)).classes.size ≤ T'.vm.classes.size := by simp [Vm.size_noted]
  have hfind : tx_Finds e ((T'.setTop (F0 m pc ls rest)).pushFrame (.throwing x)) (((T'.setTop (F0 m pc ls rest)).pushFrame (.throwing x)).setVm (T'.vm.noted m.cls h1.catchType (.cls ce.cls))) (F0 m pc ls rest) x (.found h1.handlerPc) := by
    intro Q E d acts
    have hv := throwing_vm T' (F0 m pc ls rest) x
    have hh := throwing_heap T' (F0 m pc ls rest) x
    rw [Jvm.W.findHandler_eq (meth := meth) (code := c) (by rw [hv]; exact X'.method') X'.code, htab, tx_find (cell := ce) (k := ce.cls) (vm' := T'.vm.noted m.cls h1.catchType (.cls ce.cls)) hcov hct (by rw [hv]; exact hg₁) (by rw [hv]; exact hsz) (by rw [hh]; exact g2) (fun z => by rw [g3]; simp) hk1 hk1, if_pos (by rw [hal.assignable]; exact g5)]
  obtain ⟨t2, a1, b1⟩ := kk x T'.heap (by rw [← hT]; exact k1) (fun q hq => by rw [← hT] at hq ⊢; exact k2 q hq) (T'.setVm (T'.vm.noted m.cls h1.catchType (.cls ce.cls))) rfl (X'.noted hwarm₁)
  refine ⟨t2, hstep₁ _ (fun acts => ?_), b1⟩
  rw [doInvoke_state]
  exact st.trans (tx_caught X'.here hfind a1)
end TY
