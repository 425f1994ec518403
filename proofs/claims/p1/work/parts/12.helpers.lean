/-! methods with handlers: their words, their calls -/
abbrev tbx (w : Cond) : List Cond := w :: tb
theorem gdx {w : Cond} (hc : w ∈ tb) : GoodIn tb (tbx w) := fun z h => (List.mem_cons.mp h).elim (fun e => e ▸ ⟨hc, tb_good hc⟩) (fun h => ⟨h, tb_good h⟩)
theorem tab_of {t : List ExceptionTableEntry} {a b c d : Nat} {hh : List (Nat × Nat × Nat × Nat)} (h : t.map (fun h => (h.startPc, h.endPc, h.handlerPc, h.catchType)) = (a, b, c, d) :: hh) : ∃ r, t = ⟨a, b, c, d⟩ :: r := by
  cases t with
  | nil => cases h
  | cons x r =>
    obtain ⟨x1, x2, x3, x4⟩ := x
    simp only [List.map_cons, List.cons.injEq, Prod.mk.injEq] at h
    obtain ⟨⟨rfl, rfl, rfl, rfl⟩, -⟩ := h
    exact ⟨r, rfl⟩
/-- the table of handlers of a method whose words begin with its 'codeWith' -/
theorem tab_body {p : Program} {l : Launch} {y : MethodName} {S : Spec} {cc : ByteArray} {n : Nat} {ret : Option FieldType} {e : Env} {s : State} {m : MethodId} {args : Array Value} {below : List Frame} {meth : Method} {c : Code} {s₁ : State} {hh : List (Nat × Nat × Nat × Nat)} {a b d f : Nat}
    (B : BodyLoose p l y S cc n ret e s m args below meth c s₁) (h : (Cond.codeWith y cc n ret ((a, b, d, f) :: hh)).before args s = true) : ∃ r, c.exceptionTable.toList = ⟨a, b, d, f⟩ :: r := by
  obtain ⟨m', meth', c', h1, h2, h3, -, -, h4, -⟩ := Cond.codeWith_spec h
  cases B.named.symm.trans h1
  cases B.method.symm.trans h2
  cases (Stand.of_body B).code.symm.trans h3
  exact tab_of h4
section TZ
variable {p : Program} {l : Launch} {e : Env} {R : Room} {s : State} {m : MethodId} {args : Array Value} {below : List Frame} {meth : Method} {c : Code} {H : Heap} {locs : List Loc} {cells slots : Nat}
/-- invokestatic of a method that has handlers -/
theorem tx_runS {y : MethodName} {bytes cc : ByteArray} {maxL nL mc ms n index : Nat} {ret : Option FieldType} {ws Ts : List Cond} {rm : Room} {Pc : Array Value → State → Prop} {Qc : Array Value → State → Outcome → State → Prop} {free : Addr → Prop} {own : String} {As rest : List Value} {g : JFrame} {hh : List (Nat × Nat × Nat × Nat)}
    (S : CallFix p m c cc nL s args Ts own) (hM : Met l y ws rm Pc Qc mc ms free) (hG : GoodIn Ts ws) (hcw : Cond.codeWith y bytes maxL ret hh ∈ ws) (hrc : rm.cells = mc) (hrs : rm.slots = ms) (hR : rm.frames + 1 ≤ R.frames ∧ 8 + (maxL + 11) + rm.locals ≤ R.locals)
    (hini : (Cond.initialized y.cls).before args s = true) (hl : (Cond.methodLink own index y).before args s = true) (hst : (Cond.static y).before args s = true)
    (hd : y.cls ≠ "java/lang/invoke/MethodHandle" ∧ y.cls ≠ "java/lang/invoke/VarHandle" ∧ (parseMethodDescriptor y.desc).map (fun d => d.parameters.length) = some n) (hp : PreS s H Pc As)
    (hg : g.method = m) (hn : As.length = n) (hsize : g.locals.size = nL) (hstack : g.stack = As.reverse ++ rest) (hW : 2 * g.monitorRoom + (rest.map fun v => v.category).sum ≤ 8) (hdg : decode cc g.pc = .ok (.invokestatic index, 3)) (hf : cells + mc ≤ R.cells ∧ slots + ms ≤ R.slots) :
    va_Run p l e R s m args below meth c H locs cells slots mc ms g rest (Qc As.toArray) (free) := by
  obtain ⟨hx, hb, hml, ho, ht⟩ := S
  have hws := pay_in ht hG
  have hK : Back l R p e below s args y 3 8 (PreOf R mc ms Pc) (PostOf Qc mc ms free) := va_backW hM hp.1 hrc hrs hR.1 hR.2 hws hcw (fun a' U hW => word_at hW (Or.inl (by first | rfl | simp [Cond.onTables, Cond.keeps, Cond.steady])) hini)
  intro T hT X
  obtain ⟨mk, methM, cM, hnamed, hmethM, -, -, -, -, -, -, hsigM⟩ := Cond.codeWith_spec (ht _ (hG _ hcw).1)
  have hstatic : methM.isStatic = true := Cond.static_spec hnamed hmethM hst
  obtain ⟨kP, hkP, -⟩ := className_of_methodNamed hnamed
  have hinitP : kP.init = .initialized := Cond.initialized_spec (findClass_of_methodNamed hnamed) hkP hini
  have hlen : As.length = methM.sig.parameters.length := by
    have h2 := hd.2.2
    rw [hsigM] at h2
    exact hn.trans (Option.some.inj h2).symm
  obtain ⟨vm₁, X₁, hstep₁⟩ := X.invokestatic hx ho hl hnamed hmethM hstatic hkP hinitP ⟨hd.1, hd.2.1⟩ (g := g) hg (argsL := As) (rest := rest) hlen hstack (by rw [hb]; exact hdg)
  obtain ⟨v, ⟨U', l2, c2, s2⟩, X', ⟨g', mk', t, L, e1, e2, hq, h1, hL, h2, h3⟩, st⟩ := hK m meth c ⟨T.setVm vm₁, locs, cells, slots⟩ { g with stack := rest } (.invokestatic index) mk As.toArray X₁ hg (hsize.trans hml.symm) (by rw [hb]; exact hdg) hW (X₁.named hnamed) ⟨hf.1, hf.2, hp.2 (T.setVm vm₁) hT X₁.warmed⟩
  dsimp only [Pt.U, Pt.locs, Pt.cells, Pt.slots] at X' e1 e2 h1 h2 h3 st
  subst h1; subst h2; subst h3
  exact ⟨v, (T.setVm vm₁).calling g' mk' As.toArray, t, U', L, hT, X', hL, e1, e2, hq, fun target h => hstep₁ _ fun acts => by rw [doInvoke_state]; exact st.trans h⟩
end TZ

set_option maxHeartbeats 4000000 in
set_option maxRecDepth 100000 in
theorem c_L_step (l : Launch) (hst : l.stackTraces = false) (dC : Nat → ClassId) (dI : Nat → Nat → Nat) (h0 a0 a1 a2 a3 a4 : Nat) (sf sg n1 n2 n3 : Int32) (x : Int32) (q9 : Nat) (sz : Nat) : Met l y_L_step (tbx (Cond.codeWith y_L_step b_L_step 4 (some .int) [(0, 9, 12, 13), (0, 9, 15, 15)])) ({ frames := 7, cells := 1, slots := 6, locals := 112 }) (va_Pc [.ref h0, .int x, .ref q9] (fun U => U.heap.size = sz ∧ va_P (dC, dI) classes [(h0, .inr (0, [.ref a0, .ref a1, .ref a2, .ref a3, .ref a4, .int 0, .int sf, .int sg, .int n1, .int n2, .int n3]))] U.heap ∧ va_K (dC, dI) classes [] U ∧ va_D (fun _ => True) [(h0, .inr (0, [.ref a0, .ref a1, .ref a2, .ref a3, .ref a4, .int 0, .int sf, .int sg, .int n1, .int n2, .int n3]))] ∧ nw U ∧ tw (fun _ => False) U U.heap)) (va_Qi (fun (r : Int32) (u9 : Unit) => match u9 with | _ => r = 1) (fun (u9 : Unit) t => match u9 with | _ => va_P (dC, dI) classes [] t.heap ∧ va_K (dC, dI) classes [] t ∧ va_D (va_A [(h0, .inr (0, [.ref a0, .ref a1, .ref a2, .ref a3, .ref a4, .int 0, .int sf, .int sg, .int n1, .int n2, .int n3]))] sz) []) (va_A [(h0, .inr (0, [.ref a0, .ref a1, .ref a2, .ref a3, .ref a4, .int 0, .int sf, .int sg, .int n1, .int n2, .int n3]))] sz)) 1 6 (va_A [(h0, .inr (0, [.ref a0, .ref a1, .ref a2, .ref a3, .ref a4, .int 0, .int sf, .int sg, .int n1, .int n2, .int n3]))] sz) := by
  refine va_MetW (cc := b_L_step) (maxL := 4) (ret := (some .int)) (hh := [(0, 9, 12, 13), (0, 9, 15, 15)]) (by decide) rfl ?_
  intro p e s m args below meth c s₁ B hml hv
  obtain ⟨rfl, hsz, hP, hK, hD0, hnw, htw⟩ := hv
  have hx := B.exec
  have hb := B.bytes
  have hr := B.returns
  have hts := atoms_spec (ws := (tbx (Cond.codeWith y_L_step b_L_step 4 (some .int) [(0, 9, 12, 13), (0, 9, 15, 15)]))) B.pre
  have hw : ∀ z9 ∈ tb, z9.before ([.ref h0, .int x, .ref q9] : List Value).toArray s = true := fun z9 h => hts z9 (List.mem_cons_of_mem _ h)
  have hown : s.vm.findClass "VotedTripleLaw" = some m.cls := findClass_of_methodNamed B.named
  have hlocks := B.notSynchronized
  obtain ⟨tr9, htab⟩ := tab_body B (hts _ List.mem_cons_self)
  subst hsz
  have hD := hD0.self (sz := s.heap.size)
  generalize hAe : va_A [(h0, .inr (0, [.ref a0, .ref a1, .ref a2, .ref a3, .ref a4, .int 0, .int sf, .int sg, .int n1, .int n2, .int n3]))] s.heap.size = A at hD ⊢
  have hA : ∀ q : Nat, s.heap.size ≤ q → A q := fun q h => by rw [← hAe]; exact Or.inr h
  have hS : va_S A s.heap s.heap [] := va_S.rf
  have hl := lv_entry ([.ref h0, .int x, .ref q9]) (n := 4) (Nat.le_of_ble_eq_true rfl)
  rw [lg_entry_eq]
  generalize (lg_sl ([.ref h0, .int x, .ref q9]) ++ List.replicate (4 - (lg_sl ([.ref h0, .int x, .ref q9])).length) Slot.unset).toArray = ls at hl ⊢
  have hl : lv_has ls 4 [(0, .ref h0), (1, .int x), (2, .ref q9)] := hl
  refine lv_aload_n hx hb d_L_step_0 rfl (lv_at hl 2 rfl) ?_
  refine lv_iconst (v := 0) hx hb d_L_step_1 (by decide) ?_
  refine lv_aload_n hx hb d_L_step_2 rfl (lv_at hl 0 rfl) ?_
  refine lv_iload_n hx hb d_L_step_3 rfl (lv_at hl 1 rfl) ?_
  have hPc := hP.sub (ws' := [(h0, .inr (0, [.ref a0, .ref a1, .ref a2, .ref a3, .ref a4, .int 0, .int sf, .int sg, .int n1, .int n2, .int n3]))]) [0] rfl
  have hKc := hK.sub (tys' := []) [] rfl
  refine tx_callV (C := "VotedTriple") (As := [.int x]) (rest := [.int 0, .ref q9]) ⟨hx, hb, hml, hown, hw⟩ (c_T_step_0 l hst dC dI h0 a0 a1 a2 a3 a4 sf sg n1 n2 n3 x) (cwV 1 hw (gdV (k_392) (k_389) (k_390) (k_391) (k_1)) rfl rfl rfl (by decide +kernel) ⟨Nat.le_of_ble_eq_true rfl, Nat.le_of_ble_eq_true rfl⟩) ⟨fun a U g mk q => ⟨q.1, q.2.1, va_K.moved (u := U) (U := U.calling g mk a) (Vm.Alike.refl U.vm) q.2.2.1, nw_vm (u := U) (U := U.calling g mk a) rfl q.2.2.2.1, tw_vm (u := U) (U := U.calling g mk a) rfl q.2.2.2.2⟩, va_recv hK hP rfl (q0 := 0) rfl, fun U hU hW => ⟨rfl, by rw [hU]; exact hPc, va_K.moved hW.alike hKc, nw_warm hW hnw, by rw [hU]; exact tw_warm hW htw⟩⟩ rfl hl.1 (Nat.le_of_ble_eq_true rfl) d_L_step_4 ⟨Nat.le_of_ble_eq_true rfl, Nat.le_of_ble_eq_true rfl⟩ htab (by decide) (by decide) (hw _ k_387) (fun x9 H hz9 hk9 => ?_)
  have hP : va_P (dC, dI) classes [(h0, .inr (0, [.ref a0, .ref a1, .ref a2, .ref a3, .ref a4, .int 0, .int sf, .int sg, .int n1, .int n2, .int n3]))] H := hP.kept (fun k q hq => hk9 _ (hP k q hq).lt)
  have hS : va_S A s.heap H [] := ⟨hz9, fun q h1 _ => hk9 q h1, fun _ h => by cases h⟩
  refine W.widen (k := 1) (n := 6) (Nat.le_of_ble_eq_true rfl) (Nat.le_of_ble_eq_true rfl) ?_
  refine W.eq (g2 := F0 m 12 ls [.ref x9]) rfl ?_
  refine lv_astore_n hx hb d_L_step_12 rfl hl (by decide) rfl (fun ls hl => ?_)
  have hl : lv_has ls 4 [(3, .ref x9), (0, .ref h0), (1, .int x), (2, .ref q9)] := hl
  refine lv_iconst (v := 1) hx hb d_L_step_13 (by decide) ?_
  have hP9 := hP.sub (ws' := []) [] rfl
  have hD9 := hD.sub (ws' := []) [] (by decide) rfl
  have hK9 := hK.sub (tys' := []) [] rfl
  refine W.widen (k := 1) (n := 6) (Nat.le_of_ble_eq_true rfl) (Nat.le_of_ble_eq_true rfl) ?_
  exact W.iret (v := 1) hx hb hr (fun t ht hW => ⟨⟨_, (), rfl, rfl, by rw [ht]; exact hP9, va_K.moved hW.alike hK9, hD9⟩, hS.F ht⟩) hS.2.2 d_L_step_14

set_option maxHeartbeats 4000000 in
set_option maxRecDepth 100000 in
theorem c_L_output (l : Launch) (hst : l.stackTraces = false) (dC : Nat → ClassId) (dI : Nat → Nat → Nat) (h0 a0 a1 a2 a3 a4 : Nat) (sf sg n1 n2 n3 : Int32) (q : Nat) (x : Int32) (q9 : Nat) (sz : Nat) : Met l y_L_output (tbx (Cond.codeWith y_L_output b_L_output 4 (some .int) [(0, 9, 12, 20)])) ({ frames := 7, cells := 1, slots := 6, locals := 111 }) (va_Pc [.ref h0, .int x, .ref q9] (fun U => U.heap.size = sz ∧ va_P (dC, dI) classes [(h0, .inr (0, [.ref a0, .ref a1, .ref a2, .ref a3, .ref a4, .int 0, .int sf, .int sg, .int n1, .int n2, .int n3])), (a4, .inr (5, [.ref q, .int 0]))] U.heap ∧ va_K (dC, dI) classes [] U ∧ va_D (fun _ => True) [(h0, .inr (0, [.ref a0, .ref a1, .ref a2, .ref a3, .ref a4, .int 0, .int sf, .int sg, .int n1, .int n2, .int n3])), (a4, .inr (5, [.ref q, .int 0]))] ∧ nw U ∧ tw (fun _ => False) U U.heap)) (va_Qi (fun (r : Int32) (u9 : Unit) => match u9 with | _ => r = 1) (fun (u9 : Unit) t => match u9 with | _ => va_P (dC, dI) classes [] t.heap ∧ va_K (dC, dI) classes [] t ∧ va_D (va_A [(h0, .inr (0, [.ref a0, .ref a1, .ref a2, .ref a3, .ref a4, .int 0, .int sf, .int sg, .int n1, .int n2, .int n3])), (a4, .inr (5, [.ref q, .int 0]))] sz) []) (va_A [(h0, .inr (0, [.ref a0, .ref a1, .ref a2, .ref a3, .ref a4, .int 0, .int sf, .int sg, .int n1, .int n2, .int n3])), (a4, .inr (5, [.ref q, .int 0]))] sz)) 1 6 (va_A [(h0, .inr (0, [.ref a0, .ref a1, .ref a2, .ref a3, .ref a4, .int 0, .int sf, .int sg, .int n1, .int n2, .int n3])), (a4, .inr (5, [.ref q, .int 0]))] sz) := by
  refine va_MetW (cc := b_L_output) (maxL := 4) (ret := (some .int)) (hh := [(0, 9, 12, 20)]) (by decide) rfl ?_
  intro p e s m args below meth c s₁ B hml hv
  obtain ⟨rfl, hsz, hP, hK, hD0, hnw, htw⟩ := hv
  have hx := B.exec
  have hb := B.bytes
  have hr := B.returns
  have hts := atoms_spec (ws := (tbx (Cond.codeWith y_L_output b_L_output 4 (some .int) [(0, 9, 12, 20)]))) B.pre
  have hw : ∀ z9 ∈ tb, z9.before ([.ref h0, .int x, .ref q9] : List Value).toArray s = true := fun z9 h => hts z9 (List.mem_cons_of_mem _ h)
  have hown : s.vm.findClass "VotedTripleLaw" = some m.cls := findClass_of_methodNamed B.named
  have hlocks := B.notSynchronized
  obtain ⟨tr9, htab⟩ := tab_body B (hts _ List.mem_cons_self)
  subst hsz
  have hD := hD0.self (sz := s.heap.size)
  generalize hAe : va_A [(h0, .inr (0, [.ref a0, .ref a1, .ref a2, .ref a3, .ref a4, .int 0, .int sf, .int sg, .int n1, .int n2, .int n3])), (a4, .inr (5, [.ref q, .int 0]))] s.heap.size = A at hD ⊢
  have hA : ∀ q : Nat, s.heap.size ≤ q → A q := fun q h => by rw [← hAe]; exact Or.inr h
  have hS : va_S A s.heap s.heap [] := va_S.rf
  have hl := lv_entry ([.ref h0, .int x, .ref q9]) (n := 4) (Nat.le_of_ble_eq_true rfl)
  rw [lg_entry_eq]
  generalize (lg_sl ([.ref h0, .int x, .ref q9]) ++ List.replicate (4 - (lg_sl ([.ref h0, .int x, .ref q9])).length) Slot.unset).toArray = ls at hl ⊢
  have hl : lv_has ls 4 [(0, .ref h0), (1, .int x), (2, .ref q9)] := hl
  refine lv_aload_n hx hb d_L_output_0 rfl (lv_at hl 2 rfl) ?_
  refine lv_iconst (v := 0) hx hb d_L_output_1 (by decide) ?_
  refine lv_aload_n hx hb d_L_output_2 rfl (lv_at hl 0 rfl) ?_
  refine lv_iload_n hx hb d_L_output_3 rfl (lv_at hl 1 rfl) ?_
  have hPc := hP.sub (ws' := [(h0, .inr (0, [.ref a0, .ref a1, .ref a2, .ref a3, .ref a4, .int 0, .int sf, .int sg, .int n1, .int n2, .int n3])), (a4, .inr (5, [.ref q, .int 0]))]) [0, 1] rfl
  have hKc := hK.sub (tys' := []) [] rfl
  refine tx_callV (C := "VotedTriple") (As := [.int x]) (rest := [.int 0, .ref q9]) ⟨hx, hb, hml, hown, hw⟩ (c_T_output_0 l hst dC dI h0 a0 a1 a2 a3 a4 sf sg n1 n2 n3 q x) (cwV 1 hw (gdV (k_674) (k_671) (k_672) (k_673) (k_1)) rfl rfl rfl (by decide +kernel) ⟨Nat.le_of_ble_eq_true rfl, Nat.le_of_ble_eq_true rfl⟩) ⟨fun a U g mk q => ⟨q.1, q.2.1, va_K.moved (u := U) (U := U.calling g mk a) (Vm.Alike.refl U.vm) q.2.2.1, nw_vm (u := U) (U := U.calling g mk a) rfl q.2.2.2.1, tw_vm (u := U) (U := U.calling g mk a) rfl q.2.2.2.2⟩, va_recv hK hP rfl (q0 := 0) rfl, fun U hU hW => ⟨rfl, by rw [hU]; exact hPc, va_K.moved hW.alike hKc, nw_warm hW hnw, by rw [hU]; exact tw_warm hW htw⟩⟩ rfl hl.1 (Nat.le_of_ble_eq_true rfl) d_L_output_4 ⟨Nat.le_of_ble_eq_true rfl, Nat.le_of_ble_eq_true rfl⟩ htab (by decide) (by decide) (hw _ k_670) (fun x9 H hz9 hk9 => ?_)
  have hP : va_P (dC, dI) classes [(h0, .inr (0, [.ref a0, .ref a1, .ref a2, .ref a3, .ref a4, .int 0, .int sf, .int sg, .int n1, .int n2, .int n3])), (a4, .inr (5, [.ref q, .int 0]))] H := hP.kept (fun k q hq => hk9 _ (hP k q hq).lt)
  have hS : va_S A s.heap H [] := ⟨hz9, fun q h1 _ => hk9 q h1, fun _ h => by cases h⟩
  refine W.widen (k := 1) (n := 6) (Nat.le_of_ble_eq_true rfl) (Nat.le_of_ble_eq_true rfl) ?_
  refine W.eq (g2 := F0 m 12 ls [.ref x9]) rfl ?_
  refine lv_astore_n hx hb d_L_output_12 rfl hl (by decide) rfl (fun ls hl => ?_)
  have hl : lv_has ls 4 [(3, .ref x9), (0, .ref h0), (1, .int x), (2, .ref q9)] := hl
  refine lv_iconst (v := 1) hx hb d_L_output_13 (by decide) ?_
  have hP9 := hP.sub (ws' := []) [] rfl
  have hD9 := hD.sub (ws' := []) [] (by decide) rfl
  have hK9 := hK.sub (tys' := []) [] rfl
  refine W.widen (k := 1) (n := 6) (Nat.le_of_ble_eq_true rfl) (Nat.le_of_ble_eq_true rfl) ?_
  exact W.iret (v := 1) hx hb hr (fun t ht hW => ⟨⟨_, (), rfl, rfl, by rw [ht]; exact hP9, va_K.moved hW.alike hK9, hD9⟩, hS.F ht⟩) hS.2.2 d_L_output_14

set_option maxHeartbeats 4000000 in
set_option maxRecDepth 100000 in
theorem c_L_perfect (l : Launch) (hst : l.stackTraces = false) (dC : Nat → ClassId) (dI : Nat → Nat → Nat) (h0 a0 a1 a2 a3 a4 : Nat) (sf sg n1 n2 n3 : Int32) (er eo ew q : Nat) (x : Int32) (q9 : Nat) (sz : Nat) : Met l y_L_perfect (tbx (Cond.codeWith y_L_perfect b_L_perfect 4 (some .int) [(0, 9, 12, 20)])) ({ frames := 7, cells := 1, slots := 6, locals := 111 }) (va_Pc [.ref h0, .int x, .ref q9] (fun U => U.heap.size = sz ∧ va_P (dC, dI) classes [(h0, .inr (0, [.ref a0, .ref a1, .ref a2, .ref a3, .ref a4, .int 0, .int sf, .int sg, .int n1, .int n2, .int n3])), (a2, .inr (3, [.ref er, .int 0, .int 0, .int 0, .int 0, .int 0, .int 0, .ref eo, .ref ew, .int 0])), (eo, .inr (5, [.ref q, .int 0]))] U.heap ∧ va_K (dC, dI) classes [] U ∧ va_D (fun _ => True) [(h0, .inr (0, [.ref a0, .ref a1, .ref a2, .ref a3, .ref a4, .int 0, .int sf, .int sg, .int n1, .int n2, .int n3])), (a2, .inr (3, [.ref er, .int 0, .int 0, .int 0, .int 0, .int 0, .int 0, .ref eo, .ref ew, .int 0])), (eo, .inr (5, [.ref q, .int 0]))] ∧ nw U ∧ tw (fun _ => False) U U.heap)) (va_Qi (fun (r : Int32) (u9 : Unit) => match u9 with | _ => r = 1) (fun (u9 : Unit) t => match u9 with | _ => va_P (dC, dI) classes [] t.heap ∧ va_K (dC, dI) classes [] t ∧ va_D (va_A [(h0, .inr (0, [.ref a0, .ref a1, .ref a2, .ref a3, .ref a4, .int 0, .int sf, .int sg, .int n1, .int n2, .int n3])), (a2, .inr (3, [.ref er, .int 0, .int 0, .int 0, .int 0, .int 0, .int 0, .ref eo, .ref ew, .int 0])), (eo, .inr (5, [.ref q, .int 0]))] sz) []) (va_A [(h0, .inr (0, [.ref a0, .ref a1, .ref a2, .ref a3, .ref a4, .int 0, .int sf, .int sg, .int n1, .int n2, .int n3])), (a2, .inr (3, [.ref er, .int 0, .int 0, .int 0, .int 0, .int 0, .int 0, .ref eo, .ref ew, .int 0])), (eo, .inr (5, [.ref q, .int 0]))] sz)) 1 6 (va_A [(h0, .inr (0, [.ref a0, .ref a1, .ref a2, .ref a3, .ref a4, .int 0, .int sf, .int sg, .int n1, .int n2, .int n3])), (a2, .inr (3, [.ref er, .int 0, .int 0, .int 0, .int 0, .int 0, .int 0, .ref eo, .ref ew, .int 0])), (eo, .inr (5, [.ref q, .int 0]))] sz) := by
  refine va_MetW (cc := b_L_perfect) (maxL := 4) (ret := (some .int)) (hh := [(0, 9, 12, 20)]) (by decide) rfl ?_
  intro p e s m args below meth c s₁ B hml hv
  obtain ⟨rfl, hsz, hP, hK, hD0, hnw, htw⟩ := hv
  have hx := B.exec
  have hb := B.bytes
  have hr := B.returns
  have hts := atoms_spec (ws := (tbx (Cond.codeWith y_L_perfect b_L_perfect 4 (some .int) [(0, 9, 12, 20)]))) B.pre
  have hw : ∀ z9 ∈ tb, z9.before ([.ref h0, .int x, .ref q9] : List Value).toArray s = true := fun z9 h => hts z9 (List.mem_cons_of_mem _ h)
  have hown : s.vm.findClass "VotedTripleLaw" = some m.cls := findClass_of_methodNamed B.named
  have hlocks := B.notSynchronized
  obtain ⟨tr9, htab⟩ := tab_body B (hts _ List.mem_cons_self)
  subst hsz
  have hD := hD0.self (sz := s.heap.size)
  generalize hAe : va_A [(h0, .inr (0, [.ref a0, .ref a1, .ref a2, .ref a3, .ref a4, .int 0, .int sf, .int sg, .int n1, .int n2, .int n3])), (a2, .inr (3, [.ref er, .int 0, .int 0, .int 0, .int 0, .int 0, .int 0, .ref eo, .ref ew, .int 0])), (eo, .inr (5, [.ref q, .int 0]))] s.heap.size = A at hD ⊢
  have hA : ∀ q : Nat, s.heap.size ≤ q → A q := fun q h => by rw [← hAe]; exact Or.inr h
  have hS : va_S A s.heap s.heap [] := va_S.rf
  have hl := lv_entry ([.ref h0, .int x, .ref q9]) (n := 4) (Nat.le_of_ble_eq_true rfl)
  rw [lg_entry_eq]
  generalize (lg_sl ([.ref h0, .int x, .ref q9]) ++ List.replicate (4 - (lg_sl ([.ref h0, .int x, .ref q9])).length) Slot.unset).toArray = ls at hl ⊢
  have hl : lv_has ls 4 [(0, .ref h0), (1, .int x), (2, .ref q9)] := hl
  refine lv_aload_n hx hb d_L_perfect_0 rfl (lv_at hl 2 rfl) ?_
  refine lv_iconst (v := 0) hx hb d_L_perfect_1 (by decide) ?_
  refine lv_aload_n hx hb d_L_perfect_2 rfl (lv_at hl 0 rfl) ?_
  refine lv_iload_n hx hb d_L_perfect_3 rfl (lv_at hl 1 rfl) ?_
  have hPc := hP.sub (ws' := [(h0, .inr (0, [.ref a0, .ref a1, .ref a2, .ref a3, .ref a4, .int 0, .int sf, .int sg, .int n1, .int n2, .int n3])), (a2, .inr (3, [.ref er, .int 0, .int 0, .int 0, .int 0, .int 0, .int 0, .ref eo, .ref ew, .int 0])), (eo, .inr (5, [.ref q, .int 0]))]) [0, 1, 2] rfl
  have hKc := hK.sub (tys' := []) [] rfl
  refine tx_callV (C := "VotedTriple") (As := [.int x]) (rest := [.int 0, .ref q9]) ⟨hx, hb, hml, hown, hw⟩ (c_T_perfect_0 l hst dC dI h0 a0 a1 a2 a3 a4 sf sg n1 n2 n3 er eo ew q x) (cwV 1 hw (gdV (k_701) (k_698) (k_699) (k_700) (k_1)) rfl rfl rfl (by decide +kernel) ⟨Nat.le_of_ble_eq_true rfl, Nat.le_of_ble_eq_true rfl⟩) ⟨fun a U g mk q => ⟨q.1, q.2.1, va_K.moved (u := U) (U := U.calling g mk a) (Vm.Alike.refl U.vm) q.2.2.1, nw_vm (u := U) (U := U.calling g mk a) rfl q.2.2.2.1, tw_vm (u := U) (U := U.calling g mk a) rfl q.2.2.2.2⟩, va_recv hK hP rfl (q0 := 0) rfl, fun U hU hW => ⟨rfl, by rw [hU]; exact hPc, va_K.moved hW.alike hKc, nw_warm hW hnw, by rw [hU]; exact tw_warm hW htw⟩⟩ rfl hl.1 (Nat.le_of_ble_eq_true rfl) d_L_perfect_4 ⟨Nat.le_of_ble_eq_true rfl, Nat.le_of_ble_eq_true rfl⟩ htab (by decide) (by decide) (hw _ k_670) (fun x9 H hz9 hk9 => ?_)
  have hP : va_P (dC, dI) classes [(h0, .inr (0, [.ref a0, .ref a1, .ref a2, .ref a3, .ref a4, .int 0, .int sf, .int sg, .int n1, .int n2, .int n3])), (a2, .inr (3, [.ref er, .int 0, .int 0, .int 0, .int 0, .int 0, .int 0, .ref eo, .ref ew, .int 0])), (eo, .inr (5, [.ref q, .int 0]))] H := hP.kept (fun k q hq => hk9 _ (hP k q hq).lt)
  have hS : va_S A s.heap H [] := ⟨hz9, fun q h1 _ => hk9 q h1, fun _ h => by cases h⟩
  refine W.widen (k := 1) (n := 6) (Nat.le_of_ble_eq_true rfl) (Nat.le_of_ble_eq_true rfl) ?_
  refine W.eq (g2 := F0 m 12 ls [.ref x9]) rfl ?_
  refine lv_astore_n hx hb d_L_perfect_12 rfl hl (by decide) rfl (fun ls hl => ?_)
  have hl : lv_has ls 4 [(3, .ref x9), (0, .ref h0), (1, .int x), (2, .ref q9)] := hl
  refine lv_iconst (v := 1) hx hb d_L_perfect_13 (by decide) ?_
  have hP9 := hP.sub (ws' := []) [] rfl
  have hD9 := hD.sub (ws' := []) [] (by decide) rfl
  have hK9 := hK.sub (tys' := []) [] rfl
  refine W.widen (k := 1) (n := 6) (Nat.le_of_ble_eq_true rfl) (Nat.le_of_ble_eq_true rfl) ?_
  exact W.iret (v := 1) hx hb hr (fun t ht hW => ⟨⟨_, (), rfl, rfl, by rw [ht]; exact hP9, va_K.moved hW.alike hK9, hD9⟩, hS.F ht⟩) hS.2.2 d_L_perfect_14

set_option maxHeartbeats 4000000 in
set_option maxRecDepth 100000 in
theorem c_L_flip (l : Launch) (hst : l.stackTraces = false) (dC : Nat → ClassId) (dI : Nat → Nat → Nat) (h0 a0 a1 a2 a3 a4 : Nat) (sf sg n1 n2 n3 : Int32) (x y z u : Int32) (sz : Nat) : Met l y_L_flip (tbx (Cond.codeWith y_L_flip b_L_flip 6 (some .int) [(0, 9, 12, 20)])) ({ frames := 7, cells := 1, slots := 6, locals := 115 }) (va_Pc [.ref h0, .int x, .int y, .int z, .int u] (fun U => U.heap.size = sz ∧ va_P (dC, dI) classes [(h0, .inr (0, [.ref a0, .ref a1, .ref a2, .ref a3, .ref a4, .int 0, .int sf, .int sg, .int n1, .int n2, .int n3]))] U.heap ∧ va_K (dC, dI) classes [] U ∧ va_D (fun _ => True) [(h0, .inr (0, [.ref a0, .ref a1, .ref a2, .ref a3, .ref a4, .int 0, .int sf, .int sg, .int n1, .int n2, .int n3]))] ∧ nw U ∧ tw (fun _ => False) U U.heap)) (va_Qi (fun (r : Int32) (u9 : Unit) => match u9 with | _ => r = 1) (fun (u9 : Unit) t => match u9 with | _ => va_P (dC, dI) classes [] t.heap ∧ va_K (dC, dI) classes [] t ∧ va_D (va_A [(h0, .inr (0, [.ref a0, .ref a1, .ref a2, .ref a3, .ref a4, .int 0, .int sf, .int sg, .int n1, .int n2, .int n3]))] sz) []) (va_A [(h0, .inr (0, [.ref a0, .ref a1, .ref a2, .ref a3, .ref a4, .int 0, .int sf, .int sg, .int n1, .int n2, .int n3]))] sz)) 1 6 (va_A [(h0, .inr (0, [.ref a0, .ref a1, .ref a2, .ref a3, .ref a4, .int 0, .int sf, .int sg, .int n1, .int n2, .int n3]))] sz) := by
  refine va_MetW (cc := b_L_flip) (maxL := 6) (ret := (some .int)) (hh := [(0, 9, 12, 20)]) (by decide) rfl ?_
  intro p e s m args below meth c s₁ B hml hv
  obtain ⟨rfl, hsz, hP, hK, hD0, hnw, htw⟩ := hv
  have hx := B.exec
  have hb := B.bytes
  have hr := B.returns
  have hts := atoms_spec (ws := (tbx (Cond.codeWith y_L_flip b_L_flip 6 (some .int) [(0, 9, 12, 20)]))) B.pre
  have hw : ∀ z9 ∈ tb, z9.before ([.ref h0, .int x, .int y, .int z, .int u] : List Value).toArray s = true := fun z9 h => hts z9 (List.mem_cons_of_mem _ h)
  have hown : s.vm.findClass "VotedTripleLaw" = some m.cls := findClass_of_methodNamed B.named
  have hlocks := B.notSynchronized
  obtain ⟨tr9, htab⟩ := tab_body B (hts _ List.mem_cons_self)
  subst hsz
  have hD := hD0.self (sz := s.heap.size)
  generalize hAe : va_A [(h0, .inr (0, [.ref a0, .ref a1, .ref a2, .ref a3, .ref a4, .int 0, .int sf, .int sg, .int n1, .int n2, .int n3]))] s.heap.size = A at hD ⊢
  have hA : ∀ q : Nat, s.heap.size ≤ q → A q := fun q h => by rw [← hAe]; exact Or.inr h
  have hS : va_S A s.heap s.heap [] := va_S.rf
  have hl := lv_entry ([.ref h0, .int x, .int y, .int z, .int u]) (n := 6) (Nat.le_of_ble_eq_true rfl)
  rw [lg_entry_eq]
  generalize (lg_sl ([.ref h0, .int x, .int y, .int z, .int u]) ++ List.replicate (6 - (lg_sl ([.ref h0, .int x, .int y, .int z, .int u])).length) Slot.unset).toArray = ls at hl ⊢
  have hl : lv_has ls 6 [(0, .ref h0), (1, .int x), (2, .int y), (3, .int z), (4, .int u)] := hl
  refine lv_aload_n hx hb d_L_flip_0 rfl (lv_at hl 0 rfl) ?_
  refine lv_iload_n hx hb d_L_flip_1 rfl (lv_at hl 1 rfl) ?_
  refine lv_iload_n hx hb d_L_flip_2 rfl (lv_at hl 2 rfl) ?_
  refine lv_iload_n hx hb d_L_flip_3 rfl (lv_at hl 3 rfl) ?_
  refine lv_iload hx hb d_L_flip_4 (lv_at hl 4 rfl) ?_
  have hPc := hP.sub (ws' := [(h0, .inr (0, [.ref a0, .ref a1, .ref a2, .ref a3, .ref a4, .int 0, .int sf, .int sg, .int n1, .int n2, .int n3]))]) [0] rfl
  have hKc := hK.sub (tys' := []) [] rfl
  refine tx_callV (C := "VotedTriple") (As := [.int x, .int y, .int z, .int u]) (rest := []) ⟨hx, hb, hml, hown, hw⟩ (c_T_flip_0 l hst dC dI h0 a0 a1 a2 a3 a4 sf sg n1 n2 n3 x y z u) (cwV 4 hw (gdV (k_709) (k_706) (k_707) (k_708) (k_1)) rfl rfl rfl (by decide +kernel) ⟨Nat.le_of_ble_eq_true rfl, Nat.le_of_ble_eq_true rfl⟩) ⟨fun a U g mk q => ⟨q.1, q.2.1, va_K.moved (u := U) (U := U.calling g mk a) (Vm.Alike.refl U.vm) q.2.2.1, nw_vm (u := U) (U := U.calling g mk a) rfl q.2.2.2.1, tw_vm (u := U) (U := U.calling g mk a) rfl q.2.2.2.2⟩, va_recv hK hP rfl (q0 := 0) rfl, fun U hU hW => ⟨rfl, by rw [hU]; exact hPc, va_K.moved hW.alike hKc, nw_warm hW hnw, by rw [hU]; exact tw_warm hW htw⟩⟩ rfl hl.1 (Nat.le_of_ble_eq_true rfl) d_L_flip_6 ⟨Nat.le_of_ble_eq_true rfl, Nat.le_of_ble_eq_true rfl⟩ htab (by decide) (by decide) (hw _ k_670) (fun x9 H hz9 hk9 => ?_)
  have hP : va_P (dC, dI) classes [(h0, .inr (0, [.ref a0, .ref a1, .ref a2, .ref a3, .ref a4, .int 0, .int sf, .int sg, .int n1, .int n2, .int n3]))] H := hP.kept (fun k q hq => hk9 _ (hP k q hq).lt)
  have hS : va_S A s.heap H [] := ⟨hz9, fun q h1 _ => hk9 q h1, fun _ h => by cases h⟩
  refine W.widen (k := 1) (n := 6) (Nat.le_of_ble_eq_true rfl) (Nat.le_of_ble_eq_true rfl) ?_
  refine W.eq (g2 := F0 m 12 ls [.ref x9]) rfl ?_
  refine lv_astore hx hb d_L_flip_12 hl (by decide) rfl (fun ls hl => ?_)
  have hl : lv_has ls 6 [(5, .ref x9), (0, .ref h0), (1, .int x), (2, .int y), (3, .int z), (4, .int u)] := hl
  refine lv_iconst (v := 1) hx hb d_L_flip_14 (by decide) ?_
  have hP9 := hP.sub (ws' := []) [] rfl
  have hD9 := hD.sub (ws' := []) [] (by decide) rfl
  have hK9 := hK.sub (tys' := []) [] rfl
  refine W.widen (k := 1) (n := 6) (Nat.le_of_ble_eq_true rfl) (Nat.le_of_ble_eq_true rfl) ?_
  exact W.iret (v := 1) hx hb hr (fun t ht hW => ⟨⟨_, (), rfl, rfl, by rw [ht]; exact hP9, va_K.moved hW.alike hK9, hD9⟩, hS.F ht⟩) hS.2.2 d_L_flip_15
