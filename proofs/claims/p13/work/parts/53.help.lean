/-! methods with handlers: their words, their calls -/
abbrev tbx (w : Cond) : List Cond := w :: tb
theorem gdx {w : Cond} (hc : w ∈ tb) : GoodIn tb (tbx w) := fun z h => (List.mem_cons.mp h).elim (fun e => e ▸ ⟨hc, tb_good hc⟩) (fun h => ⟨h, tb_good h⟩)
theorem tab_of {t : List ExceptionTableEntry} {a b c d : Nat} {hh : List (Nat × Nat × Nat × Nat)} (h : t.map (fun h => (h.startPc, h.endPc, h.handlerPc, h.catchType)) = (a, b, c, d) :: hh) : ∃ r, t = ⟨a, b, c, d⟩ :: r := by
  cases t with
  | nil => cases h
  | cons x r =>
    obtain ⟨x1, x2, x3, x4⟩ := x
    simp only [List.map_cons, List.cons.injEq, Prod.mk.injEq] at h
    obtain ⟨⟨rfl, rfl, rfl, rfl⟩, -⟩ := h
    exact ⟨r, rfl⟩
/-- the table of handlers of a method whose words begin with its 'codeWith' -/
theorem tab_body {p : Program} {l : Launch} {y : MethodName} {S : Spec} {cc : ByteArray} {n : Nat} {ret : Option FieldType} {e : Env} {s : State} {m : MethodId} {args : Array Value} {below : List Frame} {meth : Method} {c : Code} {s₁ : State} {hh : List (Nat × Nat × Nat × Nat)} {a b d f : Nat}
    (B : BodyLoose p l y S cc n ret e s m args below meth c s₁) (h : (Cond.codeWith y cc n ret ((a, b, d, f) :: hh)).before args s = true) : ∃ r, c.exceptionTable.toList = ⟨a, b, d, f⟩ :: r := by
  obtain ⟨m', meth', c', h1, h2, h3, -, -, h4, -⟩ := Cond.codeWith_spec h
  cases B.named.symm.trans h1
  cases B.method.symm.trans h2
  cases (Stand.of_body B).code.symm.trans h3
  exact tab_of h4
theorem tab_of2 {t : List ExceptionTableEntry} {a b c d a2 b2 c2 d2 : Nat} {hh : List (Nat × Nat × Nat × Nat)} (h : t.map (fun h => (h.startPc, h.endPc, h.handlerPc, h.catchType)) = (a, b, c, d) :: (a2, b2, c2, d2) :: hh) : ∃ r, t = ⟨a, b, c, d⟩ :: ⟨a2, b2, c2, d2⟩ :: r := by
  cases t with
  | nil => cases h
  | cons x r =>
    obtain ⟨x1, x2, x3, x4⟩ := x
    simp only [List.map_cons, List.cons.injEq, Prod.mk.injEq] at h
    obtain ⟨⟨rfl, rfl, rfl, rfl⟩, h2⟩ := h
    obtain ⟨r2, rfl⟩ := tab_of h2
    exact ⟨r2, rfl⟩
theorem tab_body2 {p : Program} {l : Launch} {y : MethodName} {S : Spec} {cc : ByteArray} {n : Nat} {ret : Option FieldType} {e : Env} {s : State} {m : MethodId} {args : Array Value} {below : List Frame} {meth : Method} {c : Code} {s₁ : State} {hh : List (Nat × Nat × Nat × Nat)} {a b d f a2 b2 d2 f2 : Nat}
    (B : BodyLoose p l y S cc n ret e s m args below meth c s₁) (h : (Cond.codeWith y cc n ret ((a, b, d, f) :: (a2, b2, d2, f2) :: hh)).before args s = true) : ∃ r, c.exceptionTable.toList = ⟨a, b, d, f⟩ :: ⟨a2, b2, d2, f2⟩ :: r := by
  obtain ⟨m', meth', c', h1, h2, h3, -, -, h4, -⟩ := Cond.codeWith_spec h
  cases B.named.symm.trans h1
  cases B.method.symm.trans h2
  cases (Stand.of_body B).code.symm.trans h3
  exact tab_of2 h4
section TZ
variable {p : Program} {l : Launch} {e : Env} {R : Room} {s : State} {m : MethodId} {args : Array Value} {below : List Frame} {meth : Method} {c : Code} {H : Heap} {locs : List Loc} {cells slots : Nat}
/-- invokestatic of a method that has handlers -/
theorem tx_runS {y : MethodName} {bytes cc : ByteArray} {maxL nL mc ms n index : Nat} {ret : Option FieldType} {ws Ts : List Cond} {rm : Room} {Pc : Array Value → State → Prop} {Qc : Array Value → State → Outcome → State → Prop} {free : Addr → Prop} {own : String} {As rest : List Value} {g : JFrame} {hh : List (Nat × Nat × Nat × Nat)}
    (S : CallFix p m c cc nL s args Ts own) (hM : Met l y ws rm Pc Qc mc ms free) (hG : GoodIn Ts ws) (hcw : Cond.codeWith y bytes maxL ret hh ∈ ws) (hrc : rm.cells = mc) (hrs : rm.slots = ms) (hR : rm.frames + 1 ≤ R.frames ∧ 8 + (maxL + 11) + rm.locals ≤ R.locals)
    (hini : (Cond.initialized y.cls).before args s = true) (hl : (Cond.methodLink own index y).before args s = true) (hst : (Cond.static y).before args s = true)
    (hd : y.cls ≠ "java/lang/invoke/MethodHandle" ∧ y.cls ≠ "java/lang/invoke/VarHandle" ∧ (parseMethodDescriptor y.desc).map (fun d => d.parameters.length) = some n) (hp : PreS s H Pc As)
    (hg : g.method = m) (hn : As.length = n) (hsize : g.locals.size = nL) (hstack : g.stack = As.reverse ++ rest) (hW : 2 * g.monitorRoom + (rest.map fun v => v.category).sum ≤ 8) (hdg : decode cc g.pc = .ok (.invokestatic index, 3)) (hf : cells + mc ≤ R.cells ∧ slots + ms ≤ R.slots) :
    va_Run p l e R s m args below meth c H locs cells slots mc ms g rest (Qc As.toArray) (free) := by
  obtain ⟨hx, hb, hml, ho, ht⟩ := S
  have hws := pay_in ht hG
  replace hK : Back l R p e below s args y 3 8 (PreOf R mc ms Pc) (PostOf Qc mc ms free) := va_backW hM hp.1 hrc hrs hR.1 hR.2 hws hcw (fun a' U hW => word_at hW (Or.inl (by first | rfl | simp [Cond.onTables, Cond.keeps, Cond.steady])) hini)
  intro T hT X
  obtain ⟨mk, methM, cM, hnamed, hmethM, -, -, -, -, -, -, hsigM⟩ := Cond.codeWith_spec (ht _ (hG _ hcw).1)
  have hstatic : methM.isStatic = true := Cond.static_spec hnamed hmethM hst
  obtain ⟨kP, hkP, -⟩ := className_of_methodNamed hnamed
  have hinitP : kP.init = .initialized := Cond.initialized_spec (findClass_of_methodNamed hnamed) hkP hini
  have hlen : As.length = methM.sig.parameters.length := by
    have h2 := hd.2.2
    rw [hsigM] at h2
    exact hn.trans (Option.some.inj h2).symm
  obtain ⟨vm₁, X₁, hstep₁⟩ := X.invokestatic hx ho hl hnamed hmethM hstatic hkP hinitP ⟨hd.1, hd.2.1⟩ (g := g) hg (argsL := As) (rest := rest) hlen hstack (by rw [hb]; exact hdg)
  obtain ⟨v, ⟨U', l2, c2, s2⟩, X', ⟨g', mk', t, L, e1, e2, hq, h1, hL, h2, h3⟩, st⟩ := hK m meth c ⟨T.setVm vm₁, locs, cells, slots⟩ { g with stack := rest } (.invokestatic index) mk As.toArray X₁ hg (hsize.trans hml.symm) (by rw [hb]; exact hdg) hW (X₁.named hnamed) ⟨hf.1, hf.2, hp.2 (T.setVm vm₁) hT X₁.warmed⟩
  dsimp only [Pt.U, Pt.locs, Pt.cells, Pt.slots] at X' e1 e2 h1 h2 h3 st
  subst h1; subst h2; subst h3
  exact ⟨v, (T.setVm vm₁).calling g' mk' As.toArray, t, U', L, hT, X', hL, e1, e2, hq, fun target h => hstep₁ _ fun acts => by rw [doInvoke_state]; exact st.trans h⟩
end TZ

set_option maxHeartbeats 4000000 in
set_option maxRecDepth 100000 in
theorem c_L_step_r (l : Launch) (dC : Nat → ClassId) (dI : Nat → Nat → Nat) (h0 : Nat) (p9 : Nat) (a9 : Nat) (e9 : Nat) (n9 : Nat) (o9 : Nat) (ca : ClassId) (da : Nat → Nat) (ra : Nat → Nat) (ka : Nat → Nat) (cr : Nat → ClassId) (ck : Nat → ClassId) (q9 : Nat) (cp : ClassId) (nw9 : Nat) (cN : ClassId) (ok9 : Nat) (cO : ClassId) (er9 : Nat) (ce : ClassId) (eo9 : Nat) (ew9 : Nat) (cw : ClassId) (ek9 : Nat) (cq : ClassId) (uT : Nat → Int32) (F : Nat → Nat → Int32) (g : Nat → Nat → Int32) (v : Nat → Nat → Int32) (cn : Nat) (f : Nat → Int32) (kN : Nat) (wN : Nat → Int32) (ko : Nat) (kp : Nat → Int32) (Z : Nat → Int32) (eg : Nat → Int32) (ew : Nat → Int32) (ke : Nat) (pe : Nat → Int32) (sn : Nat) (xN : Nat) (x : Int32) (hF : f3 F) (hg : g3 g) (hc : prI cn f) (hpos : 0 < cn) (hkN : kN ≤ 64) (hwN : wdI 64 wN) (he : eI Z eg ew) (hsn : uT 8 = nI sn) (hko : ko ≤ sn) (hke : ke ≤ sn) (hst5 : ¬ uT 5 = 0) (hxN : x = nI xN) (hx1 : 1 ≤ xN) (hx2 : xN ≤ 2000) (hs2 : sn + 2000 < 2 ^ 30) (t9 : Nat) (ov : Nat) (co : ClassId) (lo : Nat → Int64) (sz : Nat) : Met l y_L_step (tbx (Cond.codeWith y_L_step b_L_step 4 (some .int) [(0, 9, 12, 13), (0, 9, 15, 15)])) ({ frames := 8, cells := 0, slots := 0, locals := 176 }) (va_Pc [.ref h0, .int x, .ref ov] (fun U => U.heap.size = sz ∧ va_P (dC, dI) classes [(h0, .inr (0, oT uT p9 a9 e9 n9 o9)), (a9, .inl (ca, 3, .inr (.inr (.inr (.inr (mo da)))))), (da 0, .inr (2, oD (F 0) (ra 0) (ka 0))), (ra 0, .inl (cr 0, 8, .inl (g 0))), (ka 0, .inl (ck 0, 32, .inl (v 0))), (da 1, .inr (2, oD (F 1) (ra 1) (ka 1))), (ra 1, .inl (cr 1, 8, .inl (g 1))), (ka 1, .inl (ck 1, 32, .inl (v 1))), (da 2, .inr (2, oD (F 2) (ra 2) (ka 2))), (ra 2, .inl (cr 2, 8, .inl (g 2))), (ka 2, .inl (ck 2, 32, .inl (v 2))), (p9, .inr (1, [.ref q9, .int (nI cn)])), (q9, .inl (cp, 64, .inl f)), (n9, .inr (4, [.ref nw9, .int (nI kN)])), (nw9, .inl (cN, 64, .inl wN)), (o9, .inr (5, [.ref ok9, .int (nI ko)])), (ok9, .inl (cO, 300, .inl kp)), (e9, .inr (3, oE Z er9 eo9 ew9)), (er9, .inl (ce, 8, .inl eg)), (ew9, .inl (cw, 32, .inl ew)), (eo9, .inr (5, [.ref ek9, .int (nI ke)])), (ek9, .inl (cq, 300, .inl pe)), (ov, .inl (co, 1, .inr (.inl lo)))] U.heap ∧ va_K (dC, dI) classes [(ca, .object "VotedTriple$VotedModule"), (cr 0, .int), (ck 0, .int), (cr 1, .int), (ck 1, .int), (cr 2, .int), (ck 2, .int), (cp, .int), (cN, .int), (cO, .int), (ce, .int), (cw, .int), (cq, .int), (co, .long)] U ∧ va_D (fun _ => True) [(h0, .inr (0, oT uT p9 a9 e9 n9 o9)), (a9, .inl (ca, 3, .inr (.inr (.inr (.inr (mo da)))))), (da 0, .inr (2, oD (F 0) (ra 0) (ka 0))), (ra 0, .inl (cr 0, 8, .inl (g 0))), (ka 0, .inl (ck 0, 32, .inl (v 0))), (da 1, .inr (2, oD (F 1) (ra 1) (ka 1))), (ra 1, .inl (cr 1, 8, .inl (g 1))), (ka 1, .inl (ck 1, 32, .inl (v 1))), (da 2, .inr (2, oD (F 2) (ra 2) (ka 2))), (ra 2, .inl (cr 2, 8, .inl (g 2))), (ka 2, .inl (ck 2, 32, .inl (v 2))), (p9, .inr (1, [.ref q9, .int (nI cn)])), (q9, .inl (cp, 64, .inl f)), (n9, .inr (4, [.ref nw9, .int (nI kN)])), (nw9, .inl (cN, 64, .inl wN)), (o9, .inr (5, [.ref ok9, .int (nI ko)])), (ok9, .inl (cO, 300, .inl kp)), (e9, .inr (3, oE Z er9 eo9 ew9)), (er9, .inl (ce, 8, .inl eg)), (ew9, .inl (cw, 32, .inl ew)), (eo9, .inr (5, [.ref ek9, .int (nI ke)])), (ek9, .inl (cq, 300, .inl pe)), (ov, .inl (co, 1, .inr (.inl lo)))] ∧ nw U ∧ cb t9 (va_A [(h0, .inr (0, oT uT p9 a9 e9 n9 o9)), (a9, .inl (ca, 3, .inr (.inr (.inr (.inr (mo da)))))), (da 0, .inr (2, oD (F 0) (ra 0) (ka 0))), (ra 0, .inl (cr 0, 8, .inl (g 0))), (ka 0, .inl (ck 0, 32, .inl (v 0))), (da 1, .inr (2, oD (F 1) (ra 1) (ka 1))), (ra 1, .inl (cr 1, 8, .inl (g 1))), (ka 1, .inl (ck 1, 32, .inl (v 1))), (da 2, .inr (2, oD (F 2) (ra 2) (ka 2))), (ra 2, .inl (cr 2, 8, .inl (g 2))), (ka 2, .inl (ck 2, 32, .inl (v 2))), (p9, .inr (1, [.ref q9, .int (nI cn)])), (q9, .inl (cp, 64, .inl f)), (n9, .inr (4, [.ref nw9, .int (nI kN)])), (nw9, .inl (cN, 64, .inl wN)), (o9, .inr (5, [.ref ok9, .int (nI ko)])), (ok9, .inl (cO, 300, .inl kp)), (e9, .inr (3, oE Z er9 eo9 ew9)), (er9, .inl (ce, 8, .inl eg)), (ew9, .inl (cw, 32, .inl ew)), (eo9, .inr (5, [.ref ek9, .int (nI ke)])), (ek9, .inl (cq, 300, .inl pe)), (ov, .inl (co, 1, .inr (.inl lo)))] sz) U U.heap)) (va_Qi (fun (r : Int32) (u9 : (Nat → Int32) × (Nat → Nat → Int32) × (Nat → Nat → Int32) × (Nat → Nat → Int32) × Nat × (Nat → Int32) × (Nat → Int32) × (Nat → Int32) × (Nat → Int32) × Nat × (Nat → Int32) × Nat × (Nat → Int64)) => match u9 with | (uT2, F2, g2, v2, ko2, kp2, Z2, eg2, ew2, ke2, pe2, sn2, lo2) => (r = 0 ∧ f3 F2 ∧ g3 g2 ∧ eI Z2 eg2 ew2 ∧ uT2 8 = nI sn2 ∧ ko2 ≤ sn2 ∧ ke2 ≤ sn2 ∧ uT2 5 = uT 5 ∧ sn2 ≤ sn + 2000) ∧ (uT2, F2, g2, v2, ko2, kp2, Z2, eg2, ew2, ke2, pe2, sn2, lo2) = s_L_step_r uT F g v cn f kN wN ko kp Z eg ew ke pe sn xN lo) (fun (u9 : (Nat → Int32) × (Nat → Nat → Int32) × (Nat → Nat → Int32) × (Nat → Nat → Int32) × Nat × (Nat → Int32) × (Nat → Int32) × (Nat → Int32) × (Nat → Int32) × Nat × (Nat → Int32) × Nat × (Nat → Int64)) t => match u9 with | (uT2, F2, g2, v2, ko2, kp2, Z2, eg2, ew2, ke2, pe2, sn2, lo2) => va_P (dC, dI) classes [(h0, .inr (0, oT uT2 p9 a9 e9 n9 o9)), (a9, .inl (ca, 3, .inr (.inr (.inr (.inr (mo da)))))), (da 0, .inr (2, oD (F2 0) (ra 0) (ka 0))), (ra 0, .inl (cr 0, 8, .inl (g2 0))), (ka 0, .inl (ck 0, 32, .inl (v2 0))), (da 1, .inr (2, oD (F2 1) (ra 1) (ka 1))), (ra 1, .inl (cr 1, 8, .inl (g2 1))), (ka 1, .inl (ck 1, 32, .inl (v2 1))), (da 2, .inr (2, oD (F2 2) (ra 2) (ka 2))), (ra 2, .inl (cr 2, 8, .inl (g2 2))), (ka 2, .inl (ck 2, 32, .inl (v2 2))), (p9, .inr (1, [.ref q9, .int (nI cn)])), (q9, .inl (cp, 64, .inl f)), (n9, .inr (4, [.ref nw9, .int (nI kN)])), (nw9, .inl (cN, 64, .inl wN)), (o9, .inr (5, [.ref ok9, .int (nI ko2)])), (ok9, .inl (cO, 300, .inl kp2)), (e9, .inr (3, oE Z2 er9 eo9 ew9)), (er9, .inl (ce, 8, .inl eg2)), (ew9, .inl (cw, 32, .inl ew2)), (eo9, .inr (5, [.ref ek9, .int (nI ke2)])), (ek9, .inl (cq, 300, .inl pe2)), (ov, .inl (co, 1, .inr (.inl lo2)))] t.heap ∧ va_K (dC, dI) classes [(ca, .object "VotedTriple$VotedModule"), (cr 0, .int), (ck 0, .int), (cr 1, .int), (ck 1, .int), (cr 2, .int), (ck 2, .int), (cp, .int), (cN, .int), (cO, .int), (ce, .int), (cw, .int), (cq, .int), (co, .long)] t ∧ va_D (va_A [(h0, .inr (0, oT uT p9 a9 e9 n9 o9)), (a9, .inl (ca, 3, .inr (.inr (.inr (.inr (mo da)))))), (da 0, .inr (2, oD (F 0) (ra 0) (ka 0))), (ra 0, .inl (cr 0, 8, .inl (g 0))), (ka 0, .inl (ck 0, 32, .inl (v 0))), (da 1, .inr (2, oD (F 1) (ra 1) (ka 1))), (ra 1, .inl (cr 1, 8, .inl (g 1))), (ka 1, .inl (ck 1, 32, .inl (v 1))), (da 2, .inr (2, oD (F 2) (ra 2) (ka 2))), (ra 2, .inl (cr 2, 8, .inl (g 2))), (ka 2, .inl (ck 2, 32, .inl (v 2))), (p9, .inr (1, [.ref q9, .int (nI cn)])), (q9, .inl (cp, 64, .inl f)), (n9, .inr (4, [.ref nw9, .int (nI kN)])), (nw9, .inl (cN, 64, .inl wN)), (o9, .inr (5, [.ref ok9, .int (nI ko)])), (ok9, .inl (cO, 300, .inl kp)), (e9, .inr (3, oE Z er9 eo9 ew9)), (er9, .inl (ce, 8, .inl eg)), (ew9, .inl (cw, 32, .inl ew)), (eo9, .inr (5, [.ref ek9, .int (nI ke)])), (ek9, .inl (cq, 300, .inl pe)), (ov, .inl (co, 1, .inr (.inl lo)))] sz) [(h0, .inr (0, oT uT2 p9 a9 e9 n9 o9)), (a9, .inl (ca, 3, .inr (.inr (.inr (.inr (mo da)))))), (da 0, .inr (2, oD (F2 0) (ra 0) (ka 0))), (ra 0, .inl (cr 0, 8, .inl (g2 0))), (ka 0, .inl (ck 0, 32, .inl (v2 0))), (da 1, .inr (2, oD (F2 1) (ra 1) (ka 1))), (ra 1, .inl (cr 1, 8, .inl (g2 1))), (ka 1, .inl (ck 1, 32, .inl (v2 1))), (da 2, .inr (2, oD (F2 2) (ra 2) (ka 2))), (ra 2, .inl (cr 2, 8, .inl (g2 2))), (ka 2, .inl (ck 2, 32, .inl (v2 2))), (p9, .inr (1, [.ref q9, .int (nI cn)])), (q9, .inl (cp, 64, .inl f)), (n9, .inr (4, [.ref nw9, .int (nI kN)])), (nw9, .inl (cN, 64, .inl wN)), (o9, .inr (5, [.ref ok9, .int (nI ko2)])), (ok9, .inl (cO, 300, .inl kp2)), (e9, .inr (3, oE Z2 er9 eo9 ew9)), (er9, .inl (ce, 8, .inl eg2)), (ew9, .inl (cw, 32, .inl ew2)), (eo9, .inr (5, [.ref ek9, .int (nI ke2)])), (ek9, .inl (cq, 300, .inl pe2)), (ov, .inl (co, 1, .inr (.inl lo2)))]) (va_A [(h0, .inr (0, oT uT p9 a9 e9 n9 o9)), (a9, .inl (ca, 3, .inr (.inr (.inr (.inr (mo da)))))), (da 0, .inr (2, oD (F 0) (ra 0) (ka 0))), (ra 0, .inl (cr 0, 8, .inl (g 0))), (ka 0, .inl (ck 0, 32, .inl (v 0))), (da 1, .inr (2, oD (F 1) (ra 1) (ka 1))), (ra 1, .inl (cr 1, 8, .inl (g 1))), (ka 1, .inl (ck 1, 32, .inl (v 1))), (da 2, .inr (2, oD (F 2) (ra 2) (ka 2))), (ra 2, .inl (cr 2, 8, .inl (g 2))), (ka 2, .inl (ck 2, 32, .inl (v 2))), (p9, .inr (1, [.ref q9, .int (nI cn)])), (q9, .inl (cp, 64, .inl f)), (n9, .inr (4, [.ref nw9, .int (nI kN)])), (nw9, .inl (cN, 64, .inl wN)), (o9, .inr (5, [.ref ok9, .int (nI ko)])), (ok9, .inl (cO, 300, .inl kp)), (e9, .inr (3, oE Z er9 eo9 ew9)), (er9, .inl (ce, 8, .inl eg)), (ew9, .inl (cw, 32, .inl ew)), (eo9, .inr (5, [.ref ek9, .int (nI ke)])), (ek9, .inl (cq, 300, .inl pe)), (ov, .inl (co, 1, .inr (.inl lo)))] sz)) 0 0 (va_A [(h0, .inr (0, oT uT p9 a9 e9 n9 o9)), (a9, .inl (ca, 3, .inr (.inr (.inr (.inr (mo da)))))), (da 0, .inr (2, oD (F 0) (ra 0) (ka 0))), (ra 0, .inl (cr 0, 8, .inl (g 0))), (ka 0, .inl (ck 0, 32, .inl (v 0))), (da 1, .inr (2, oD (F 1) (ra 1) (ka 1))), (ra 1, .inl (cr 1, 8, .inl (g 1))), (ka 1, .inl (ck 1, 32, .inl (v 1))), (da 2, .inr (2, oD (F 2) (ra 2) (ka 2))), (ra 2, .inl (cr 2, 8, .inl (g 2))), (ka 2, .inl (ck 2, 32, .inl (v 2))), (p9, .inr (1, [.ref q9, .int (nI cn)])), (q9, .inl (cp, 64, .inl f)), (n9, .inr (4, [.ref nw9, .int (nI kN)])), (nw9, .inl (cN, 64, .inl wN)), (o9, .inr (5, [.ref ok9, .int (nI ko)])), (ok9, .inl (cO, 300, .inl kp)), (e9, .inr (3, oE Z er9 eo9 ew9)), (er9, .inl (ce, 8, .inl eg)), (ew9, .inl (cw, 32, .inl ew)), (eo9, .inr (5, [.ref ek9, .int (nI ke)])), (ek9, .inl (cq, 300, .inl pe)), (ov, .inl (co, 1, .inr (.inl lo)))] sz) := by
  refine va_MetW (cc := b_L_step) (maxL := 4) (ret := (some .int)) (hh := [(0, 9, 12, 13), (0, 9, 15, 15)]) (by decide) rfl ?_
  intro p e s m args below meth c s₁ B hml hv
  obtain ⟨rfl, hsz, hP, hK, hD0, hnw, hcb⟩ := hv
  have hx := B.exec
  have hb := B.bytes
  have hr := B.returns
  have hts := atoms_spec (ws := (tbx (Cond.codeWith y_L_step b_L_step 4 (some .int) [(0, 9, 12, 13), (0, 9, 15, 15)]))) B.pre
  have hw : ∀ z9 ∈ tb, z9.before ([.ref h0, .int x, .ref ov] : List Value).toArray s = true := fun z9 h => hts z9 (List.mem_cons_of_mem _ h)
  have hown : s.vm.findClass "VotedTripleLaw" = some m.cls := findClass_of_methodNamed B.named
  have hlocks := B.notSynchronized
  obtain ⟨tr9, htab⟩ := tab_body B (hts _ List.mem_cons_self)
  subst hsz
  replace hD := hD0.self (sz := s.heap.size)
  generalize hAe : va_A [(h0, .inr (0, oT uT p9 a9 e9 n9 o9)), (a9, .inl (ca, 3, .inr (.inr (.inr (.inr (mo da)))))), (da 0, .inr (2, oD (F 0) (ra 0) (ka 0))), (ra 0, .inl (cr 0, 8, .inl (g 0))), (ka 0, .inl (ck 0, 32, .inl (v 0))), (da 1, .inr (2, oD (F 1) (ra 1) (ka 1))), (ra 1, .inl (cr 1, 8, .inl (g 1))), (ka 1, .inl (ck 1, 32, .inl (v 1))), (da 2, .inr (2, oD (F 2) (ra 2) (ka 2))), (ra 2, .inl (cr 2, 8, .inl (g 2))), (ka 2, .inl (ck 2, 32, .inl (v 2))), (p9, .inr (1, [.ref q9, .int (nI cn)])), (q9, .inl (cp, 64, .inl f)), (n9, .inr (4, [.ref nw9, .int (nI kN)])), (nw9, .inl (cN, 64, .inl wN)), (o9, .inr (5, [.ref ok9, .int (nI ko)])), (ok9, .inl (cO, 300, .inl kp)), (e9, .inr (3, oE Z er9 eo9 ew9)), (er9, .inl (ce, 8, .inl eg)), (ew9, .inl (cw, 32, .inl ew)), (eo9, .inr (5, [.ref ek9, .int (nI ke)])), (ek9, .inl (cq, 300, .inl pe)), (ov, .inl (co, 1, .inr (.inl lo)))] s.heap.size = A at hD hcb ⊢
  have hA : ∀ q : Nat, s.heap.size ≤ q → A q := fun q h => by rw [← hAe]; exact Or.inr h
  have hS : va_S A s.heap s.heap [] := va_S.rf
  replace hl := lv_entry ([.ref h0, .int x, .ref ov]) (n := 4) (Nat.le_of_ble_eq_true rfl)
  rw [lg_entry_eq]
  generalize (lg_sl ([.ref h0, .int x, .ref ov]) ++ List.replicate (4 - (lg_sl ([.ref h0, .int x, .ref ov])).length) Slot.unset).toArray = ls at hl ⊢
  replace hl : lv_has ls 4 [(0, .ref h0), (1, .int x), (2, .ref ov)] := hl
  generalize hSP : s_L_step_r uT F g v cn f kN wN ko kp Z eg ew ke pe sn xN lo = SP
  refine lv_aload_n hx hb d_L_step_0 rfl (lv_at hl 2 rfl) ?_
  refine lv_iconst (v := 0) hx hb d_L_step_1 (by decide) ?_
  refine lv_aload_n hx hb d_L_step_2 rfl (lv_at hl 0 rfl) ?_
  refine lv_iload_n hx hb d_L_step_3 rfl (lv_at hl 1 rfl) ?_
  replace hPc := hP.sub (ws' := [(h0, .inr (0, oT uT p9 a9 e9 n9 o9)), (a9, .inl (ca, 3, .inr (.inr (.inr (.inr (mo da)))))), (da 0, .inr (2, oD (F 0) (ra 0) (ka 0))), (ra 0, .inl (cr 0, 8, .inl (g 0))), (ka 0, .inl (ck 0, 32, .inl (v 0))), (da 1, .inr (2, oD (F 1) (ra 1) (ka 1))), (ra 1, .inl (cr 1, 8, .inl (g 1))), (ka 1, .inl (ck 1, 32, .inl (v 1))), (da 2, .inr (2, oD (F 2) (ra 2) (ka 2))), (ra 2, .inl (cr 2, 8, .inl (g 2))), (ka 2, .inl (ck 2, 32, .inl (v 2))), (p9, .inr (1, [.ref q9, .int (nI cn)])), (q9, .inl (cp, 64, .inl f)), (n9, .inr (4, [.ref nw9, .int (nI kN)])), (nw9, .inl (cN, 64, .inl wN)), (o9, .inr (5, [.ref ok9, .int (nI ko)])), (ok9, .inl (cO, 300, .inl kp)), (e9, .inr (3, oE Z er9 eo9 ew9)), (er9, .inl (ce, 8, .inl eg)), (ew9, .inl (cw, 32, .inl ew)), (eo9, .inr (5, [.ref ek9, .int (nI ke)])), (ek9, .inl (cq, 300, .inl pe))]) [0, 1, 2, 3, 4, 5, 6, 7, 8, 9, 10, 11, 12, 13, 14, 15, 16, 17, 18, 19, 20, 21] rfl
  replace hKc := hK.sub (tys' := [(ca, .object "VotedTriple$VotedModule"), (cr 0, .int), (ck 0, .int), (cr 1, .int), (ck 1, .int), (cr 2, .int), (ck 2, .int), (cp, .int), (cN, .int), (cO, .int), (ce, .int), (cw, .int), (cq, .int)]) [0, 1, 2, 3, 4, 5, 6, 7, 8, 9, 10, 11, 12] rfl
  replace hDc := hD.sub (ws' := [(h0, .inr (0, oT uT p9 a9 e9 n9 o9)), (a9, .inl (ca, 3, .inr (.inr (.inr (.inr (mo da)))))), (da 0, .inr (2, oD (F 0) (ra 0) (ka 0))), (ra 0, .inl (cr 0, 8, .inl (g 0))), (ka 0, .inl (ck 0, 32, .inl (v 0))), (da 1, .inr (2, oD (F 1) (ra 1) (ka 1))), (ra 1, .inl (cr 1, 8, .inl (g 1))), (ka 1, .inl (ck 1, 32, .inl (v 1))), (da 2, .inr (2, oD (F 2) (ra 2) (ka 2))), (ra 2, .inl (cr 2, 8, .inl (g 2))), (ka 2, .inl (ck 2, 32, .inl (v 2))), (p9, .inr (1, [.ref q9, .int (nI cn)])), (q9, .inl (cp, 64, .inl f)), (n9, .inr (4, [.ref nw9, .int (nI kN)])), (nw9, .inl (cN, 64, .inl wN)), (o9, .inr (5, [.ref ok9, .int (nI ko)])), (ok9, .inl (cO, 300, .inl kp)), (e9, .inr (3, oE Z er9 eo9 ew9)), (er9, .inl (ce, 8, .inl eg)), (ew9, .inl (cw, 32, .inl ew)), (eo9, .inr (5, [.ref ek9, .int (nI ke)])), (ek9, .inl (cq, 300, .inl pe))]) [0, 1, 2, 3, 4, 5, 6, 7, 8, 9, 10, 11, 12, 13, 14, 15, 16, 17, 18, 19, 20, 21] (by decide) rfl
  replace hFc := va_free (wc := [(h0, .inr (0, oT uT p9 a9 e9 n9 o9)), (a9, .inl (ca, 3, .inr (.inr (.inr (.inr (mo da)))))), (da 0, .inr (2, oD (F 0) (ra 0) (ka 0))), (ra 0, .inl (cr 0, 8, .inl (g 0))), (ka 0, .inl (ck 0, 32, .inl (v 0))), (da 1, .inr (2, oD (F 1) (ra 1) (ka 1))), (ra 1, .inl (cr 1, 8, .inl (g 1))), (ka 1, .inl (ck 1, 32, .inl (v 1))), (da 2, .inr (2, oD (F 2) (ra 2) (ka 2))), (ra 2, .inl (cr 2, 8, .inl (g 2))), (ka 2, .inl (ck 2, 32, .inl (v 2))), (p9, .inr (1, [.ref q9, .int (nI cn)])), (q9, .inl (cp, 64, .inl f)), (n9, .inr (4, [.ref nw9, .int (nI kN)])), (nw9, .inl (cN, 64, .inl wN)), (o9, .inr (5, [.ref ok9, .int (nI ko)])), (ok9, .inl (cO, 300, .inl kp)), (e9, .inr (3, oE Z er9 eo9 ew9)), (er9, .inl (ce, 8, .inl eg)), (ew9, .inl (cw, 32, .inl ew)), (eo9, .inr (5, [.ref ek9, .int (nI ke)])), (ek9, .inl (cq, 300, .inl pe))]) hD hS hA [0, 1, 2, 3, 4, 5, 6, 7, 8, 9, 10, 11, 12, 13, 14, 15, 16, 17, 18, 19, 20, 21] rfl
  refine va_calli (va_runV (C := "VotedTriple") (As := [.int x]) (rest := [.int 0, .ref ov]) ⟨hx, hb, hml, hown, hw⟩ (c_T_step l dC dI h0 p9 a9 e9 n9 o9 ca da ra ka cr ck q9 cp nw9 cN ok9 cO er9 ce eo9 ew9 cw ek9 cq uT F g v cn f kN wN ko kp Z eg ew ke pe sn xN x hF hg hc hpos hkN hwN he hsn hko hke hst5 hxN hx1 hx2 hs2 t9 s.heap.size) (cwV 1 hw (gdV (k_392) (k_389) (k_390) (k_391) (k_1)) rfl rfl rfl (by decide +kernel) ⟨Nat.le_of_ble_eq_true rfl, Nat.le_of_ble_eq_true rfl⟩) ⟨fun a U g mk q => by obtain ⟨q0, q1, qP, qK, qD, qN, qB⟩ := q; exact ⟨q0, q1, qP, va_K.moved (u := U) (U := U.calling g mk a) (Vm.Alike.refl U.vm) qK, qD, nw_vm (u := U) (U := U.calling g mk a) rfl qN, cb_vm (u := U) (U := U.calling g mk a) rfl qB⟩, va_recv hK hP rfl (q0 := 0) rfl, fun U hU hW => ⟨rfl, by rw [hU], by rw [hU]; exact hPc, va_K.moved hW.alike hKc, hDc.weaken (fun _ _ _ _ => trivial), nw_warm hW hnw, by rw [hU]; exact cb_narrow (cb_warm hW (cb_kept hcb (fun a h1 h2 => hS.2.1 a h1 h2))) hFc⟩⟩ rfl rfl hl.1 rfl (lv_room (Nat.le_of_ble_eq_true rfl)) d_L_step_4 ⟨Nat.le_of_ble_eq_true rfl, Nat.le_of_ble_eq_true rfl⟩) hS (fun q _ h => hFc q h) hFc (fun r1 u9 t H1 locs ht hvm hr2 hB hz1 hk1 hS => ?_)
  obtain ⟨uT23, F24, g25, v26, ko27, kp28, Z29, eg210, ew211, ke212, pe213, sn214⟩ := u9
  obtain ⟨hP1, hK1, hD1⟩ := hB
  rw [ht] at hP1
  replace hK1 := va_K.moved hvm.symm hK1
  try dsimp only at hr2 hP1 hK1 hD1
  obtain ⟨hr2, hr2E⟩ := hr2
  obtain ⟨hPz, hDz⟩ := va_join (wr := [(ov, .inl (co, 1, .inr (.inl lo)))]) (w1 := [(h0, .inr (0, oT uT23 p9 a9 e9 n9 o9)), (a9, .inl (ca, 3, .inr (.inr (.inr (.inr (mo da)))))), (da 0, .inr (2, oD (F24 0) (ra 0) (ka 0))), (ra 0, .inl (cr 0, 8, .inl (g25 0))), (ka 0, .inl (ck 0, 32, .inl (v26 0))), (da 1, .inr (2, oD (F24 1) (ra 1) (ka 1))), (ra 1, .inl (cr 1, 8, .inl (g25 1))), (ka 1, .inl (ck 1, 32, .inl (v26 1))), (da 2, .inr (2, oD (F24 2) (ra 2) (ka 2))), (ra 2, .inl (cr 2, 8, .inl (g25 2))), (ka 2, .inl (ck 2, 32, .inl (v26 2))), (p9, .inr (1, [.ref q9, .int (nI cn)])), (q9, .inl (cp, 64, .inl f)), (n9, .inr (4, [.ref nw9, .int (nI kN)])), (nw9, .inl (cN, 64, .inl wN)), (o9, .inr (5, [.ref ok9, .int (nI ko27)])), (ok9, .inl (cO, 300, .inl kp28)), (e9, .inr (3, oE Z29 er9 eo9 ew9)), (er9, .inl (ce, 8, .inl eg210)), (ew9, .inl (cw, 32, .inl ew211)), (eo9, .inr (5, [.ref ek9, .int (nI ke212)])), (ek9, .inl (cq, 300, .inl pe213))]) hP hD [0, 1, 2, 3, 4, 5, 6, 7, 8, 9, 10, 11, 12, 13, 14, 15, 16, 17, 18, 19, 20, 21] [22] rfl rfl (by decide) (by decide) hk1 hFc hP1 hD1
  clear hP hD hPc hDc hP1 hD1 hFc
  have hP := hPz
  have hD := hDz
  clear hPz hDz
  replace hK := (hK.sub (tys' := [(co, .long)]) [13] rfl).app hK1
  clear hK1 hKc
  generalize H1 = H at hP hS ⊢
  replace hP : va_P (dC, dI) classes [(ov, .inl (co, 1, .inr (.inl lo))), (h0, .inr (0, oT uT23 p9 a9 e9 n9 o9)), (a9, .inl (ca, 3, .inr (.inr (.inr (.inr (mo da)))))), (da 0, .inr (2, oD (F24 0) (ra 0) (ka 0))), (ra 0, .inl (cr 0, 8, .inl (g25 0))), (ka 0, .inl (ck 0, 32, .inl (v26 0))), (da 1, .inr (2, oD (F24 1) (ra 1) (ka 1))), (ra 1, .inl (cr 1, 8, .inl (g25 1))), (ka 1, .inl (ck 1, 32, .inl (v26 1))), (da 2, .inr (2, oD (F24 2) (ra 2) (ka 2))), (ra 2, .inl (cr 2, 8, .inl (g25 2))), (ka 2, .inl (ck 2, 32, .inl (v26 2))), (p9, .inr (1, [.ref q9, .int (nI cn)])), (q9, .inl (cp, 64, .inl f)), (n9, .inr (4, [.ref nw9, .int (nI kN)])), (nw9, .inl (cN, 64, .inl wN)), (o9, .inr (5, [.ref ok9, .int (nI ko27)])), (ok9, .inl (cO, 300, .inl kp28)), (e9, .inr (3, oE Z29 er9 eo9 ew9)), (er9, .inl (ce, 8, .inl eg210)), (ew9, .inl (cw, 32, .inl ew211)), (eo9, .inr (5, [.ref ek9, .int (nI ke212)])), (ek9, .inl (cq, 300, .inl pe213))] H := hP
  replace hD : va_D A [(ov, .inl (co, 1, .inr (.inl lo))), (h0, .inr (0, oT uT23 p9 a9 e9 n9 o9)), (a9, .inl (ca, 3, .inr (.inr (.inr (.inr (mo da)))))), (da 0, .inr (2, oD (F24 0) (ra 0) (ka 0))), (ra 0, .inl (cr 0, 8, .inl (g25 0))), (ka 0, .inl (ck 0, 32, .inl (v26 0))), (da 1, .inr (2, oD (F24 1) (ra 1) (ka 1))), (ra 1, .inl (cr 1, 8, .inl (g25 1))), (ka 1, .inl (ck 1, 32, .inl (v26 1))), (da 2, .inr (2, oD (F24 2) (ra 2) (ka 2))), (ra 2, .inl (cr 2, 8, .inl (g25 2))), (ka 2, .inl (ck 2, 32, .inl (v26 2))), (p9, .inr (1, [.ref q9, .int (nI cn)])), (q9, .inl (cp, 64, .inl f)), (n9, .inr (4, [.ref nw9, .int (nI kN)])), (nw9, .inl (cN, 64, .inl wN)), (o9, .inr (5, [.ref ok9, .int (nI ko27)])), (ok9, .inl (cO, 300, .inl kp28)), (e9, .inr (3, oE Z29 er9 eo9 ew9)), (er9, .inl (ce, 8, .inl eg210)), (ew9, .inl (cw, 32, .inl ew211)), (eo9, .inr (5, [.ref ek9, .int (nI ke212)])), (ek9, .inl (cq, 300, .inl pe213))] := hD
  replace hK : va_K (dC, dI) classes [(co, .long), (ca, .object "VotedTriple$VotedModule"), (cr 0, .int), (ck 0, .int), (cr 1, .int), (ck 1, .int), (cr 2, .int), (ck 2, .int), (cp, .int), (cN, .int), (cO, .int), (ce, .int), (cw, .int), (cq, .int)] s := hK
  refine W.widen (k := 0) (n := 0) (Nat.le_of_ble_eq_true rfl) (Nat.le_of_ble_eq_true rfl) ?_
  refine lv_i2l (v := r1.toInt64) hx hb d_L_step_7 rfl ?_
  refine va_last hx hb hK hP hD hS 0 0 rfl rfl (by unfold vp_in; decide) d_L_step_8 (fun H locs hP hD hS => ?_)
  replace hP : va_P (dC, dI) classes [(ov, .inl (co, 1, .inr (.inl (vp_updL lo (Int32.toNatClampNeg (0 : Int32)) r1.toInt64)))), (h0, .inr (0, oT uT23 p9 a9 e9 n9 o9)), (a9, .inl (ca, 3, .inr (.inr (.inr (.inr (mo da)))))), (da 0, .inr (2, oD (F24 0) (ra 0) (ka 0))), (ra 0, .inl (cr 0, 8, .inl (g25 0))), (ka 0, .inl (ck 0, 32, .inl (v26 0))), (da 1, .inr (2, oD (F24 1) (ra 1) (ka 1))), (ra 1, .inl (cr 1, 8, .inl (g25 1))), (ka 1, .inl (ck 1, 32, .inl (v26 1))), (da 2, .inr (2, oD (F24 2) (ra 2) (ka 2))), (ra 2, .inl (cr 2, 8, .inl (g25 2))), (ka 2, .inl (ck 2, 32, .inl (v26 2))), (p9, .inr (1, [.ref q9, .int (nI cn)])), (q9, .inl (cp, 64, .inl f)), (n9, .inr (4, [.ref nw9, .int (nI kN)])), (nw9, .inl (cN, 64, .inl wN)), (o9, .inr (5, [.ref ok9, .int (nI ko27)])), (ok9, .inl (cO, 300, .inl kp28)), (e9, .inr (3, oE Z29 er9 eo9 ew9)), (er9, .inl (ce, 8, .inl eg210)), (ew9, .inl (cw, 32, .inl ew211)), (eo9, .inr (5, [.ref ek9, .int (nI ke212)])), (ek9, .inl (cq, 300, .inl pe213))] H := hP
  replace hD : va_D A [(ov, .inl (co, 1, .inr (.inl (vp_updL lo (Int32.toNatClampNeg (0 : Int32)) r1.toInt64)))), (h0, .inr (0, oT uT23 p9 a9 e9 n9 o9)), (a9, .inl (ca, 3, .inr (.inr (.inr (.inr (mo da)))))), (da 0, .inr (2, oD (F24 0) (ra 0) (ka 0))), (ra 0, .inl (cr 0, 8, .inl (g25 0))), (ka 0, .inl (ck 0, 32, .inl (v26 0))), (da 1, .inr (2, oD (F24 1) (ra 1) (ka 1))), (ra 1, .inl (cr 1, 8, .inl (g25 1))), (ka 1, .inl (ck 1, 32, .inl (v26 1))), (da 2, .inr (2, oD (F24 2) (ra 2) (ka 2))), (ra 2, .inl (cr 2, 8, .inl (g25 2))), (ka 2, .inl (ck 2, 32, .inl (v26 2))), (p9, .inr (1, [.ref q9, .int (nI cn)])), (q9, .inl (cp, 64, .inl f)), (n9, .inr (4, [.ref nw9, .int (nI kN)])), (nw9, .inl (cN, 64, .inl wN)), (o9, .inr (5, [.ref ok9, .int (nI ko27)])), (ok9, .inl (cO, 300, .inl kp28)), (e9, .inr (3, oE Z29 er9 eo9 ew9)), (er9, .inl (ce, 8, .inl eg210)), (ew9, .inl (cw, 32, .inl ew211)), (eo9, .inr (5, [.ref ek9, .int (nI ke212)])), (ek9, .inl (cq, 300, .inl pe213))] := hD
  refine lv_goto (tgt := 18) hx hb d_L_step_9 rfl ?_
  refine lv_iconst (v := 0) hx hb d_L_step_18 (by decide) ?_
  have hP9 := hP.sub (ws' := [(h0, .inr (0, oT uT23 p9 a9 e9 n9 o9)), (a9, .inl (ca, 3, .inr (.inr (.inr (.inr (mo da)))))), (da 0, .inr (2, oD (F24 0) (ra 0) (ka 0))), (ra 0, .inl (cr 0, 8, .inl (g25 0))), (ka 0, .inl (ck 0, 32, .inl (v26 0))), (da 1, .inr (2, oD (F24 1) (ra 1) (ka 1))), (ra 1, .inl (cr 1, 8, .inl (g25 1))), (ka 1, .inl (ck 1, 32, .inl (v26 1))), (da 2, .inr (2, oD (F24 2) (ra 2) (ka 2))), (ra 2, .inl (cr 2, 8, .inl (g25 2))), (ka 2, .inl (ck 2, 32, .inl (v26 2))), (p9, .inr (1, [.ref q9, .int (nI cn)])), (q9, .inl (cp, 64, .inl f)), (n9, .inr (4, [.ref nw9, .int (nI kN)])), (nw9, .inl (cN, 64, .inl wN)), (o9, .inr (5, [.ref ok9, .int (nI ko27)])), (ok9, .inl (cO, 300, .inl kp28)), (e9, .inr (3, oE Z29 er9 eo9 ew9)), (er9, .inl (ce, 8, .inl eg210)), (ew9, .inl (cw, 32, .inl ew211)), (eo9, .inr (5, [.ref ek9, .int (nI ke212)])), (ek9, .inl (cq, 300, .inl pe213)), (ov, .inl (co, 1, .inr (.inl (vp_updL lo (Int32.toNatClampNeg (0 : Int32)) r1.toInt64))))]) [1, 2, 3, 4, 5, 6, 7, 8, 9, 10, 11, 12, 13, 14, 15, 16, 17, 18, 19, 20, 21, 22, 0] rfl
  have hD9 := hD.sub (ws' := [(h0, .inr (0, oT uT23 p9 a9 e9 n9 o9)), (a9, .inl (ca, 3, .inr (.inr (.inr (.inr (mo da)))))), (da 0, .inr (2, oD (F24 0) (ra 0) (ka 0))), (ra 0, .inl (cr 0, 8, .inl (g25 0))), (ka 0, .inl (ck 0, 32, .inl (v26 0))), (da 1, .inr (2, oD (F24 1) (ra 1) (ka 1))), (ra 1, .inl (cr 1, 8, .inl (g25 1))), (ka 1, .inl (ck 1, 32, .inl (v26 1))), (da 2, .inr (2, oD (F24 2) (ra 2) (ka 2))), (ra 2, .inl (cr 2, 8, .inl (g25 2))), (ka 2, .inl (ck 2, 32, .inl (v26 2))), (p9, .inr (1, [.ref q9, .int (nI cn)])), (q9, .inl (cp, 64, .inl f)), (n9, .inr (4, [.ref nw9, .int (nI kN)])), (nw9, .inl (cN, 64, .inl wN)), (o9, .inr (5, [.ref ok9, .int (nI ko27)])), (ok9, .inl (cO, 300, .inl kp28)), (e9, .inr (3, oE Z29 er9 eo9 ew9)), (er9, .inl (ce, 8, .inl eg210)), (ew9, .inl (cw, 32, .inl ew211)), (eo9, .inr (5, [.ref ek9, .int (nI ke212)])), (ek9, .inl (cq, 300, .inl pe213)), (ov, .inl (co, 1, .inr (.inl (vp_updL lo (Int32.toNatClampNeg (0 : Int32)) r1.toInt64))))]) [1, 2, 3, 4, 5, 6, 7, 8, 9, 10, 11, 12, 13, 14, 15, 16, 17, 18, 19, 20, 21, 22, 0] (by decide) rfl
  have hK9 := hK.sub (tys' := [(ca, .object "VotedTriple$VotedModule"), (cr 0, .int), (ck 0, .int), (cr 1, .int), (ck 1, .int), (cr 2, .int), (ck 2, .int), (cp, .int), (cN, .int), (cO, .int), (ce, .int), (cw, .int), (cq, .int), (co, .long)]) [1, 2, 3, 4, 5, 6, 7, 8, 9, 10, 11, 12, 13, 0] rfl
  refine W.widen (k := 0) (n := 0) (Nat.le_of_ble_eq_true rfl) (Nat.le_of_ble_eq_true rfl) ?_
  exact W.iret (v := 0) hx hb hr (fun t ht hW => ⟨⟨_, (uT23, F24, g25, v26, ko27, kp28, Z29, eg210, ew211, ke212, pe213, sn214, vp_updL lo (Int32.toNatClampNeg (0 : Int32)) r1.toInt64), rfl, ⟨⟨rfl, hr2.1, hr2.2.1, hr2.2.2.1, hr2.2.2.2.1, hr2.2.2.2.2.1, hr2.2.2.2.2.2.1, hr2.2.2.2.2.2.2.1, hr2.2.2.2.2.2.2.2⟩, (by rw [← hSP, s_L_step_r]; try (rw [← hr2E, bnd_eq]); try dsimp only; all_goals rfl)⟩, by rw [ht]; exact hP9, va_K.moved hW.alike hK9, hD9⟩, hS.F ht⟩) hS.2.2 d_L_step_19

set_option maxHeartbeats 4000000 in
set_option maxRecDepth 100000 in
theorem c_L_output_r (l : Launch) (dC : Nat → ClassId) (dI : Nat → Nat → Nat) (h0 : Nat) (p9 : Nat) (a9 : Nat) (e9 : Nat) (n9 : Nat) (o9 : Nat) (ok9 : Nat) (cO : ClassId) (uT : Nat → Int32) (ko : Nat) (kp : Nat → Int32) (x : Int32) (hkp : kpB (nI ko) x = true) (ov : Nat) (co : ClassId) (lo : Nat → Int64) (sz : Nat) : Met l y_L_output (tbx (Cond.codeWith y_L_output b_L_output 4 (some .int) [(0, 9, 12, 20)])) ({ frames := 2, cells := 0, slots := 0, locals := 42 }) (va_Pc [.ref h0, .int x, .ref ov] (fun U => U.heap.size = sz ∧ va_P (dC, dI) classes [(h0, .inr (0, oT uT p9 a9 e9 n9 o9)), (o9, .inr (5, [.ref ok9, .int (nI ko)])), (ok9, .inl (cO, 300, .inl kp)), (ov, .inl (co, 1, .inr (.inl lo)))] U.heap ∧ va_K (dC, dI) classes [(cO, .int), (co, .long)] U ∧ va_D (fun _ => True) [(h0, .inr (0, oT uT p9 a9 e9 n9 o9)), (o9, .inr (5, [.ref ok9, .int (nI ko)])), (ok9, .inl (cO, 300, .inl kp)), (ov, .inl (co, 1, .inr (.inl lo)))] ∧ nw U)) (va_Qi (fun (r : Int32) (u9 : (Nat → Int64)) => match u9 with | lo2 => (r = 0) ∧ (lo2) = s_L_output_r kp x lo) (fun (u9 : (Nat → Int64)) t => match u9 with | lo2 => va_P (dC, dI) classes [(h0, .inr (0, oT uT p9 a9 e9 n9 o9)), (o9, .inr (5, [.ref ok9, .int (nI ko)])), (ok9, .inl (cO, 300, .inl kp)), (ov, .inl (co, 1, .inr (.inl lo2)))] t.heap ∧ va_K (dC, dI) classes [(cO, .int), (co, .long)] t ∧ va_D (va_A [(h0, .inr (0, oT uT p9 a9 e9 n9 o9)), (o9, .inr (5, [.ref ok9, .int (nI ko)])), (ok9, .inl (cO, 300, .inl kp)), (ov, .inl (co, 1, .inr (.inl lo)))] sz) [(h0, .inr (0, oT uT p9 a9 e9 n9 o9)), (o9, .inr (5, [.ref ok9, .int (nI ko)])), (ok9, .inl (cO, 300, .inl kp)), (ov, .inl (co, 1, .inr (.inl lo2)))]) (va_A [(h0, .inr (0, oT uT p9 a9 e9 n9 o9)), (o9, .inr (5, [.ref ok9, .int (nI ko)])), (ok9, .inl (cO, 300, .inl kp)), (ov, .inl (co, 1, .inr (.inl lo)))] sz)) 0 0 (va_A [(h0, .inr (0, oT uT p9 a9 e9 n9 o9)), (o9, .inr (5, [.ref ok9, .int (nI ko)])), (ok9, .inl (cO, 300, .inl kp)), (ov, .inl (co, 1, .inr (.inl lo)))] sz) := by
  refine va_MetW (cc := b_L_output) (maxL := 4) (ret := (some .int)) (hh := [(0, 9, 12, 20)]) (by decide) rfl ?_
  intro p e s m args below meth c s₁ B hml hv
  obtain ⟨rfl, hsz, hP, hK, hD0, hnw⟩ := hv
  have hx := B.exec
  have hb := B.bytes
  have hr := B.returns
  have hts := atoms_spec (ws := (tbx (Cond.codeWith y_L_output b_L_output 4 (some .int) [(0, 9, 12, 20)]))) B.pre
  have hw : ∀ z9 ∈ tb, z9.before ([.ref h0, .int x, .ref ov] : List Value).toArray s = true := fun z9 h => hts z9 (List.mem_cons_of_mem _ h)
  have hown : s.vm.findClass "VotedTripleLaw" = some m.cls := findClass_of_methodNamed B.named
  have hlocks := B.notSynchronized
  obtain ⟨tr9, htab⟩ := tab_body B (hts _ List.mem_cons_self)
  subst hsz
  replace hD := hD0.self (sz := s.heap.size)
  generalize hAe : va_A [(h0, .inr (0, oT uT p9 a9 e9 n9 o9)), (o9, .inr (5, [.ref ok9, .int (nI ko)])), (ok9, .inl (cO, 300, .inl kp)), (ov, .inl (co, 1, .inr (.inl lo)))] s.heap.size = A at hD ⊢
  have hA : ∀ q : Nat, s.heap.size ≤ q → A q := fun q h => by rw [← hAe]; exact Or.inr h
  have hS : va_S A s.heap s.heap [] := va_S.rf
  replace hl := lv_entry ([.ref h0, .int x, .ref ov]) (n := 4) (Nat.le_of_ble_eq_true rfl)
  rw [lg_entry_eq]
  generalize (lg_sl ([.ref h0, .int x, .ref ov]) ++ List.replicate (4 - (lg_sl ([.ref h0, .int x, .ref ov])).length) Slot.unset).toArray = ls at hl ⊢
  replace hl : lv_has ls 4 [(0, .ref h0), (1, .int x), (2, .ref ov)] := hl
  generalize hSP : s_L_output_r kp x lo = SP
  refine lv_aload_n hx hb d_L_output_0 rfl (lv_at hl 2 rfl) ?_
  refine lv_iconst (v := 0) hx hb d_L_output_1 (by decide) ?_
  refine lv_aload_n hx hb d_L_output_2 rfl (lv_at hl 0 rfl) ?_
  refine lv_iload_n hx hb d_L_output_3 rfl (lv_at hl 1 rfl) ?_
  replace hPc := hP.sub (ws' := [(h0, .inr (0, oT uT p9 a9 e9 n9 o9)), (o9, .inr (5, [.ref ok9, .int (nI ko)])), (ok9, .inl (cO, 300, .inl kp))]) [0, 1, 2] rfl
  replace hKc := hK.sub (tys' := [(cO, .int)]) [0] rfl
  refine vp_callSi (va_runV (C := "VotedTriple") (As := [.int x]) (rest := [.int 0, .ref ov]) ⟨hx, hb, hml, hown, hw⟩ (c_T_output l dC dI h0 p9 a9 e9 n9 o9 ok9 cO uT ko kp x hkp) (cwV 1 hw (gdV (k_674) (k_671) (k_672) (k_673) (k_1)) rfl rfl rfl (by decide +kernel) ⟨Nat.le_of_ble_eq_true rfl, Nat.le_of_ble_eq_true rfl⟩) ⟨fun a U g mk q => ⟨q.1, q.2.1, va_K.moved (u := U) (U := U.calling g mk a) (Vm.Alike.refl U.vm) q.2.2⟩, va_recv hK hP rfl (q0 := 0) rfl, fun U hU hW => ⟨rfl, by rw [hU]; exact hPc, va_K.moved hW.alike hKc⟩⟩ rfl rfl hl.1 rfl (lv_room (Nat.le_of_ble_eq_true rfl)) d_L_output_4 ⟨Nat.le_of_ble_eq_true rfl, Nat.le_of_ble_eq_true rfl⟩).run (fun r1 hr2 => ?_)
  obtain ⟨hr2, hr2E⟩ := hr2
  refine lv_i2l (v := r1.toInt64) hx hb d_L_output_7 rfl ?_
  refine va_last hx hb hK hP hD hS 3 1 rfl rfl (by unfold vp_in; decide) d_L_output_8 (fun H locs hP hD hS => ?_)
  replace hP : va_P (dC, dI) classes [(h0, .inr (0, oT uT p9 a9 e9 n9 o9)), (o9, .inr (5, [.ref ok9, .int (nI ko)])), (ok9, .inl (cO, 300, .inl kp)), (ov, .inl (co, 1, .inr (.inl (vp_updL lo (Int32.toNatClampNeg (0 : Int32)) r1.toInt64))))] H := hP
  replace hD : va_D A [(h0, .inr (0, oT uT p9 a9 e9 n9 o9)), (o9, .inr (5, [.ref ok9, .int (nI ko)])), (ok9, .inl (cO, 300, .inl kp)), (ov, .inl (co, 1, .inr (.inl (vp_updL lo (Int32.toNatClampNeg (0 : Int32)) r1.toInt64))))] := hD
  refine lv_goto (tgt := 15) hx hb d_L_output_9 rfl ?_
  refine lv_iconst (v := 0) hx hb d_L_output_15 (by decide) ?_
  have hP9 := hP.sub (ws' := [(h0, .inr (0, oT uT p9 a9 e9 n9 o9)), (o9, .inr (5, [.ref ok9, .int (nI ko)])), (ok9, .inl (cO, 300, .inl kp)), (ov, .inl (co, 1, .inr (.inl (vp_updL lo (Int32.toNatClampNeg (0 : Int32)) r1.toInt64))))]) [0, 1, 2, 3] rfl
  have hD9 := hD.sub (ws' := [(h0, .inr (0, oT uT p9 a9 e9 n9 o9)), (o9, .inr (5, [.ref ok9, .int (nI ko)])), (ok9, .inl (cO, 300, .inl kp)), (ov, .inl (co, 1, .inr (.inl (vp_updL lo (Int32.toNatClampNeg (0 : Int32)) r1.toInt64))))]) [0, 1, 2, 3] (by decide) rfl
  have hK9 := hK.sub (tys' := [(cO, .int), (co, .long)]) [0, 1] rfl
  refine W.widen (k := 0) (n := 0) (Nat.le_of_ble_eq_true rfl) (Nat.le_of_ble_eq_true rfl) ?_
  exact W.iret (v := 0) hx hb hr (fun t ht hW => ⟨⟨_, (vp_updL lo (Int32.toNatClampNeg (0 : Int32)) r1.toInt64), rfl, ⟨rfl, (by rw [← hSP, s_L_output_r]; try (rw [← hr2E, bnd_eq]); all_goals rfl)⟩, by rw [ht]; exact hP9, va_K.moved hW.alike hK9, hD9⟩, hS.F ht⟩) hS.2.2 d_L_output_16

set_option maxHeartbeats 4000000 in
set_option maxRecDepth 100000 in
theorem c_L_perfect_r (l : Launch) (dC : Nat → ClassId) (dI : Nat → Nat → Nat) (h0 : Nat) (p9 : Nat) (a9 : Nat) (e9 : Nat) (n9 : Nat) (o9 : Nat) (er9 : Nat) (ce : ClassId) (eo9 : Nat) (ew9 : Nat) (cw : ClassId) (ek9 : Nat) (cq : ClassId) (uT : Nat → Int32) (Z : Nat → Int32) (eg : Nat → Int32) (ew : Nat → Int32) (ke : Nat) (pe : Nat → Int32) (x : Int32) (hkp : kpB (nI ke) x = true) (ov : Nat) (co : ClassId) (lo : Nat → Int64) (sz : Nat) : Met l y_L_perfect (tbx (Cond.codeWith y_L_perfect b_L_perfect 4 (some .int) [(0, 9, 12, 20)])) ({ frames := 2, cells := 0, slots := 0, locals := 42 }) (va_Pc [.ref h0, .int x, .ref ov] (fun U => U.heap.size = sz ∧ va_P (dC, dI) classes [(h0, .inr (0, oT uT p9 a9 e9 n9 o9)), (e9, .inr (3, oE Z er9 eo9 ew9)), (er9, .inl (ce, 8, .inl eg)), (ew9, .inl (cw, 32, .inl ew)), (eo9, .inr (5, [.ref ek9, .int (nI ke)])), (ek9, .inl (cq, 300, .inl pe)), (ov, .inl (co, 1, .inr (.inl lo)))] U.heap ∧ va_K (dC, dI) classes [(ce, .int), (cw, .int), (cq, .int), (co, .long)] U ∧ va_D (fun _ => True) [(h0, .inr (0, oT uT p9 a9 e9 n9 o9)), (e9, .inr (3, oE Z er9 eo9 ew9)), (er9, .inl (ce, 8, .inl eg)), (ew9, .inl (cw, 32, .inl ew)), (eo9, .inr (5, [.ref ek9, .int (nI ke)])), (ek9, .inl (cq, 300, .inl pe)), (ov, .inl (co, 1, .inr (.inl lo)))] ∧ nw U)) (va_Qi (fun (r : Int32) (u9 : (Nat → Int64)) => match u9 with | lo2 => (r = 0) ∧ (lo2) = s_L_perfect_r pe x lo) (fun (u9 : (Nat → Int64)) t => match u9 with | lo2 => va_P (dC, dI) classes [(h0, .inr (0, oT uT p9 a9 e9 n9 o9)), (e9, .inr (3, oE Z er9 eo9 ew9)), (er9, .inl (ce, 8, .inl eg)), (ew9, .inl (cw, 32, .inl ew)), (eo9, .inr (5, [.ref ek9, .int (nI ke)])), (ek9, .inl (cq, 300, .inl pe)), (ov, .inl (co, 1, .inr (.inl lo2)))] t.heap ∧ va_K (dC, dI) classes [(ce, .int), (cw, .int), (cq, .int), (co, .long)] t ∧ va_D (va_A [(h0, .inr (0, oT uT p9 a9 e9 n9 o9)), (e9, .inr (3, oE Z er9 eo9 ew9)), (er9, .inl (ce, 8, .inl eg)), (ew9, .inl (cw, 32, .inl ew)), (eo9, .inr (5, [.ref ek9, .int (nI ke)])), (ek9, .inl (cq, 300, .inl pe)), (ov, .inl (co, 1, .inr (.inl lo)))] sz) [(h0, .inr (0, oT uT p9 a9 e9 n9 o9)), (e9, .inr (3, oE Z er9 eo9 ew9)), (er9, .inl (ce, 8, .inl eg)), (ew9, .inl (cw, 32, .inl ew)), (eo9, .inr (5, [.ref ek9, .int (nI ke)])), (ek9, .inl (cq, 300, .inl pe)), (ov, .inl (co, 1, .inr (.inl lo2)))]) (va_A [(h0, .inr (0, oT uT p9 a9 e9 n9 o9)), (e9, .inr (3, oE Z er9 eo9 ew9)), (er9, .inl (ce, 8, .inl eg)), (ew9, .inl (cw, 32, .inl ew)), (eo9, .inr (5, [.ref ek9, .int (nI ke)])), (ek9, .inl (cq, 300, .inl pe)), (ov, .inl (co, 1, .inr (.inl lo)))] sz)) 0 0 (va_A [(h0, .inr (0, oT uT p9 a9 e9 n9 o9)), (e9, .inr (3, oE Z er9 eo9 ew9)), (er9, .inl (ce, 8, .inl eg)), (ew9, .inl (cw, 32, .inl ew)), (eo9, .inr (5, [.ref ek9, .int (nI ke)])), (ek9, .inl (cq, 300, .inl pe)), (ov, .inl (co, 1, .inr (.inl lo)))] sz) := by
  refine va_MetW (cc := b_L_perfect) (maxL := 4) (ret := (some .int)) (hh := [(0, 9, 12, 20)]) (by decide) rfl ?_
  intro p e s m args below meth c s₁ B hml hv
  obtain ⟨rfl, hsz, hP, hK, hD0, hnw⟩ := hv
  have hx := B.exec
  have hb := B.bytes
  have hr := B.returns
  have hts := atoms_spec (ws := (tbx (Cond.codeWith y_L_perfect b_L_perfect 4 (some .int) [(0, 9, 12, 20)]))) B.pre
  have hw : ∀ z9 ∈ tb, z9.before ([.ref h0, .int x, .ref ov] : List Value).toArray s = true := fun z9 h => hts z9 (List.mem_cons_of_mem _ h)
  have hown : s.vm.findClass "VotedTripleLaw" = some m.cls := findClass_of_methodNamed B.named
  have hlocks := B.notSynchronized
  obtain ⟨tr9, htab⟩ := tab_body B (hts _ List.mem_cons_self)
  subst hsz
  replace hD := hD0.self (sz := s.heap.size)
  generalize hAe : va_A [(h0, .inr (0, oT uT p9 a9 e9 n9 o9)), (e9, .inr (3, oE Z er9 eo9 ew9)), (er9, .inl (ce, 8, .inl eg)), (ew9, .inl (cw, 32, .inl ew)), (eo9, .inr (5, [.ref ek9, .int (nI ke)])), (ek9, .inl (cq, 300, .inl pe)), (ov, .inl (co, 1, .inr (.inl lo)))] s.heap.size = A at hD ⊢
  have hA : ∀ q : Nat, s.heap.size ≤ q → A q := fun q h => by rw [← hAe]; exact Or.inr h
  have hS : va_S A s.heap s.heap [] := va_S.rf
  replace hl := lv_entry ([.ref h0, .int x, .ref ov]) (n := 4) (Nat.le_of_ble_eq_true rfl)
  rw [lg_entry_eq]
  generalize (lg_sl ([.ref h0, .int x, .ref ov]) ++ List.replicate (4 - (lg_sl ([.ref h0, .int x, .ref ov])).length) Slot.unset).toArray = ls at hl ⊢
  replace hl : lv_has ls 4 [(0, .ref h0), (1, .int x), (2, .ref ov)] := hl
  generalize hSP : s_L_perfect_r pe x lo = SP
  refine lv_aload_n hx hb d_L_perfect_0 rfl (lv_at hl 2 rfl) ?_
  refine lv_iconst (v := 0) hx hb d_L_perfect_1 (by decide) ?_
  refine lv_aload_n hx hb d_L_perfect_2 rfl (lv_at hl 0 rfl) ?_
  refine lv_iload_n hx hb d_L_perfect_3 rfl (lv_at hl 1 rfl) ?_
  replace hPc := hP.sub (ws' := [(h0, .inr (0, oT uT p9 a9 e9 n9 o9)), (e9, .inr (3, oE Z er9 eo9 ew9)), (er9, .inl (ce, 8, .inl eg)), (ew9, .inl (cw, 32, .inl ew)), (eo9, .inr (5, [.ref ek9, .int (nI ke)])), (ek9, .inl (cq, 300, .inl pe))]) [0, 1, 2, 3, 4, 5] rfl
  replace hKc := hK.sub (tys' := [(ce, .int), (cw, .int), (cq, .int)]) [0, 1, 2] rfl
  refine vp_callSi (va_runV (C := "VotedTriple") (As := [.int x]) (rest := [.int 0, .ref ov]) ⟨hx, hb, hml, hown, hw⟩ (c_T_perfect l dC dI h0 p9 a9 e9 n9 o9 er9 ce eo9 ew9 cw ek9 cq uT Z eg ew ke pe x hkp) (cwV 1 hw (gdV (k_701) (k_698) (k_699) (k_700) (k_1)) rfl rfl rfl (by decide +kernel) ⟨Nat.le_of_ble_eq_true rfl, Nat.le_of_ble_eq_true rfl⟩) ⟨fun a U g mk q => ⟨q.1, q.2.1, va_K.moved (u := U) (U := U.calling g mk a) (Vm.Alike.refl U.vm) q.2.2⟩, va_recv hK hP rfl (q0 := 0) rfl, fun U hU hW => ⟨rfl, by rw [hU]; exact hPc, va_K.moved hW.alike hKc⟩⟩ rfl rfl hl.1 rfl (lv_room (Nat.le_of_ble_eq_true rfl)) d_L_perfect_4 ⟨Nat.le_of_ble_eq_true rfl, Nat.le_of_ble_eq_true rfl⟩).run (fun r1 hr2 => ?_)
  obtain ⟨hr2, hr2E⟩ := hr2
  refine lv_i2l (v := r1.toInt64) hx hb d_L_perfect_7 rfl ?_
  refine va_last hx hb hK hP hD hS 6 3 rfl rfl (by unfold vp_in; decide) d_L_perfect_8 (fun H locs hP hD hS => ?_)
  replace hP : va_P (dC, dI) classes [(h0, .inr (0, oT uT p9 a9 e9 n9 o9)), (e9, .inr (3, oE Z er9 eo9 ew9)), (er9, .inl (ce, 8, .inl eg)), (ew9, .inl (cw, 32, .inl ew)), (eo9, .inr (5, [.ref ek9, .int (nI ke)])), (ek9, .inl (cq, 300, .inl pe)), (ov, .inl (co, 1, .inr (.inl (vp_updL lo (Int32.toNatClampNeg (0 : Int32)) r1.toInt64))))] H := hP
  replace hD : va_D A [(h0, .inr (0, oT uT p9 a9 e9 n9 o9)), (e9, .inr (3, oE Z er9 eo9 ew9)), (er9, .inl (ce, 8, .inl eg)), (ew9, .inl (cw, 32, .inl ew)), (eo9, .inr (5, [.ref ek9, .int (nI ke)])), (ek9, .inl (cq, 300, .inl pe)), (ov, .inl (co, 1, .inr (.inl (vp_updL lo (Int32.toNatClampNeg (0 : Int32)) r1.toInt64))))] := hD
  refine lv_goto (tgt := 15) hx hb d_L_perfect_9 rfl ?_
  refine lv_iconst (v := 0) hx hb d_L_perfect_15 (by decide) ?_
  have hP9 := hP.sub (ws' := [(h0, .inr (0, oT uT p9 a9 e9 n9 o9)), (e9, .inr (3, oE Z er9 eo9 ew9)), (er9, .inl (ce, 8, .inl eg)), (ew9, .inl (cw, 32, .inl ew)), (eo9, .inr (5, [.ref ek9, .int (nI ke)])), (ek9, .inl (cq, 300, .inl pe)), (ov, .inl (co, 1, .inr (.inl (vp_updL lo (Int32.toNatClampNeg (0 : Int32)) r1.toInt64))))]) [0, 1, 2, 3, 4, 5, 6] rfl
  have hD9 := hD.sub (ws' := [(h0, .inr (0, oT uT p9 a9 e9 n9 o9)), (e9, .inr (3, oE Z er9 eo9 ew9)), (er9, .inl (ce, 8, .inl eg)), (ew9, .inl (cw, 32, .inl ew)), (eo9, .inr (5, [.ref ek9, .int (nI ke)])), (ek9, .inl (cq, 300, .inl pe)), (ov, .inl (co, 1, .inr (.inl (vp_updL lo (Int32.toNatClampNeg (0 : Int32)) r1.toInt64))))]) [0, 1, 2, 3, 4, 5, 6] (by decide) rfl
  have hK9 := hK.sub (tys' := [(ce, .int), (cw, .int), (cq, .int), (co, .long)]) [0, 1, 2, 3] rfl
  refine W.widen (k := 0) (n := 0) (Nat.le_of_ble_eq_true rfl) (Nat.le_of_ble_eq_true rfl) ?_
  exact W.iret (v := 0) hx hb hr (fun t ht hW => ⟨⟨_, (vp_updL lo (Int32.toNatClampNeg (0 : Int32)) r1.toInt64), rfl, ⟨rfl, (by rw [← hSP, s_L_perfect_r]; try (rw [← hr2E, bnd_eq]); all_goals rfl)⟩, by rw [ht]; exact hP9, va_K.moved hW.alike hK9, hD9⟩, hS.F ht⟩) hS.2.2 d_L_perfect_16

set_option maxHeartbeats 4000000 in
set_option maxRecDepth 100000 in
theorem c_L_flip_r (l : Launch) (dC : Nat → ClassId) (dI : Nat → Nat → Nat) (h0 : Nat) (p9 : Nat) (a9 : Nat) (e9 : Nat) (n9 : Nat) (o9 : Nat) (ca : ClassId) (da : Nat → Nat) (ra : Nat → Nat) (ka : Nat → Nat) (cr : Nat → ClassId) (ck : Nat → ClassId) (q9 : Nat) (cp : ClassId) (uT : Nat → Int32) (F : Nat → Nat → Int32) (g : Nat → Nat → Int32) (v : Nat → Nat → Int32) (cn : Nat) (f : Nat → Int32) (x : Int32) (y : Int32) (z : Int32) (u : Int32) (hF : f3 F) (hg : g3 g) (hc : prI cn f) (hm1 : hmB uT x = true) (hb1 : hbB y z u = true) (sz : Nat) : Met l y_L_flip (tbx (Cond.codeWith y_L_flip b_L_flip 6 (some .int) [(0, 9, 12, 20)])) ({ frames := 3, cells := 0, slots := 0, locals := 68 }) (va_Pc [.ref h0, .int x, .int y, .int z, .int u] (fun U => U.heap.size = sz ∧ va_P (dC, dI) classes [(h0, .inr (0, oT uT p9 a9 e9 n9 o9)), (a9, .inl (ca, 3, .inr (.inr (.inr (.inr (mo da)))))), (da 0, .inr (2, oD (F 0) (ra 0) (ka 0))), (ra 0, .inl (cr 0, 8, .inl (g 0))), (ka 0, .inl (ck 0, 32, .inl (v 0))), (da 1, .inr (2, oD (F 1) (ra 1) (ka 1))), (ra 1, .inl (cr 1, 8, .inl (g 1))), (ka 1, .inl (ck 1, 32, .inl (v 1))), (da 2, .inr (2, oD (F 2) (ra 2) (ka 2))), (ra 2, .inl (cr 2, 8, .inl (g 2))), (ka 2, .inl (ck 2, 32, .inl (v 2))), (p9, .inr (1, [.ref q9, .int (nI cn)])), (q9, .inl (cp, 64, .inl f))] U.heap ∧ va_K (dC, dI) classes [(ca, .object "VotedTriple$VotedModule"), (cr 0, .int), (ck 0, .int), (cr 1, .int), (ck 1, .int), (cr 2, .int), (ck 2, .int), (cp, .int)] U ∧ va_D (fun _ => True) [(h0, .inr (0, oT uT p9 a9 e9 n9 o9)), (a9, .inl (ca, 3, .inr (.inr (.inr (.inr (mo da)))))), (da 0, .inr (2, oD (F 0) (ra 0) (ka 0))), (ra 0, .inl (cr 0, 8, .inl (g 0))), (ka 0, .inl (ck 0, 32, .inl (v 0))), (da 1, .inr (2, oD (F 1) (ra 1) (ka 1))), (ra 1, .inl (cr 1, 8, .inl (g 1))), (ka 1, .inl (ck 1, 32, .inl (v 1))), (da 2, .inr (2, oD (F 2) (ra 2) (ka 2))), (ra 2, .inl (cr 2, 8, .inl (g 2))), (ka 2, .inl (ck 2, 32, .inl (v 2))), (p9, .inr (1, [.ref q9, .int (nI cn)])), (q9, .inl (cp, 64, .inl f))] ∧ nw U)) (va_Qi (fun (r : Int32) (u9 : (Nat → Nat → Int32) × (Nat → Nat → Int32) × (Nat → Nat → Int32)) => match u9 with | (F2, g2, v2) => (r = 0 ∧ f3 F2 ∧ g3 g2) ∧ (F2, g2, v2) = s_L_flip_r F g v cn x y z u) (fun (u9 : (Nat → Nat → Int32) × (Nat → Nat → Int32) × (Nat → Nat → Int32)) t => match u9 with | (F2, g2, v2) => va_P (dC, dI) classes [(h0, .inr (0, oT uT p9 a9 e9 n9 o9)), (a9, .inl (ca, 3, .inr (.inr (.inr (.inr (mo da)))))), (da 0, .inr (2, oD (F2 0) (ra 0) (ka 0))), (ra 0, .inl (cr 0, 8, .inl (g2 0))), (ka 0, .inl (ck 0, 32, .inl (v2 0))), (da 1, .inr (2, oD (F2 1) (ra 1) (ka 1))), (ra 1, .inl (cr 1, 8, .inl (g2 1))), (ka 1, .inl (ck 1, 32, .inl (v2 1))), (da 2, .inr (2, oD (F2 2) (ra 2) (ka 2))), (ra 2, .inl (cr 2, 8, .inl (g2 2))), (ka 2, .inl (ck 2, 32, .inl (v2 2))), (p9, .inr (1, [.ref q9, .int (nI cn)])), (q9, .inl (cp, 64, .inl f))] t.heap ∧ va_K (dC, dI) classes [(ca, .object "VotedTriple$VotedModule"), (cr 0, .int), (ck 0, .int), (cr 1, .int), (ck 1, .int), (cr 2, .int), (ck 2, .int), (cp, .int)] t ∧ va_D (va_A [(h0, .inr (0, oT uT p9 a9 e9 n9 o9)), (a9, .inl (ca, 3, .inr (.inr (.inr (.inr (mo da)))))), (da 0, .inr (2, oD (F 0) (ra 0) (ka 0))), (ra 0, .inl (cr 0, 8, .inl (g 0))), (ka 0, .inl (ck 0, 32, .inl (v 0))), (da 1, .inr (2, oD (F 1) (ra 1) (ka 1))), (ra 1, .inl (cr 1, 8, .inl (g 1))), (ka 1, .inl (ck 1, 32, .inl (v 1))), (da 2, .inr (2, oD (F 2) (ra 2) (ka 2))), (ra 2, .inl (cr 2, 8, .inl (g 2))), (ka 2, .inl (ck 2, 32, .inl (v 2))), (p9, .inr (1, [.ref q9, .int (nI cn)])), (q9, .inl (cp, 64, .inl f))] sz) [(h0, .inr (0, oT uT p9 a9 e9 n9 o9)), (a9, .inl (ca, 3, .inr (.inr (.inr (.inr (mo da)))))), (da 0, .inr (2, oD (F2 0) (ra 0) (ka 0))), (ra 0, .inl (cr 0, 8, .inl (g2 0))), (ka 0, .inl (ck 0, 32, .inl (v2 0))), (da 1, .inr (2, oD (F2 1) (ra 1) (ka 1))), (ra 1, .inl (cr 1, 8, .inl (g2 1))), (ka 1, .inl (ck 1, 32, .inl (v2 1))), (da 2, .inr (2, oD (F2 2) (ra 2) (ka 2))), (ra 2, .inl (cr 2, 8, .inl (g2 2))), (ka 2, .inl (ck 2, 32, .inl (v2 2))), (p9, .inr (1, [.ref q9, .int (nI cn)])), (q9, .inl (cp, 64, .inl f))]) (va_A [(h0, .inr (0, oT uT p9 a9 e9 n9 o9)), (a9, .inl (ca, 3, .inr (.inr (.inr (.inr (mo da)))))), (da 0, .inr (2, oD (F 0) (ra 0) (ka 0))), (ra 0, .inl (cr 0, 8, .inl (g 0))), (ka 0, .inl (ck 0, 32, .inl (v 0))), (da 1, .inr (2, oD (F 1) (ra 1) (ka 1))), (ra 1, .inl (cr 1, 8, .inl (g 1))), (ka 1, .inl (ck 1, 32, .inl (v 1))), (da 2, .inr (2, oD (F 2) (ra 2) (ka 2))), (ra 2, .inl (cr 2, 8, .inl (g 2))), (ka 2, .inl (ck 2, 32, .inl (v 2))), (p9, .inr (1, [.ref q9, .int (nI cn)])), (q9, .inl (cp, 64, .inl f))] sz)) 0 0 (va_A [(h0, .inr (0, oT uT p9 a9 e9 n9 o9)), (a9, .inl (ca, 3, .inr (.inr (.inr (.inr (mo da)))))), (da 0, .inr (2, oD (F 0) (ra 0) (ka 0))), (ra 0, .inl (cr 0, 8, .inl (g 0))), (ka 0, .inl (ck 0, 32, .inl (v 0))), (da 1, .inr (2, oD (F 1) (ra 1) (ka 1))), (ra 1, .inl (cr 1, 8, .inl (g 1))), (ka 1, .inl (ck 1, 32, .inl (v 1))), (da 2, .inr (2, oD (F 2) (ra 2) (ka 2))), (ra 2, .inl (cr 2, 8, .inl (g 2))), (ka 2, .inl (ck 2, 32, .inl (v 2))), (p9, .inr (1, [.ref q9, .int (nI cn)])), (q9, .inl (cp, 64, .inl f))] sz) := by
  refine va_MetW (cc := b_L_flip) (maxL := 6) (ret := (some .int)) (hh := [(0, 9, 12, 20)]) (by decide) rfl ?_
  intro p e s m args below meth c s₁ B hml hv
  obtain ⟨rfl, hsz, hP, hK, hD0, hnw⟩ := hv
  have hx := B.exec
  have hb := B.bytes
  have hr := B.returns
  have hts := atoms_spec (ws := (tbx (Cond.codeWith y_L_flip b_L_flip 6 (some .int) [(0, 9, 12, 20)]))) B.pre
  have hw : ∀ z9 ∈ tb, z9.before ([.ref h0, .int x, .int y, .int z, .int u] : List Value).toArray s = true := fun z9 h => hts z9 (List.mem_cons_of_mem _ h)
  have hown : s.vm.findClass "VotedTripleLaw" = some m.cls := findClass_of_methodNamed B.named
  have hlocks := B.notSynchronized
  obtain ⟨tr9, htab⟩ := tab_body B (hts _ List.mem_cons_self)
  subst hsz
  replace hD := hD0.self (sz := s.heap.size)
  generalize hAe : va_A [(h0, .inr (0, oT uT p9 a9 e9 n9 o9)), (a9, .inl (ca, 3, .inr (.inr (.inr (.inr (mo da)))))), (da 0, .inr (2, oD (F 0) (ra 0) (ka 0))), (ra 0, .inl (cr 0, 8, .inl (g 0))), (ka 0, .inl (ck 0, 32, .inl (v 0))), (da 1, .inr (2, oD (F 1) (ra 1) (ka 1))), (ra 1, .inl (cr 1, 8, .inl (g 1))), (ka 1, .inl (ck 1, 32, .inl (v 1))), (da 2, .inr (2, oD (F 2) (ra 2) (ka 2))), (ra 2, .inl (cr 2, 8, .inl (g 2))), (ka 2, .inl (ck 2, 32, .inl (v 2))), (p9, .inr (1, [.ref q9, .int (nI cn)])), (q9, .inl (cp, 64, .inl f))] s.heap.size = A at hD ⊢
  have hA : ∀ q : Nat, s.heap.size ≤ q → A q := fun q h => by rw [← hAe]; exact Or.inr h
  have hS : va_S A s.heap s.heap [] := va_S.rf
  replace hl := lv_entry ([.ref h0, .int x, .int y, .int z, .int u]) (n := 6) (Nat.le_of_ble_eq_true rfl)
  rw [lg_entry_eq]
  generalize (lg_sl ([.ref h0, .int x, .int y, .int z, .int u]) ++ List.replicate (6 - (lg_sl ([.ref h0, .int x, .int y, .int z, .int u])).length) Slot.unset).toArray = ls at hl ⊢
  replace hl : lv_has ls 6 [(0, .ref h0), (1, .int x), (2, .int y), (3, .int z), (4, .int u)] := hl
  generalize hSP : s_L_flip_r F g v cn x y z u = SP
  refine lv_aload_n hx hb d_L_flip_0 rfl (lv_at hl 0 rfl) ?_
  refine lv_iload_n hx hb d_L_flip_1 rfl (lv_at hl 1 rfl) ?_
  refine lv_iload_n hx hb d_L_flip_2 rfl (lv_at hl 2 rfl) ?_
  refine lv_iload_n hx hb d_L_flip_3 rfl (lv_at hl 3 rfl) ?_
  refine lv_iload hx hb d_L_flip_4 (lv_at hl 4 rfl) ?_
  replace hPc := hP.sub (ws' := [(h0, .inr (0, oT uT p9 a9 e9 n9 o9)), (a9, .inl (ca, 3, .inr (.inr (.inr (.inr (mo da)))))), (da 0, .inr (2, oD (F 0) (ra 0) (ka 0))), (ra 0, .inl (cr 0, 8, .inl (g 0))), (ka 0, .inl (ck 0, 32, .inl (v 0))), (da 1, .inr (2, oD (F 1) (ra 1) (ka 1))), (ra 1, .inl (cr 1, 8, .inl (g 1))), (ka 1, .inl (ck 1, 32, .inl (v 1))), (da 2, .inr (2, oD (F 2) (ra 2) (ka 2))), (ra 2, .inl (cr 2, 8, .inl (g 2))), (ka 2, .inl (ck 2, 32, .inl (v 2))), (p9, .inr (1, [.ref q9, .int (nI cn)])), (q9, .inl (cp, 64, .inl f))]) [0, 1, 2, 3, 4, 5, 6, 7, 8, 9, 10, 11, 12] rfl
  replace hKc := hK.sub (tys' := [(ca, .object "VotedTriple$VotedModule"), (cr 0, .int), (ck 0, .int), (cr 1, .int), (ck 1, .int), (cr 2, .int), (ck 2, .int), (cp, .int)]) [0, 1, 2, 3, 4, 5, 6, 7] rfl
  replace hDc := hD.sub (ws' := [(h0, .inr (0, oT uT p9 a9 e9 n9 o9)), (a9, .inl (ca, 3, .inr (.inr (.inr (.inr (mo da)))))), (da 0, .inr (2, oD (F 0) (ra 0) (ka 0))), (ra 0, .inl (cr 0, 8, .inl (g 0))), (ka 0, .inl (ck 0, 32, .inl (v 0))), (da 1, .inr (2, oD (F 1) (ra 1) (ka 1))), (ra 1, .inl (cr 1, 8, .inl (g 1))), (ka 1, .inl (ck 1, 32, .inl (v 1))), (da 2, .inr (2, oD (F 2) (ra 2) (ka 2))), (ra 2, .inl (cr 2, 8, .inl (g 2))), (ka 2, .inl (ck 2, 32, .inl (v 2))), (p9, .inr (1, [.ref q9, .int (nI cn)])), (q9, .inl (cp, 64, .inl f))]) [0, 1, 2, 3, 4, 5, 6, 7, 8, 9, 10, 11, 12] (by decide) rfl
  replace hFc := va_free (wc := [(h0, .inr (0, oT uT p9 a9 e9 n9 o9)), (a9, .inl (ca, 3, .inr (.inr (.inr (.inr (mo da)))))), (da 0, .inr (2, oD (F 0) (ra 0) (ka 0))), (ra 0, .inl (cr 0, 8, .inl (g 0))), (ka 0, .inl (ck 0, 32, .inl (v 0))), (da 1, .inr (2, oD (F 1) (ra 1) (ka 1))), (ra 1, .inl (cr 1, 8, .inl (g 1))), (ka 1, .inl (ck 1, 32, .inl (v 1))), (da 2, .inr (2, oD (F 2) (ra 2) (ka 2))), (ra 2, .inl (cr 2, 8, .inl (g 2))), (ka 2, .inl (ck 2, 32, .inl (v 2))), (p9, .inr (1, [.ref q9, .int (nI cn)])), (q9, .inl (cp, 64, .inl f))]) hD hS hA [0, 1, 2, 3, 4, 5, 6, 7, 8, 9, 10, 11, 12] rfl
  refine va_callv (va_runV (C := "VotedTriple") (As := [.int x, .int y, .int z, .int u]) (rest := []) ⟨hx, hb, hml, hown, hw⟩ (c_T_flip l dC dI h0 p9 a9 e9 n9 o9 ca da ra ka cr ck q9 cp uT F g v cn f x y z u hF hg hc hm1 hb1 s.heap.size) (cwV 4 hw (gdV (k_709) (k_706) (k_707) (k_708) (k_1)) rfl rfl rfl (by decide +kernel) ⟨Nat.le_of_ble_eq_true rfl, Nat.le_of_ble_eq_true rfl⟩) ⟨fun a U g mk q => by obtain ⟨q0, q1, qP, qK, qD⟩ := q; exact ⟨q0, q1, qP, va_K.moved (u := U) (U := U.calling g mk a) (Vm.Alike.refl U.vm) qK, qD⟩, va_recv hK hP rfl (q0 := 0) rfl, fun U hU hW => ⟨rfl, by rw [hU], by rw [hU]; exact hPc, va_K.moved hW.alike hKc, hDc.weaken (fun _ _ _ _ => trivial)⟩⟩ rfl rfl hl.1 rfl (lv_room (Nat.le_of_ble_eq_true rfl)) d_L_flip_6 ⟨Nat.le_of_ble_eq_true rfl, Nat.le_of_ble_eq_true rfl⟩) hS (fun q _ h => hFc q h) hFc (fun u9 t H1 locs ht hvm hr2 hB hz1 hk1 hS => ?_)
  obtain ⟨F23, g24, v25⟩ := u9
  obtain ⟨hP1, hK1, hD1⟩ := hB
  rw [ht] at hP1
  replace hK1 := va_K.moved hvm.symm hK1
  try dsimp only at hr2 hP1 hK1 hD1
  obtain ⟨hr2, hr2E⟩ := hr2
  obtain ⟨hPz, hDz⟩ := va_join (wr := []) (w1 := [(h0, .inr (0, oT uT p9 a9 e9 n9 o9)), (a9, .inl (ca, 3, .inr (.inr (.inr (.inr (mo da)))))), (da 0, .inr (2, oD (F23 0) (ra 0) (ka 0))), (ra 0, .inl (cr 0, 8, .inl (g24 0))), (ka 0, .inl (ck 0, 32, .inl (v25 0))), (da 1, .inr (2, oD (F23 1) (ra 1) (ka 1))), (ra 1, .inl (cr 1, 8, .inl (g24 1))), (ka 1, .inl (ck 1, 32, .inl (v25 1))), (da 2, .inr (2, oD (F23 2) (ra 2) (ka 2))), (ra 2, .inl (cr 2, 8, .inl (g24 2))), (ka 2, .inl (ck 2, 32, .inl (v25 2))), (p9, .inr (1, [.ref q9, .int (nI cn)])), (q9, .inl (cp, 64, .inl f))]) hP hD [0, 1, 2, 3, 4, 5, 6, 7, 8, 9, 10, 11, 12] [] rfl rfl (by decide) (by decide) hk1 hFc hP1 hD1
  clear hP hD hPc hDc hP1 hD1 hFc
  have hP := hPz
  have hD := hDz
  clear hPz hDz
  replace hK := (hK.sub (tys' := []) [] rfl).app hK1
  clear hK1 hKc
  generalize H1 = H at hP hS ⊢
  replace hP : va_P (dC, dI) classes [(h0, .inr (0, oT uT p9 a9 e9 n9 o9)), (a9, .inl (ca, 3, .inr (.inr (.inr (.inr (mo da)))))), (da 0, .inr (2, oD (F23 0) (ra 0) (ka 0))), (ra 0, .inl (cr 0, 8, .inl (g24 0))), (ka 0, .inl (ck 0, 32, .inl (v25 0))), (da 1, .inr (2, oD (F23 1) (ra 1) (ka 1))), (ra 1, .inl (cr 1, 8, .inl (g24 1))), (ka 1, .inl (ck 1, 32, .inl (v25 1))), (da 2, .inr (2, oD (F23 2) (ra 2) (ka 2))), (ra 2, .inl (cr 2, 8, .inl (g24 2))), (ka 2, .inl (ck 2, 32, .inl (v25 2))), (p9, .inr (1, [.ref q9, .int (nI cn)])), (q9, .inl (cp, 64, .inl f))] H := hP
  replace hD : va_D A [(h0, .inr (0, oT uT p9 a9 e9 n9 o9)), (a9, .inl (ca, 3, .inr (.inr (.inr (.inr (mo da)))))), (da 0, .inr (2, oD (F23 0) (ra 0) (ka 0))), (ra 0, .inl (cr 0, 8, .inl (g24 0))), (ka 0, .inl (ck 0, 32, .inl (v25 0))), (da 1, .inr (2, oD (F23 1) (ra 1) (ka 1))), (ra 1, .inl (cr 1, 8, .inl (g24 1))), (ka 1, .inl (ck 1, 32, .inl (v25 1))), (da 2, .inr (2, oD (F23 2) (ra 2) (ka 2))), (ra 2, .inl (cr 2, 8, .inl (g24 2))), (ka 2, .inl (ck 2, 32, .inl (v25 2))), (p9, .inr (1, [.ref q9, .int (nI cn)])), (q9, .inl (cp, 64, .inl f))] := hD
  replace hK : va_K (dC, dI) classes [(ca, .object "VotedTriple$VotedModule"), (cr 0, .int), (ck 0, .int), (cr 1, .int), (ck 1, .int), (cr 2, .int), (ck 2, .int), (cp, .int)] s := hK
  refine W.widen (k := 0) (n := 0) (Nat.le_of_ble_eq_true rfl) (Nat.le_of_ble_eq_true rfl) ?_
  refine lv_goto (tgt := 16) hx hb d_L_flip_9 rfl ?_
  refine lv_iconst (v := 0) hx hb d_L_flip_16 (by decide) ?_
  have hP9 := hP.sub (ws' := [(h0, .inr (0, oT uT p9 a9 e9 n9 o9)), (a9, .inl (ca, 3, .inr (.inr (.inr (.inr (mo da)))))), (da 0, .inr (2, oD (F23 0) (ra 0) (ka 0))), (ra 0, .inl (cr 0, 8, .inl (g24 0))), (ka 0, .inl (ck 0, 32, .inl (v25 0))), (da 1, .inr (2, oD (F23 1) (ra 1) (ka 1))), (ra 1, .inl (cr 1, 8, .inl (g24 1))), (ka 1, .inl (ck 1, 32, .inl (v25 1))), (da 2, .inr (2, oD (F23 2) (ra 2) (ka 2))), (ra 2, .inl (cr 2, 8, .inl (g24 2))), (ka 2, .inl (ck 2, 32, .inl (v25 2))), (p9, .inr (1, [.ref q9, .int (nI cn)])), (q9, .inl (cp, 64, .inl f))]) [0, 1, 2, 3, 4, 5, 6, 7, 8, 9, 10, 11, 12] rfl
  have hD9 := hD.sub (ws' := [(h0, .inr (0, oT uT p9 a9 e9 n9 o9)), (a9, .inl (ca, 3, .inr (.inr (.inr (.inr (mo da)))))), (da 0, .inr (2, oD (F23 0) (ra 0) (ka 0))), (ra 0, .inl (cr 0, 8, .inl (g24 0))), (ka 0, .inl (ck 0, 32, .inl (v25 0))), (da 1, .inr (2, oD (F23 1) (ra 1) (ka 1))), (ra 1, .inl (cr 1, 8, .inl (g24 1))), (ka 1, .inl (ck 1, 32, .inl (v25 1))), (da 2, .inr (2, oD (F23 2) (ra 2) (ka 2))), (ra 2, .inl (cr 2, 8, .inl (g24 2))), (ka 2, .inl (ck 2, 32, .inl (v25 2))), (p9, .inr (1, [.ref q9, .int (nI cn)])), (q9, .inl (cp, 64, .inl f))]) [0, 1, 2, 3, 4, 5, 6, 7, 8, 9, 10, 11, 12] (by decide) rfl
  have hK9 := hK.sub (tys' := [(ca, .object "VotedTriple$VotedModule"), (cr 0, .int), (ck 0, .int), (cr 1, .int), (ck 1, .int), (cr 2, .int), (ck 2, .int), (cp, .int)]) [0, 1, 2, 3, 4, 5, 6, 7] rfl
  refine W.widen (k := 0) (n := 0) (Nat.le_of_ble_eq_true rfl) (Nat.le_of_ble_eq_true rfl) ?_
  exact W.iret (v := 0) hx hb hr (fun t ht hW => ⟨⟨_, (F23, g24, v25), rfl, ⟨⟨rfl, hr2.1, hr2.2⟩, (by rw [← hSP, s_L_flip_r]; try (rw [← hr2E, bnd_eq]); try dsimp only; all_goals rfl)⟩, by rw [ht]; exact hP9, va_K.moved hW.alike hK9, hD9⟩, hS.F ht⟩) hS.2.2 d_L_flip_17

set_option maxHeartbeats 4000000 in
set_option maxRecDepth 100000 in
theorem c_L_step_I (l : Launch) (hst : l.stackTraces = false) (dC : Nat → ClassId) (dI : Nat → Nat → Nat) (h0 : Nat) (p9 : Nat) (a9 : Nat) (e9 : Nat) (n9 : Nat) (o9 : Nat) (uT : Nat → Int32) (x : Int32) (h50 : uT 5 = 0) (ov : Nat) (sz : Nat) : Met l y_L_step (tbx (Cond.codeWith y_L_step b_L_step 4 (some .int) [(0, 9, 12, 13), (0, 9, 15, 15)])) ({ frames := 7, cells := 1, slots := 6, locals := 112 }) (va_Pc [.ref h0, .int x, .ref ov] (fun U => U.heap.size = sz ∧ va_P (dC, dI) classes [(h0, .inr (0, oT uT p9 a9 e9 n9 o9))] U.heap ∧ va_K (dC, dI) classes [] U ∧ va_D (fun _ => True) [(h0, .inr (0, oT uT p9 a9 e9 n9 o9))] ∧ nw U ∧ tw (fun _ => False) U U.heap)) (va_Qi (fun (r : Int32) (u9 : Unit) => match u9 with | _ => r = 1) (fun (u9 : Unit) t => match u9 with | _ => va_P (dC, dI) classes [(h0, .inr (0, oT uT p9 a9 e9 n9 o9))] t.heap ∧ va_K (dC, dI) classes [] t ∧ va_D (va_A [(h0, .inr (0, oT uT p9 a9 e9 n9 o9))] sz) [(h0, .inr (0, oT uT p9 a9 e9 n9 o9))]) (va_A [(h0, .inr (0, oT uT p9 a9 e9 n9 o9))] sz)) 1 6 (va_A [(h0, .inr (0, oT uT p9 a9 e9 n9 o9))] sz) := by
  refine va_MetW (cc := b_L_step) (maxL := 4) (ret := (some .int)) (hh := [(0, 9, 12, 13), (0, 9, 15, 15)]) (by decide) rfl ?_
  intro p e s m args below meth c s₁ B hml hv
  obtain ⟨rfl, hsz, hP, hK, hD0, hnw, htw⟩ := hv
  have hx := B.exec
  have hb := B.bytes
  have hr := B.returns
  have hts := atoms_spec (ws := (tbx (Cond.codeWith y_L_step b_L_step 4 (some .int) [(0, 9, 12, 13), (0, 9, 15, 15)]))) B.pre
  have hw : ∀ z9 ∈ tb, z9.before ([.ref h0, .int x, .ref ov] : List Value).toArray s = true := fun z9 h => hts z9 (List.mem_cons_of_mem _ h)
  have hown : s.vm.findClass "VotedTripleLaw" = some m.cls := findClass_of_methodNamed B.named
  have hlocks := B.notSynchronized
  obtain ⟨tr9, htab⟩ := tab_body B (hts _ List.mem_cons_self)
  subst hsz
  replace hD := hD0.self (sz := s.heap.size)
  generalize hAe : va_A [(h0, .inr (0, oT uT p9 a9 e9 n9 o9))] s.heap.size = A at hD ⊢
  have hA : ∀ q : Nat, s.heap.size ≤ q → A q := fun q h => by rw [← hAe]; exact Or.inr h
  have hS : va_S A s.heap s.heap [] := va_S.rf
  replace hl := lv_entry ([.ref h0, .int x, .ref ov]) (n := 4) (Nat.le_of_ble_eq_true rfl)
  rw [lg_entry_eq]
  generalize (lg_sl ([.ref h0, .int x, .ref ov]) ++ List.replicate (4 - (lg_sl ([.ref h0, .int x, .ref ov])).length) Slot.unset).toArray = ls at hl ⊢
  replace hl : lv_has ls 4 [(0, .ref h0), (1, .int x), (2, .ref ov)] := hl
  refine lv_aload_n hx hb d_L_step_0 rfl (lv_at hl 2 rfl) ?_
  refine lv_iconst (v := 0) hx hb d_L_step_1 (by decide) ?_
  refine lv_aload_n hx hb d_L_step_2 rfl (lv_at hl 0 rfl) ?_
  refine lv_iload_n hx hb d_L_step_3 rfl (lv_at hl 1 rfl) ?_
  replace hPc := hP.sub (ws' := [(h0, .inr (0, oT uT p9 a9 e9 n9 o9))]) [0] rfl
  replace hKc := hK.sub (tys' := []) [] rfl
  refine tx_callV (C := "VotedTriple") (As := [.int x]) (rest := [.int 0, .ref ov]) ⟨hx, hb, hml, hown, hw⟩ (c_T_step_I l hst dC dI h0 p9 a9 e9 n9 o9 uT x h50) (cwV 1 hw (gdV (k_392) (k_389) (k_390) (k_391) (k_1)) rfl rfl rfl (by decide +kernel) ⟨Nat.le_of_ble_eq_true rfl, Nat.le_of_ble_eq_true rfl⟩) ⟨fun a U g mk q => ⟨q.1, q.2.1, va_K.moved (u := U) (U := U.calling g mk a) (Vm.Alike.refl U.vm) q.2.2.1, nw_vm (u := U) (U := U.calling g mk a) rfl q.2.2.2.1, tw_vm (u := U) (U := U.calling g mk a) rfl q.2.2.2.2⟩, va_recv hK hP rfl (q0 := 0) rfl, fun U hU hW => ⟨rfl, by rw [hU]; exact hPc, va_K.moved hW.alike hKc, nw_warm hW hnw, by rw [hU]; exact tw_warm hW htw⟩⟩ rfl hl.1 (Nat.le_of_ble_eq_true rfl) d_L_step_4 ⟨Nat.le_of_ble_eq_true rfl, Nat.le_of_ble_eq_true rfl⟩ htab (by decide) (by decide) (hw _ k_387) (fun x9 H hz9 hk9 => ?_)
  replace hP : va_P (dC, dI) classes [(h0, .inr (0, oT uT p9 a9 e9 n9 o9))] H := hP.kept (fun k q hq => hk9 _ (hP k q hq).lt)
  have hS : va_S A s.heap H [] := ⟨hz9, fun q h1 _ => hk9 q h1, fun _ h => by cases h⟩
  refine W.widen (k := 1) (n := 6) (Nat.le_of_ble_eq_true rfl) (Nat.le_of_ble_eq_true rfl) ?_
  refine W.eq (g2 := F0 m 12 ls [.ref x9]) rfl ?_
  refine lv_astore_n hx hb d_L_step_12 rfl hl (by decide) rfl (fun ls hl => ?_)
  replace hl : lv_has ls 4 [(3, .ref x9), (0, .ref h0), (1, .int x), (2, .ref ov)] := hl
  refine lv_iconst (v := 1) hx hb d_L_step_13 (by decide) ?_
  have hP9 := hP.sub (ws' := [(h0, .inr (0, oT uT p9 a9 e9 n9 o9))]) [0] rfl
  have hD9 := hD.sub (ws' := [(h0, .inr (0, oT uT p9 a9 e9 n9 o9))]) [0] (by decide) rfl
  have hK9 := hK.sub (tys' := []) [] rfl
  refine W.widen (k := 1) (n := 6) (Nat.le_of_ble_eq_true rfl) (Nat.le_of_ble_eq_true rfl) ?_
  exact W.iret (v := 1) hx hb hr (fun t ht hW => ⟨⟨_, (), rfl, rfl, by rw [ht]; exact hP9, va_K.moved hW.alike hK9, hD9⟩, hS.F ht⟩) hS.2.2 d_L_step_14

set_option maxHeartbeats 4000000 in
set_option maxRecDepth 100000 in
theorem c_L_step_A (l : Launch) (hst : l.stackTraces = false) (dC : Nat → ClassId) (dI : Nat → Nat → Nat) (h0 : Nat) (p9 : Nat) (a9 : Nat) (e9 : Nat) (n9 : Nat) (o9 : Nat) (uT : Nat → Int32) (x : Int32) (h51 : ¬ uT 5 = 0) (hr9 : (x < 1 ∨ 2000 < x)) (ov : Nat) (sz : Nat) : Met l y_L_step (tbx (Cond.codeWith y_L_step b_L_step 4 (some .int) [(0, 9, 12, 13), (0, 9, 15, 15)])) ({ frames := 7, cells := 1, slots := 6, locals := 112 }) (va_Pc [.ref h0, .int x, .ref ov] (fun U => U.heap.size = sz ∧ va_P (dC, dI) classes [(h0, .inr (0, oT uT p9 a9 e9 n9 o9))] U.heap ∧ va_K (dC, dI) classes [] U ∧ va_D (fun _ => True) [(h0, .inr (0, oT uT p9 a9 e9 n9 o9))] ∧ nw U ∧ tw (fun _ => False) U U.heap ∧ nc U)) (va_Qi (fun (r : Int32) (u9 : Unit) => match u9 with | _ => r = 2) (fun (u9 : Unit) t => match u9 with | _ => va_P (dC, dI) classes [(h0, .inr (0, oT uT p9 a9 e9 n9 o9))] t.heap ∧ va_K (dC, dI) classes [] t ∧ va_D (va_A [(h0, .inr (0, oT uT p9 a9 e9 n9 o9))] sz) [(h0, .inr (0, oT uT p9 a9 e9 n9 o9))]) (va_A [(h0, .inr (0, oT uT p9 a9 e9 n9 o9))] sz)) 1 6 (va_A [(h0, .inr (0, oT uT p9 a9 e9 n9 o9))] sz) := by
  refine va_MetW (cc := b_L_step) (maxL := 4) (ret := (some .int)) (hh := [(0, 9, 12, 13), (0, 9, 15, 15)]) (by decide) rfl ?_
  intro p e s m args below meth c s₁ B hml hv
  obtain ⟨rfl, hsz, hP, hK, hD0, hnw, htw, hnc⟩ := hv
  have hx := B.exec
  have hb := B.bytes
  have hr := B.returns
  have hts := atoms_spec (ws := (tbx (Cond.codeWith y_L_step b_L_step 4 (some .int) [(0, 9, 12, 13), (0, 9, 15, 15)]))) B.pre
  have hw : ∀ z9 ∈ tb, z9.before ([.ref h0, .int x, .ref ov] : List Value).toArray s = true := fun z9 h => hts z9 (List.mem_cons_of_mem _ h)
  have hown : s.vm.findClass "VotedTripleLaw" = some m.cls := findClass_of_methodNamed B.named
  have hlocks := B.notSynchronized
  obtain ⟨tr9, htab⟩ := tab_body2 B (hts _ List.mem_cons_self)
  subst hsz
  replace hD := hD0.self (sz := s.heap.size)
  generalize hAe : va_A [(h0, .inr (0, oT uT p9 a9 e9 n9 o9))] s.heap.size = A at hD ⊢
  have hA : ∀ q : Nat, s.heap.size ≤ q → A q := fun q h => by rw [← hAe]; exact Or.inr h
  have hS : va_S A s.heap s.heap [] := va_S.rf
  replace hl := lv_entry ([.ref h0, .int x, .ref ov]) (n := 4) (Nat.le_of_ble_eq_true rfl)
  rw [lg_entry_eq]
  generalize (lg_sl ([.ref h0, .int x, .ref ov]) ++ List.replicate (4 - (lg_sl ([.ref h0, .int x, .ref ov])).length) Slot.unset).toArray = ls at hl ⊢
  replace hl : lv_has ls 4 [(0, .ref h0), (1, .int x), (2, .ref ov)] := hl
  refine lv_aload_n hx hb d_L_step_0 rfl (lv_at hl 2 rfl) ?_
  refine lv_iconst (v := 0) hx hb d_L_step_1 (by decide) ?_
  refine lv_aload_n hx hb d_L_step_2 rfl (lv_at hl 0 rfl) ?_
  refine lv_iload_n hx hb d_L_step_3 rfl (lv_at hl 1 rfl) ?_
  replace hPc := hP.sub (ws' := [(h0, .inr (0, oT uT p9 a9 e9 n9 o9))]) [0] rfl
  replace hKc := hK.sub (tys' := []) [] rfl
  refine tx_callV2 (C := "VotedTriple") (As := [.int x]) (rest := [.int 0, .ref ov]) ⟨hx, hb, hml, hown, hw⟩ (c_T_step_A l hst dC dI h0 p9 a9 e9 n9 o9 uT x h51 hr9) (cwV 1 hw (gdV (k_392) (k_389) (k_390) (k_391) (k_1)) rfl rfl rfl (by decide +kernel) ⟨Nat.le_of_ble_eq_true rfl, Nat.le_of_ble_eq_true rfl⟩) ⟨fun a U g mk q => ⟨q.1, q.2.1, va_K.moved (u := U) (U := U.calling g mk a) (Vm.Alike.refl U.vm) q.2.2.1, nw_vm (u := U) (U := U.calling g mk a) rfl q.2.2.2.1, tw_vm (u := U) (U := U.calling g mk a) rfl q.2.2.2.2⟩, va_recv hK hP rfl (q0 := 0) rfl, fun U hU hW => ⟨rfl, by rw [hU]; exact hPc, va_K.moved hW.alike hKc, nw_warm hW hnw, by rw [hU]; exact tw_warm hW htw⟩⟩ rfl hl.1 (Nat.le_of_ble_eq_true rfl) d_L_step_4 ⟨Nat.le_of_ble_eq_true rfl, Nat.le_of_ble_eq_true rfl⟩ htab (by decide) (by decide) (hw _ k_387) (by decide) (by decide) (hw _ k_388) hnc (fun x9 H hz9 hk9 => ?_)
  replace hP : va_P (dC, dI) classes [(h0, .inr (0, oT uT p9 a9 e9 n9 o9))] H := hP.kept (fun k q hq => hk9 _ (hP k q hq).lt)
  have hS : va_S A s.heap H [] := ⟨hz9, fun q h1 _ => hk9 q h1, fun _ h => by cases h⟩
  refine W.widen (k := 1) (n := 6) (Nat.le_of_ble_eq_true rfl) (Nat.le_of_ble_eq_true rfl) ?_
  refine W.eq (g2 := F0 m 15 ls [.ref x9]) rfl ?_
  refine lv_astore_n hx hb d_L_step_15 rfl hl (by decide) rfl (fun ls hl => ?_)
  replace hl : lv_has ls 4 [(3, .ref x9), (0, .ref h0), (1, .int x), (2, .ref ov)] := hl
  refine lv_iconst (v := 2) hx hb d_L_step_16 (by decide) ?_
  have hP9 := hP.sub (ws' := [(h0, .inr (0, oT uT p9 a9 e9 n9 o9))]) [0] rfl
  have hD9 := hD.sub (ws' := [(h0, .inr (0, oT uT p9 a9 e9 n9 o9))]) [0] (by decide) rfl
  have hK9 := hK.sub (tys' := []) [] rfl
  refine W.widen (k := 1) (n := 6) (Nat.le_of_ble_eq_true rfl) (Nat.le_of_ble_eq_true rfl) ?_
  exact W.iret (v := 2) hx hb hr (fun t ht hW => ⟨⟨_, (), rfl, rfl, by rw [ht]; exact hP9, va_K.moved hW.alike hK9, hD9⟩, hS.F ht⟩) hS.2.2 d_L_step_17

set_option maxHeartbeats 4000000 in
set_option maxRecDepth 100000 in
theorem c_L_output_T (l : Launch) (hst : l.stackTraces = false) (dC : Nat → ClassId) (dI : Nat → Nat → Nat) (h0 : Nat) (p9 : Nat) (a9 : Nat) (e9 : Nat) (n9 : Nat) (o9 : Nat) (ok9 : Nat) (cO : ClassId) (uT : Nat → Int32) (ko : Nat) (kp : Nat → Int32) (x : Int32) (hkp : kpB (nI ko) x = false) (ov : Nat) (sz : Nat) : Met l y_L_output (tbx (Cond.codeWith y_L_output b_L_output 4 (some .int) [(0, 9, 12, 20)])) ({ frames := 7, cells := 1, slots := 6, locals := 111 }) (va_Pc [.ref h0, .int x, .ref ov] (fun U => U.heap.size = sz ∧ va_P (dC, dI) classes [(h0, .inr (0, oT uT p9 a9 e9 n9 o9)), (o9, .inr (5, [.ref ok9, .int (nI ko)])), (ok9, .inl (cO, 300, .inl kp))] U.heap ∧ va_K (dC, dI) classes [(cO, .int)] U ∧ va_D (fun _ => True) [(h0, .inr (0, oT uT p9 a9 e9 n9 o9)), (o9, .inr (5, [.ref ok9, .int (nI ko)])), (ok9, .inl (cO, 300, .inl kp))] ∧ nw U ∧ tw (fun _ => False) U U.heap)) (va_Qi (fun (r : Int32) (u9 : Unit) => match u9 with | _ => r = 1) (fun (u9 : Unit) t => match u9 with | _ => va_P (dC, dI) classes [(h0, .inr (0, oT uT p9 a9 e9 n9 o9)), (o9, .inr (5, [.ref ok9, .int (nI ko)])), (ok9, .inl (cO, 300, .inl kp))] t.heap ∧ va_K (dC, dI) classes [(cO, .int)] t ∧ va_D (va_A [(h0, .inr (0, oT uT p9 a9 e9 n9 o9)), (o9, .inr (5, [.ref ok9, .int (nI ko)])), (ok9, .inl (cO, 300, .inl kp))] sz) [(h0, .inr (0, oT uT p9 a9 e9 n9 o9)), (o9, .inr (5, [.ref ok9, .int (nI ko)])), (ok9, .inl (cO, 300, .inl kp))]) (va_A [(h0, .inr (0, oT uT p9 a9 e9 n9 o9)), (o9, .inr (5, [.ref ok9, .int (nI ko)])), (ok9, .inl (cO, 300, .inl kp))] sz)) 1 6 (va_A [(h0, .inr (0, oT uT p9 a9 e9 n9 o9)), (o9, .inr (5, [.ref ok9, .int (nI ko)])), (ok9, .inl (cO, 300, .inl kp))] sz) := by
  refine va_MetW (cc := b_L_output) (maxL := 4) (ret := (some .int)) (hh := [(0, 9, 12, 20)]) (by decide) rfl ?_
  intro p e s m args below meth c s₁ B hml hv
  obtain ⟨rfl, hsz, hP, hK, hD0, hnw, htw⟩ := hv
  have hx := B.exec
  have hb := B.bytes
  have hr := B.returns
  have hts := atoms_spec (ws := (tbx (Cond.codeWith y_L_output b_L_output 4 (some .int) [(0, 9, 12, 20)]))) B.pre
  have hw : ∀ z9 ∈ tb, z9.before ([.ref h0, .int x, .ref ov] : List Value).toArray s = true := fun z9 h => hts z9 (List.mem_cons_of_mem _ h)
  have hown : s.vm.findClass "VotedTripleLaw" = some m.cls := findClass_of_methodNamed B.named
  have hlocks := B.notSynchronized
  obtain ⟨tr9, htab⟩ := tab_body B (hts _ List.mem_cons_self)
  subst hsz
  replace hD := hD0.self (sz := s.heap.size)
  generalize hAe : va_A [(h0, .inr (0, oT uT p9 a9 e9 n9 o9)), (o9, .inr (5, [.ref ok9, .int (nI ko)])), (ok9, .inl (cO, 300, .inl kp))] s.heap.size = A at hD ⊢
  have hA : ∀ q : Nat, s.heap.size ≤ q → A q := fun q h => by rw [← hAe]; exact Or.inr h
  have hS : va_S A s.heap s.heap [] := va_S.rf
  replace hl := lv_entry ([.ref h0, .int x, .ref ov]) (n := 4) (Nat.le_of_ble_eq_true rfl)
  rw [lg_entry_eq]
  generalize (lg_sl ([.ref h0, .int x, .ref ov]) ++ List.replicate (4 - (lg_sl ([.ref h0, .int x, .ref ov])).length) Slot.unset).toArray = ls at hl ⊢
  replace hl : lv_has ls 4 [(0, .ref h0), (1, .int x), (2, .ref ov)] := hl
  refine lv_aload_n hx hb d_L_output_0 rfl (lv_at hl 2 rfl) ?_
  refine lv_iconst (v := 0) hx hb d_L_output_1 (by decide) ?_
  refine lv_aload_n hx hb d_L_output_2 rfl (lv_at hl 0 rfl) ?_
  refine lv_iload_n hx hb d_L_output_3 rfl (lv_at hl 1 rfl) ?_
  replace hPc := hP.sub (ws' := [(h0, .inr (0, oT uT p9 a9 e9 n9 o9)), (o9, .inr (5, [.ref ok9, .int (nI ko)])), (ok9, .inl (cO, 300, .inl kp))]) [0, 1, 2] rfl
  replace hKc := hK.sub (tys' := [(cO, .int)]) [0] rfl
  refine tx_callV (C := "VotedTriple") (As := [.int x]) (rest := [.int 0, .ref ov]) ⟨hx, hb, hml, hown, hw⟩ (c_T_output_T l hst dC dI h0 p9 a9 e9 n9 o9 ok9 cO uT ko kp x hkp) (cwV 1 hw (gdV (k_674) (k_671) (k_672) (k_673) (k_1)) rfl rfl rfl (by decide +kernel) ⟨Nat.le_of_ble_eq_true rfl, Nat.le_of_ble_eq_true rfl⟩) ⟨fun a U g mk q => ⟨q.1, q.2.1, va_K.moved (u := U) (U := U.calling g mk a) (Vm.Alike.refl U.vm) q.2.2.1, nw_vm (u := U) (U := U.calling g mk a) rfl q.2.2.2.1, tw_vm (u := U) (U := U.calling g mk a) rfl q.2.2.2.2⟩, va_recv hK hP rfl (q0 := 0) rfl, fun U hU hW => ⟨rfl, by rw [hU]; exact hPc, va_K.moved hW.alike hKc, nw_warm hW hnw, by rw [hU]; exact tw_warm hW htw⟩⟩ rfl hl.1 (Nat.le_of_ble_eq_true rfl) d_L_output_4 ⟨Nat.le_of_ble_eq_true rfl, Nat.le_of_ble_eq_true rfl⟩ htab (by decide) (by decide) (hw _ k_670) (fun x9 H hz9 hk9 => ?_)
  replace hP : va_P (dC, dI) classes [(h0, .inr (0, oT uT p9 a9 e9 n9 o9)), (o9, .inr (5, [.ref ok9, .int (nI ko)])), (ok9, .inl (cO, 300, .inl kp))] H := hP.kept (fun k q hq => hk9 _ (hP k q hq).lt)
  have hS : va_S A s.heap H [] := ⟨hz9, fun q h1 _ => hk9 q h1, fun _ h => by cases h⟩
  refine W.widen (k := 1) (n := 6) (Nat.le_of_ble_eq_true rfl) (Nat.le_of_ble_eq_true rfl) ?_
  refine W.eq (g2 := F0 m 12 ls [.ref x9]) rfl ?_
  refine lv_astore_n hx hb d_L_output_12 rfl hl (by decide) rfl (fun ls hl => ?_)
  replace hl : lv_has ls 4 [(3, .ref x9), (0, .ref h0), (1, .int x), (2, .ref ov)] := hl
  refine lv_iconst (v := 1) hx hb d_L_output_13 (by decide) ?_
  have hP9 := hP.sub (ws' := [(h0, .inr (0, oT uT p9 a9 e9 n9 o9)), (o9, .inr (5, [.ref ok9, .int (nI ko)])), (ok9, .inl (cO, 300, .inl kp))]) [0, 1, 2] rfl
  have hD9 := hD.sub (ws' := [(h0, .inr (0, oT uT p9 a9 e9 n9 o9)), (o9, .inr (5, [.ref ok9, .int (nI ko)])), (ok9, .inl (cO, 300, .inl kp))]) [0, 1, 2] (by decide) rfl
  have hK9 := hK.sub (tys' := [(cO, .int)]) [0] rfl
  refine W.widen (k := 1) (n := 6) (Nat.le_of_ble_eq_true rfl) (Nat.le_of_ble_eq_true rfl) ?_
  exact W.iret (v := 1) hx hb hr (fun t ht hW => ⟨⟨_, (), rfl, rfl, by rw [ht]; exact hP9, va_K.moved hW.alike hK9, hD9⟩, hS.F ht⟩) hS.2.2 d_L_output_14

set_option maxHeartbeats 4000000 in
set_option maxRecDepth 100000 in
theorem c_L_perfect_T (l : Launch) (hst : l.stackTraces = false) (dC : Nat → ClassId) (dI : Nat → Nat → Nat) (h0 : Nat) (p9 : Nat) (a9 : Nat) (e9 : Nat) (n9 : Nat) (o9 : Nat) (er9 : Nat) (ce : ClassId) (eo9 : Nat) (ew9 : Nat) (cw : ClassId) (ek9 : Nat) (cq : ClassId) (uT : Nat → Int32) (Z : Nat → Int32) (eg : Nat → Int32) (ew : Nat → Int32) (ke : Nat) (pe : Nat → Int32) (x : Int32) (hkp : kpB (nI ke) x = false) (ov : Nat) (sz : Nat) : Met l y_L_perfect (tbx (Cond.codeWith y_L_perfect b_L_perfect 4 (some .int) [(0, 9, 12, 20)])) ({ frames := 7, cells := 1, slots := 6, locals := 111 }) (va_Pc [.ref h0, .int x, .ref ov] (fun U => U.heap.size = sz ∧ va_P (dC, dI) classes [(h0, .inr (0, oT uT p9 a9 e9 n9 o9)), (e9, .inr (3, oE Z er9 eo9 ew9)), (er9, .inl (ce, 8, .inl eg)), (ew9, .inl (cw, 32, .inl ew)), (eo9, .inr (5, [.ref ek9, .int (nI ke)])), (ek9, .inl (cq, 300, .inl pe))] U.heap ∧ va_K (dC, dI) classes [(ce, .int), (cw, .int), (cq, .int)] U ∧ va_D (fun _ => True) [(h0, .inr (0, oT uT p9 a9 e9 n9 o9)), (e9, .inr (3, oE Z er9 eo9 ew9)), (er9, .inl (ce, 8, .inl eg)), (ew9, .inl (cw, 32, .inl ew)), (eo9, .inr (5, [.ref ek9, .int (nI ke)])), (ek9, .inl (cq, 300, .inl pe))] ∧ nw U ∧ tw (fun _ => False) U U.heap)) (va_Qi (fun (r : Int32) (u9 : Unit) => match u9 with | _ => r = 1) (fun (u9 : Unit) t => match u9 with | _ => va_P (dC, dI) classes [(h0, .inr (0, oT uT p9 a9 e9 n9 o9)), (e9, .inr (3, oE Z er9 eo9 ew9)), (er9, .inl (ce, 8, .inl eg)), (ew9, .inl (cw, 32, .inl ew)), (eo9, .inr (5, [.ref ek9, .int (nI ke)])), (ek9, .inl (cq, 300, .inl pe))] t.heap ∧ va_K (dC, dI) classes [(ce, .int), (cw, .int), (cq, .int)] t ∧ va_D (va_A [(h0, .inr (0, oT uT p9 a9 e9 n9 o9)), (e9, .inr (3, oE Z er9 eo9 ew9)), (er9, .inl (ce, 8, .inl eg)), (ew9, .inl (cw, 32, .inl ew)), (eo9, .inr (5, [.ref ek9, .int (nI ke)])), (ek9, .inl (cq, 300, .inl pe))] sz) [(h0, .inr (0, oT uT p9 a9 e9 n9 o9)), (e9, .inr (3, oE Z er9 eo9 ew9)), (er9, .inl (ce, 8, .inl eg)), (ew9, .inl (cw, 32, .inl ew)), (eo9, .inr (5, [.ref ek9, .int (nI ke)])), (ek9, .inl (cq, 300, .inl pe))]) (va_A [(h0, .inr (0, oT uT p9 a9 e9 n9 o9)), (e9, .inr (3, oE Z er9 eo9 ew9)), (er9, .inl (ce, 8, .inl eg)), (ew9, .inl (cw, 32, .inl ew)), (eo9, .inr (5, [.ref ek9, .int (nI ke)])), (ek9, .inl (cq, 300, .inl pe))] sz)) 1 6 (va_A [(h0, .inr (0, oT uT p9 a9 e9 n9 o9)), (e9, .inr (3, oE Z er9 eo9 ew9)), (er9, .inl (ce, 8, .inl eg)), (ew9, .inl (cw, 32, .inl ew)), (eo9, .inr (5, [.ref ek9, .int (nI ke)])), (ek9, .inl (cq, 300, .inl pe))] sz) := by
  refine va_MetW (cc := b_L_perfect) (maxL := 4) (ret := (some .int)) (hh := [(0, 9, 12, 20)]) (by decide) rfl ?_
  intro p e s m args below meth c s₁ B hml hv
  obtain ⟨rfl, hsz, hP, hK, hD0, hnw, htw⟩ := hv
  have hx := B.exec
  have hb := B.bytes
  have hr := B.returns
  have hts := atoms_spec (ws := (tbx (Cond.codeWith y_L_perfect b_L_perfect 4 (some .int) [(0, 9, 12, 20)]))) B.pre
  have hw : ∀ z9 ∈ tb, z9.before ([.ref h0, .int x, .ref ov] : List Value).toArray s = true := fun z9 h => hts z9 (List.mem_cons_of_mem _ h)
  have hown : s.vm.findClass "VotedTripleLaw" = some m.cls := findClass_of_methodNamed B.named
  have hlocks := B.notSynchronized
  obtain ⟨tr9, htab⟩ := tab_body B (hts _ List.mem_cons_self)
  subst hsz
  replace hD := hD0.self (sz := s.heap.size)
  generalize hAe : va_A [(h0, .inr (0, oT uT p9 a9 e9 n9 o9)), (e9, .inr (3, oE Z er9 eo9 ew9)), (er9, .inl (ce, 8, .inl eg)), (ew9, .inl (cw, 32, .inl ew)), (eo9, .inr (5, [.ref ek9, .int (nI ke)])), (ek9, .inl (cq, 300, .inl pe))] s.heap.size = A at hD ⊢
  have hA : ∀ q : Nat, s.heap.size ≤ q → A q := fun q h => by rw [← hAe]; exact Or.inr h
  have hS : va_S A s.heap s.heap [] := va_S.rf
  replace hl := lv_entry ([.ref h0, .int x, .ref ov]) (n := 4) (Nat.le_of_ble_eq_true rfl)
  rw [lg_entry_eq]
  generalize (lg_sl ([.ref h0, .int x, .ref ov]) ++ List.replicate (4 - (lg_sl ([.ref h0, .int x, .ref ov])).length) Slot.unset).toArray = ls at hl ⊢
  replace hl : lv_has ls 4 [(0, .ref h0), (1, .int x), (2, .ref ov)] := hl
  refine lv_aload_n hx hb d_L_perfect_0 rfl (lv_at hl 2 rfl) ?_
  refine lv_iconst (v := 0) hx hb d_L_perfect_1 (by decide) ?_
  refine lv_aload_n hx hb d_L_perfect_2 rfl (lv_at hl 0 rfl) ?_
  refine lv_iload_n hx hb d_L_perfect_3 rfl (lv_at hl 1 rfl) ?_
  replace hPc := hP.sub (ws' := [(h0, .inr (0, oT uT p9 a9 e9 n9 o9)), (e9, .inr (3, oE Z er9 eo9 ew9)), (er9, .inl (ce, 8, .inl eg)), (ew9, .inl (cw, 32, .inl ew)), (eo9, .inr (5, [.ref ek9, .int (nI ke)])), (ek9, .inl (cq, 300, .inl pe))]) [0, 1, 2, 3, 4, 5] rfl
  replace hKc := hK.sub (tys' := [(ce, .int), (cw, .int), (cq, .int)]) [0, 1, 2] rfl
  refine tx_callV (C := "VotedTriple") (As := [.int x]) (rest := [.int 0, .ref ov]) ⟨hx, hb, hml, hown, hw⟩ (c_T_perfect_T l hst dC dI h0 p9 a9 e9 n9 o9 er9 ce eo9 ew9 cw ek9 cq uT Z eg ew ke pe x hkp) (cwV 1 hw (gdV (k_701) (k_698) (k_699) (k_700) (k_1)) rfl rfl rfl (by decide +kernel) ⟨Nat.le_of_ble_eq_true rfl, Nat.le_of_ble_eq_true rfl⟩) ⟨fun a U g mk q => ⟨q.1, q.2.1, va_K.moved (u := U) (U := U.calling g mk a) (Vm.Alike.refl U.vm) q.2.2.1, nw_vm (u := U) (U := U.calling g mk a) rfl q.2.2.2.1, tw_vm (u := U) (U := U.calling g mk a) rfl q.2.2.2.2⟩, va_recv hK hP rfl (q0 := 0) rfl, fun U hU hW => ⟨rfl, by rw [hU]; exact hPc, va_K.moved hW.alike hKc, nw_warm hW hnw, by rw [hU]; exact tw_warm hW htw⟩⟩ rfl hl.1 (Nat.le_of_ble_eq_true rfl) d_L_perfect_4 ⟨Nat.le_of_ble_eq_true rfl, Nat.le_of_ble_eq_true rfl⟩ htab (by decide) (by decide) (hw _ k_670) (fun x9 H hz9 hk9 => ?_)
  replace hP : va_P (dC, dI) classes [(h0, .inr (0, oT uT p9 a9 e9 n9 o9)), (e9, .inr (3, oE Z er9 eo9 ew9)), (er9, .inl (ce, 8, .inl eg)), (ew9, .inl (cw, 32, .inl ew)), (eo9, .inr (5, [.ref ek9, .int (nI ke)])), (ek9, .inl (cq, 300, .inl pe))] H := hP.kept (fun k q hq => hk9 _ (hP k q hq).lt)
  have hS : va_S A s.heap H [] := ⟨hz9, fun q h1 _ => hk9 q h1, fun _ h => by cases h⟩
  refine W.widen (k := 1) (n := 6) (Nat.le_of_ble_eq_true rfl) (Nat.le_of_ble_eq_true rfl) ?_
  refine W.eq (g2 := F0 m 12 ls [.ref x9]) rfl ?_
  refine lv_astore_n hx hb d_L_perfect_12 rfl hl (by decide) rfl (fun ls hl => ?_)
  replace hl : lv_has ls 4 [(3, .ref x9), (0, .ref h0), (1, .int x), (2, .ref ov)] := hl
  refine lv_iconst (v := 1) hx hb d_L_perfect_13 (by decide) ?_
  have hP9 := hP.sub (ws' := [(h0, .inr (0, oT uT p9 a9 e9 n9 o9)), (e9, .inr (3, oE Z er9 eo9 ew9)), (er9, .inl (ce, 8, .inl eg)), (ew9, .inl (cw, 32, .inl ew)), (eo9, .inr (5, [.ref ek9, .int (nI ke)])), (ek9, .inl (cq, 300, .inl pe))]) [0, 1, 2, 3, 4, 5] rfl
  have hD9 := hD.sub (ws' := [(h0, .inr (0, oT uT p9 a9 e9 n9 o9)), (e9, .inr (3, oE Z er9 eo9 ew9)), (er9, .inl (ce, 8, .inl eg)), (ew9, .inl (cw, 32, .inl ew)), (eo9, .inr (5, [.ref ek9, .int (nI ke)])), (ek9, .inl (cq, 300, .inl pe))]) [0, 1, 2, 3, 4, 5] (by decide) rfl
  have hK9 := hK.sub (tys' := [(ce, .int), (cw, .int), (cq, .int)]) [0, 1, 2] rfl
  refine W.widen (k := 1) (n := 6) (Nat.le_of_ble_eq_true rfl) (Nat.le_of_ble_eq_true rfl) ?_
  exact W.iret (v := 1) hx hb hr (fun t ht hW => ⟨⟨_, (), rfl, rfl, by rw [ht]; exact hP9, va_K.moved hW.alike hK9, hD9⟩, hS.F ht⟩) hS.2.2 d_L_perfect_14

set_option maxHeartbeats 4000000 in
set_option maxRecDepth 100000 in
theorem c_L_flip_T (l : Launch) (hst : l.stackTraces = false) (dC : Nat → ClassId) (dI : Nat → Nat → Nat) (h0 : Nat) (p9 : Nat) (a9 : Nat) (e9 : Nat) (n9 : Nat) (o9 : Nat) (uT : Nat → Int32) (x : Int32) (y : Int32) (z : Int32) (u : Int32) (hfl : (hmB uT x && hbB y z u) = false) (sz : Nat) : Met l y_L_flip (tbx (Cond.codeWith y_L_flip b_L_flip 6 (some .int) [(0, 9, 12, 20)])) ({ frames := 7, cells := 1, slots := 6, locals := 115 }) (va_Pc [.ref h0, .int x, .int y, .int z, .int u] (fun U => U.heap.size = sz ∧ va_P (dC, dI) classes [(h0, .inr (0, oT uT p9 a9 e9 n9 o9))] U.heap ∧ va_K (dC, dI) classes [] U ∧ va_D (fun _ => True) [(h0, .inr (0, oT uT p9 a9 e9 n9 o9))] ∧ nw U ∧ tw (fun _ => False) U U.heap)) (va_Qi (fun (r : Int32) (u9 : Unit) => match u9 with | _ => r = 1) (fun (u9 : Unit) t => match u9 with | _ => va_P (dC, dI) classes [(h0, .inr (0, oT uT p9 a9 e9 n9 o9))] t.heap ∧ va_K (dC, dI) classes [] t ∧ va_D (va_A [(h0, .inr (0, oT uT p9 a9 e9 n9 o9))] sz) [(h0, .inr (0, oT uT p9 a9 e9 n9 o9))]) (va_A [(h0, .inr (0, oT uT p9 a9 e9 n9 o9))] sz)) 1 6 (va_A [(h0, .inr (0, oT uT p9 a9 e9 n9 o9))] sz) := by
  refine va_MetW (cc := b_L_flip) (maxL := 6) (ret := (some .int)) (hh := [(0, 9, 12, 20)]) (by decide) rfl ?_
  intro p e s m args below meth c s₁ B hml hv
  obtain ⟨rfl, hsz, hP, hK, hD0, hnw, htw⟩ := hv
  have hx := B.exec
  have hb := B.bytes
  have hr := B.returns
  have hts := atoms_spec (ws := (tbx (Cond.codeWith y_L_flip b_L_flip 6 (some .int) [(0, 9, 12, 20)]))) B.pre
  have hw : ∀ z9 ∈ tb, z9.before ([.ref h0, .int x, .int y, .int z, .int u] : List Value).toArray s = true := fun z9 h => hts z9 (List.mem_cons_of_mem _ h)
  have hown : s.vm.findClass "VotedTripleLaw" = some m.cls := findClass_of_methodNamed B.named
  have hlocks := B.notSynchronized
  obtain ⟨tr9, htab⟩ := tab_body B (hts _ List.mem_cons_self)
  subst hsz
  replace hD := hD0.self (sz := s.heap.size)
  generalize hAe : va_A [(h0, .inr (0, oT uT p9 a9 e9 n9 o9))] s.heap.size = A at hD ⊢
  have hA : ∀ q : Nat, s.heap.size ≤ q → A q := fun q h => by rw [← hAe]; exact Or.inr h
  have hS : va_S A s.heap s.heap [] := va_S.rf
  replace hl := lv_entry ([.ref h0, .int x, .int y, .int z, .int u]) (n := 6) (Nat.le_of_ble_eq_true rfl)
  rw [lg_entry_eq]
  generalize (lg_sl ([.ref h0, .int x, .int y, .int z, .int u]) ++ List.replicate (6 - (lg_sl ([.ref h0, .int x, .int y, .int z, .int u])).length) Slot.unset).toArray = ls at hl ⊢
  replace hl : lv_has ls 6 [(0, .ref h0), (1, .int x), (2, .int y), (3, .int z), (4, .int u)] := hl
  refine lv_aload_n hx hb d_L_flip_0 rfl (lv_at hl 0 rfl) ?_
  refine lv_iload_n hx hb d_L_flip_1 rfl (lv_at hl 1 rfl) ?_
  refine lv_iload_n hx hb d_L_flip_2 rfl (lv_at hl 2 rfl) ?_
  refine lv_iload_n hx hb d_L_flip_3 rfl (lv_at hl 3 rfl) ?_
  refine lv_iload hx hb d_L_flip_4 (lv_at hl 4 rfl) ?_
  replace hPc := hP.sub (ws' := [(h0, .inr (0, oT uT p9 a9 e9 n9 o9))]) [0] rfl
  replace hKc := hK.sub (tys' := []) [] rfl
  refine tx_callV (C := "VotedTriple") (As := [.int x, .int y, .int z, .int u]) (rest := []) ⟨hx, hb, hml, hown, hw⟩ (c_T_flip_T l hst dC dI h0 p9 a9 e9 n9 o9 uT x y z u hfl) (cwV 4 hw (gdV (k_709) (k_706) (k_707) (k_708) (k_1)) rfl rfl rfl (by decide +kernel) ⟨Nat.le_of_ble_eq_true rfl, Nat.le_of_ble_eq_true rfl⟩) ⟨fun a U g mk q => ⟨q.1, q.2.1, va_K.moved (u := U) (U := U.calling g mk a) (Vm.Alike.refl U.vm) q.2.2.1, nw_vm (u := U) (U := U.calling g mk a) rfl q.2.2.2.1, tw_vm (u := U) (U := U.calling g mk a) rfl q.2.2.2.2⟩, va_recv hK hP rfl (q0 := 0) rfl, fun U hU hW => ⟨rfl, by rw [hU]; exact hPc, va_K.moved hW.alike hKc, nw_warm hW hnw, by rw [hU]; exact tw_warm hW htw⟩⟩ rfl hl.1 (Nat.le_of_ble_eq_true rfl) d_L_flip_6 ⟨Nat.le_of_ble_eq_true rfl, Nat.le_of_ble_eq_true rfl⟩ htab (by decide) (by decide) (hw _ k_670) (fun x9 H hz9 hk9 => ?_)
  replace hP : va_P (dC, dI) classes [(h0, .inr (0, oT uT p9 a9 e9 n9 o9))] H := hP.kept (fun k q hq => hk9 _ (hP k q hq).lt)
  have hS : va_S A s.heap H [] := ⟨hz9, fun q h1 _ => hk9 q h1, fun _ h => by cases h⟩
  refine W.widen (k := 1) (n := 6) (Nat.le_of_ble_eq_true rfl) (Nat.le_of_ble_eq_true rfl) ?_
  refine W.eq (g2 := F0 m 12 ls [.ref x9]) rfl ?_
  refine lv_astore hx hb d_L_flip_12 hl (by decide) rfl (fun ls hl => ?_)
  replace hl : lv_has ls 6 [(5, .ref x9), (0, .ref h0), (1, .int x), (2, .int y), (3, .int z), (4, .int u)] := hl
  refine lv_iconst (v := 1) hx hb d_L_flip_14 (by decide) ?_
  have hP9 := hP.sub (ws' := [(h0, .inr (0, oT uT p9 a9 e9 n9 o9))]) [0] rfl
  have hD9 := hD.sub (ws' := [(h0, .inr (0, oT uT p9 a9 e9 n9 o9))]) [0] (by decide) rfl
  have hK9 := hK.sub (tys' := []) [] rfl
  refine W.widen (k := 1) (n := 6) (Nat.le_of_ble_eq_true rfl) (Nat.le_of_ble_eq_true rfl) ?_
  exact W.iret (v := 1) hx hb hr (fun t ht hW => ⟨⟨_, (), rfl, rfl, by rw [ht]; exact hP9, va_K.moved hW.alike hK9, hD9⟩, hS.F ht⟩) hS.2.2 d_L_flip_15
