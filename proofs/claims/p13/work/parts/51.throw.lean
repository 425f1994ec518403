section TZ
variable {p : Program} {l : Launch} {e : Env} {R : Room} {s : State} {m : MethodId} {args : Array Value} {below : List Frame} {meth : Method} {c : Code} {H : Heap} {locs : List Loc} {cells slots : Nat} {Q : State → Prop}
/-- an object of the one class is none of the other -/
def nc (U : State) : Prop := ∀ a b : ClassId, U.vm.findClass "java/lang/IllegalArgumentException" = some a → U.vm.findClass "java/lang/IllegalStateException" = some b → U.vm.assignable a b = false
theorem nc_warm {s U : State} (hW : s.WarmedH U.vm) (h : nc s) : nc U := fun a b h1 h2 => by
  have hal := hW.alike
  rw [hal.findClass] at h1 h2
  rw [hal.assignable]
  exact h a b h1 h2
theorem nc_vm {u U : State} (hv : U.vm = u.vm) (h : nc u) : nc U := fun a b h1 h2 => by
  rw [hv] at h1 h2 ⊢
  exact h a b h1 h2
theorem nc_of {A : Array Value} {s : State} (h : (Cond.not (Cond.castable "java/lang/IllegalArgumentException" "java/lang/IllegalStateException")).before A s = true) : nc s := fun a b h1 h2 => by
  simpa [Cond.before, Cond.holds, Cond.value, h1, h2] using h
/-- invokevirtual of a method that throws an X, which passes the first row of the caller's own table and is caught by the second -/
theorem tx_callV2 {y : MethodName} {bytes cc : ByteArray} {maxL nL mc ms n index pc b : Nat} {ret : Option FieldType} {ws Ts : List Cond} {rm : Room} {Pc : Array Value → State → Prop} {own C : String} {As rest : List Value} {ls : Array Slot}
    (S : CallFix p m c cc nL s args Ts own) (hM : tx_Met l y ws rm Pc "java/lang/IllegalArgumentException" mc ms) (cw : CallW R s args own C index y bytes maxL ret ws rm mc ms n) (hp : PreV s H C b Pc As)
    (hn : As.length = n) (hsize : ls.size = nL) (hW : (rest.map fun v => v.category).sum ≤ 8) (hdg : decode cc pc = .ok (.invokevirtual index, 3)) (hf : cells + mc ≤ R.cells ∧ slots + ms ≤ R.slots)
    {h1 h2 : ExceptionTableEntry} {hs : List ExceptionTableEntry} (htab : c.exceptionTable.toList = h1 :: h2 :: hs) (hcov : covers h1 pc = true) (hct : h1.catchType ≠ 0) (hlk1 : (Cond.classLink own h1.catchType "java/lang/IllegalStateException").before args s = true)
    (hcov2 : covers h2 pc = true) (hct2 : h2.catchType ≠ 0) (hlk : (Cond.classLink own h2.catchType "java/lang/IllegalArgumentException").before args s = true) (hnc : nc s)
    (kk : ∀ (x : Nat) (H1 : Heap), H.size ≤ H1.size → (∀ q : Nat, q < H.size → H1[q]? = H[q]?) → W p l e R s m args below meth c H1 locs (cells + mc) (slots + ms) Q (F0 m h2.handlerPc ls [.ref x])) :
    W p l e R s m args below meth c H locs cells slots Q (F0 m pc ls (As.reverse ++ .ref b :: rest)) := by
  obtain ⟨hx, hb, hml, ho, -⟩ := S
  obtain ⟨⟨hrc, hrs, hfr, hlo, hws, hcw, hcode, hini, hy, hlen, hl⟩, hin, hse⟩ := cw
  obtain ⟨hbl, ⟨cellB, hcB, hoB, hclB⟩, hPc⟩ := hp
  intro T hT X
  obtain ⟨mk, methM, hnamed, hmethM, hstM, habM⟩ := Cond.instanceMethod_spec hin
  obtain ⟨methM', cM, hmethM', -, -, -, -, -, -, hsigM⟩ := Cond.code_spec hnamed hcode
  cases hmethM.symm.trans hmethM'
  obtain ⟨c2, r2, m2, q1, q2, q3, q4, kP, hkP, hkPi⟩ := Cond.selects_spec hse
  cases hclB.symm.trans q1
  cases (State.methodFound?_of_named hnamed hy).symm.trans q2
  cases hnamed.symm.trans q3
  have hselP : selectMethod e.platform s.vm cellB.cls mk = .method mk := by rw [Launch.admits_selectMethod X.admits]; exact q4
  obtain ⟨vm₁, X₁, hstep₁⟩ := X.invokevirtual hx ho hl hnamed hmethM hstM hkP hkPi hy (a := b) (cell := cellB) (by rw [hT]; exact hcB) (fun z h => by rw [h] at hoB; cases hoB) hselP hmethM habM hkP hkPi
    (g := F0 m pc ls (As.reverse ++ .ref b :: rest)) rfl (argsL := As) (rest := rest) (hn.trans (hlen _ hsigM)) rfl (by rw [hb]; exact hdg)
  obtain ⟨x, ce, T', X', g1, g2, g3, g4, g5, k1, k2, st⟩ := tx_call X₁ hM hbl hrc hrs hfr hlo hws hcw hini (g := F0 m pc ls rest) rfl (hsize.trans hml.symm) (by rw [hb]; exact hdg)
    (by simp only [JFrame.monitorRoom]; omega) (X₁.named hnamed) (a := (Value.ref b :: As).toArray) hf.1 hf.2 (hPc _ hT X₁.warmed)
  obtain ⟨cY, hfY, hclY⟩ := Cond.classLink_spec ho hlk1 e.platform (by rw [X.admits.platform])
  obtain ⟨cX, hfX, hcl⟩ := Cond.classLink_spec ho hlk e.platform (by rw [X.admits.platform])
  cases hfX.symm.trans g4
  have hna : s.vm.assignable ce.cls cY = false := hnc _ _ g4 hfY
  obtain ⟨hgY, hwarmY, -⟩ := State.classEntry (e := e) X'.warmed hclY
  have halY := hwarmY.alike
  have X2 := X'.noted hwarmY
  obtain ⟨hg₁, hwarm₁, -⟩ := State.classEntry (e := e) X2.warmed hcl
  have hal := hwarm₁.alike
  have hkY : ∃ z, (T'.vm.noted m.cls h1.catchType (.cls cY)).classes[ce.cls]? = some z := by
    obtain ⟨z, hz⟩ := Vm.classAt_of_findClass g4
    obtain ⟨z', hz', -⟩ := halY.2.2 _ _ hz
    exact ⟨z', hz'⟩
  have hkY2 : ∃ z, (T'.vm.noted m.cls h1.catchType (.cls cY)).classes[cY]? = some z := by
    obtain ⟨z, hz⟩ := Vm.classAt_of_findClass hfY
    obtain ⟨z', hz', -⟩ := halY.2.2 _ _ hz
    exact ⟨z', hz'⟩
  have hk1 : ∃ z, ((T'.vm.noted m.cls h1.catchType (.cls cY)).noted m.cls h2.catchType (.cls ce.cls)).classes[ce.cls]? = some z := by
    obtain ⟨z, hz⟩ := Vm.classAt_of_findClass g4
    obtain ⟨z', hz', -⟩ := hal.2.2 _ _ hz
    exact ⟨z', hz'⟩
  have hsz1 : (T'.vm.noted m.cls h1.catchType (.cls cY)).classes.size ≤ T'.vm.classes.size := by simp [Vm.size_noted]
  have hsz2 : ((T'.vm.noted m.cls h1.catchType (.cls cY)).noted m.cls h2.catchType (.cls ce.cls)).classes.size ≤ (T'.vm.noted m.cls h1.catchType (.cls cY)).classes.size := by simp [Vm.size_noted]
  have hfind : tx_Finds e ((T'.setTop (F0 m pc ls rest)).pushFrame (.throwing x)) (((T'.setTop (F0 m pc ls rest)).pushFrame (.throwing x)).setVm ((T'.vm.noted m.cls h1.catchType (.cls cY)).noted m.cls h2.catchType (.cls ce.cls))) (F0 m pc ls rest) x (.found h2.handlerPc) := by
    intro Q E d acts
    have hv := throwing_vm T' (F0 m pc ls rest) x
    have hh := throwing_heap T' (F0 m pc ls rest) x
    rw [Jvm.W.findHandler_eq (meth := meth) (code := c) (by rw [hv]; exact X'.method') X'.code, htab, tx_find (cell := ce) (k := cY) (vm' := T'.vm.noted m.cls h1.catchType (.cls cY)) hcov hct (by rw [hv]; exact hgY) (by rw [hv]; exact hsz1) (by rw [hh]; exact g2) (fun z => by rw [g3]; simp) hkY hkY2, if_neg (by rw [halY.assignable, hna]; decide)]
    rw [tx_find (cell := ce) (k := ce.cls) (vm' := (T'.vm.noted m.cls h1.catchType (.cls cY)).noted m.cls h2.catchType (.cls ce.cls)) hcov2 hct2 hg₁ hsz2 (by show ((T'.setTop (F0 m pc ls rest)).pushFrame (.throwing x)).heap[x]? = _; rw [hh]; exact g2) (fun z => by rw [g3]; simp) hk1 hk1, if_pos (by have h9 : ((T'.setVm (T'.vm.noted m.cls h1.catchType (.cls cY))).vm.noted m.cls h2.catchType (.cls ce.cls)).assignable ce.cls ce.cls = true := (by rw [hal.assignable]; exact g5); exact h9)]
    exact Iff.rfl
  obtain ⟨t2, a1, b1⟩ := kk x T'.heap (by rw [← hT]; exact k1) (fun q hq => by rw [← hT] at hq ⊢; exact k2 q hq) (T'.setVm ((T'.vm.noted m.cls h1.catchType (.cls cY)).noted m.cls h2.catchType (.cls ce.cls))) rfl (X2.noted hwarm₁)
  refine ⟨t2, hstep₁ _ (fun acts => ?_), b1⟩
  rw [doInvoke_state]
  exact st.trans (tx_caught X'.here hfind a1)
end TZ
