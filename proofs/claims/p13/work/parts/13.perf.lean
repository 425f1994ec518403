set_option maxHeartbeats 4000000 in
set_option maxRecDepth 100000 in
theorem c_E_readWord (l : Launch) (dC : Nat → ClassId) (dI : Nat → Nat → Nat) (h0 r9 o9 w9 : Nat) (F : Nat → Int32) (cw : ClassId) (wd : Nat → Int32) (x : Int32) (hpl : vp_in x 32) (hwd : wdI 32 wd) : Met l y_E_readWord (tbw y_E_readWord b_E_readWord 2 (some .int)) ({ frames := 0, cells := 0, slots := 0, locals := 0 }) (va_Pc [.ref h0, .int x] (fun U => va_P (dC, dI) classes [(h0, .inr (3, oE F r9 o9 w9)), (w9, .inl (cw, 32, .inl wd))] U.heap ∧ va_K (dC, dI) classes [(cw, .int)] U)) (vp_Si (fun r => (is16 r) ∧ r = s_E_readWord wd x)) 0 0 (fun _ => False) := by
  refine Met.ofW (cc := b_E_readWord) (maxL := 2) (ret := (some .int)) (by decide) rfl ?_
  intro p e s m args below meth c s₁ B hml hv
  obtain ⟨rfl, hP, hK⟩ := hv
  have hx := B.exec
  have hb := B.bytes
  have hr := B.returns
  have hts := atoms_spec (ws := (tbw y_E_readWord b_E_readWord 2 (some .int))) B.pre
  have hw : ∀ z9 ∈ tb, z9.before ([.ref h0, .int x] : List Value).toArray s = true := fun z9 h => hts z9 (List.mem_cons_of_mem _ h)
  have hown : s.vm.findClass "VotedTriple$PerfectOne" = some m.cls := findClass_of_methodNamed B.named
  have hlocks := B.notSynchronized
  replace hl := lv_entry ([.ref h0, .int x]) (n := 2) (Nat.le_of_ble_eq_true rfl)
  rw [lg_entry_eq]
  generalize (lg_sl ([.ref h0, .int x]) ++ List.replicate (2 - (lg_sl ([.ref h0, .int x])).length) Slot.unset).toArray = ls at hl ⊢
  replace hl : lv_has ls 2 [(0, .ref h0), (1, .int x)] := hl
  generalize hSP : s_E_readWord wd x = SP
  refine lv_aload_n hx hb d_E_readWord_0 rfl (lv_at hl 0 rfl) ?_
  refine va_get (D := (dC, dI)) (ci := 3) (v := .ref w9) (C := "VotedTriple$PerfectOne") (T := F_E) (N := 10) hx hb hw in_E hown hK hP 0 rfl rfl 8 (by decide) (hw _ k_68) (fun _ h9 => h9) rfl d_E_readWord_1 ?_
  refine lv_iload_n hx hb d_E_readWord_4 rfl (lv_at hl 1 rfl) ?_
  refine va_iald hx hb hK hP 1 0 rfl rfl hpl d_E_readWord_5 ?_
  exact W.iret (v := (wd (Int32.toNatClampNeg x))) hx hb hr (fun t ht _ => ⟨_, rfl, ⟨(rg_at hwd hpl (by decide)), (by rw [← hSP, s_E_readWord]; all_goals rfl)⟩, ht⟩) (fun _ h => by cases h) d_E_readWord_6

set_option maxHeartbeats 4000000 in
set_option maxRecDepth 100000 in
theorem c_E_writeWord (l : Launch) (dC : Nat → ClassId) (dI : Nat → Nat → Nat) (h0 r9 o9 w9 : Nat) (F : Nat → Int32) (cw : ClassId) (wd : Nat → Int32) (x y : Int32) (hpl : vp_in x 32) (hwd : wdI 32 wd) (hy : is16 y) (sz : Nat) : Met l y_E_writeWord (tbw y_E_writeWord b_E_writeWord 3 none) ({ frames := 0, cells := 0, slots := 0, locals := 0 }) (va_Pc [.ref h0, .int x, .int y] (fun U => U.heap.size = sz ∧ va_P (dC, dI) classes [(h0, .inr (3, oE F r9 o9 w9)), (w9, .inl (cw, 32, .inl wd))] U.heap ∧ va_K (dC, dI) classes [(cw, .int)] U ∧ va_D (fun _ => True) [(h0, .inr (3, oE F r9 o9 w9)), (w9, .inl (cw, 32, .inl wd))])) (va_Qv (fun (u9 : (Nat → Int32)) => match u9 with | w2 => (wdI 32 w2) ∧ (w2) = s_E_writeWord wd x y) (fun (u9 : (Nat → Int32)) t => match u9 with | w2 => va_P (dC, dI) classes [(h0, .inr (3, oE F r9 o9 w9)), (w9, .inl (cw, 32, .inl w2))] t.heap ∧ va_K (dC, dI) classes [(cw, .int)] t ∧ va_D (va_A [(h0, .inr (3, oE F r9 o9 w9)), (w9, .inl (cw, 32, .inl wd))] sz) [(h0, .inr (3, oE F r9 o9 w9)), (w9, .inl (cw, 32, .inl w2))]) (va_A [(h0, .inr (3, oE F r9 o9 w9)), (w9, .inl (cw, 32, .inl wd))] sz)) 0 0 (va_A [(h0, .inr (3, oE F r9 o9 w9)), (w9, .inl (cw, 32, .inl wd))] sz) := by
  refine Met.ofW (cc := b_E_writeWord) (maxL := 3) (ret := none) (by decide) rfl ?_
  intro p e s m args below meth c s₁ B hml hv
  obtain ⟨rfl, hsz, hP, hK, hD0⟩ := hv
  have hx := B.exec
  have hb := B.bytes
  have hr := B.returns
  have hts := atoms_spec (ws := (tbw y_E_writeWord b_E_writeWord 3 none)) B.pre
  have hw : ∀ z9 ∈ tb, z9.before ([.ref h0, .int x, .int y] : List Value).toArray s = true := fun z9 h => hts z9 (List.mem_cons_of_mem _ h)
  have hown : s.vm.findClass "VotedTriple$PerfectOne" = some m.cls := findClass_of_methodNamed B.named
  have hlocks := B.notSynchronized
  subst hsz
  replace hD := hD0.self (sz := s.heap.size)
  generalize hAe : va_A [(h0, .inr (3, oE F r9 o9 w9)), (w9, .inl (cw, 32, .inl wd))] s.heap.size = A at hD ⊢
  have hA : ∀ q : Nat, s.heap.size ≤ q → A q := fun q h => by rw [← hAe]; exact Or.inr h
  have hS : va_S A s.heap s.heap [] := va_S.rf
  replace hl := lv_entry ([.ref h0, .int x, .int y]) (n := 3) (Nat.le_of_ble_eq_true rfl)
  rw [lg_entry_eq]
  generalize (lg_sl ([.ref h0, .int x, .int y]) ++ List.replicate (3 - (lg_sl ([.ref h0, .int x, .int y])).length) Slot.unset).toArray = ls at hl ⊢
  replace hl : lv_has ls 3 [(0, .ref h0), (1, .int x), (2, .int y)] := hl
  generalize hSP : s_E_writeWord wd x y = SP
  refine lv_aload_n hx hb d_E_writeWord_0 rfl (lv_at hl 0 rfl) ?_
  refine va_get (D := (dC, dI)) (ci := 3) (v := .ref w9) (C := "VotedTriple$PerfectOne") (T := F_E) (N := 10) hx hb hw in_E hown hK hP 0 rfl rfl 8 (by decide) (hw _ k_68) (fun _ h9 => h9) rfl d_E_writeWord_1 ?_
  refine lv_iload_n hx hb d_E_writeWord_4 rfl (lv_at hl 1 rfl) ?_
  refine lv_iload_n hx hb d_E_writeWord_5 rfl (lv_at hl 2 rfl) ?_
  refine va_iast hx hb hK hP hD hS 1 0 rfl rfl hpl d_E_writeWord_6 (fun H locs hP hD hS => ?_)
  replace hP : va_P (dC, dI) classes [(h0, .inr (3, oE F r9 o9 w9)), (w9, .inl (cw, 32, .inl (upd wd (Int32.toNatClampNeg x) y)))] H := hP
  replace hD : va_D A [(h0, .inr (3, oE F r9 o9 w9)), (w9, .inl (cw, 32, .inl (upd wd (Int32.toNatClampNeg x) y)))] := hD
  have hP9 := hP.sub (ws' := [(h0, .inr (3, oE F r9 o9 w9)), (w9, .inl (cw, 32, .inl (upd wd (Int32.toNatClampNeg x) y)))]) [0, 1] rfl
  have hD9 := hD.sub (ws' := [(h0, .inr (3, oE F r9 o9 w9)), (w9, .inl (cw, 32, .inl (upd wd (Int32.toNatClampNeg x) y)))]) [0, 1] (by decide) rfl
  have hK9 := hK.sub (tys' := [(cw, .int)]) [0] rfl
  refine W.widen (k := 0) (n := 0) (Nat.le_of_ble_eq_true rfl) (Nat.le_of_ble_eq_true rfl) ?_
  exact W.vret hx hb hr (fun t ht hW => ⟨⟨(upd wd (Int32.toNatClampNeg x) y), rfl, ⟨(rgI_upd hwd hy), (by rw [← hSP, s_E_writeWord]; all_goals rfl)⟩, by rw [ht]; exact hP9, va_K.moved hW.alike hK9, hD9⟩, hS.F ht⟩) hS.2.2 d_E_writeWord_7

set_option maxHeartbeats 4000000 in
set_option maxRecDepth 100000 in
theorem c_C_execute_E (l : Launch) (dC : Nat → ClassId) (dI : Nat → Nat → Nat) (h0 r9 o9 w9 : Nat) (F : Nat → Int32) (cr : ClassId) (rg : Nat → Int32) (cw : ClassId) (wd : Nat → Int32) (p9 q9 cn : Nat) (cp : ClassId) (f : Nat → Int32) (hc : prI cn f) (hpos : 0 < cn) (hm : eI F rg wd) (sz : Nat) : Met l y_C_execute (tbw y_C_execute b_C_execute 6 none) ({ frames := 2, cells := 0, slots := 0, locals := 42 }) (va_Pc [.ref h0, .ref p9] (fun U => U.heap.size = sz ∧ va_P (dC, dI) classes [(h0, .inr (3, oE F r9 o9 w9)), (r9, .inl (cr, 8, .inl rg)), (w9, .inl (cw, 32, .inl wd)), (p9, .inr (1, [.ref q9, .int (nI cn)])), (q9, .inl (cp, 64, .inl f))] U.heap ∧ va_K (dC, dI) classes [(cr, .int), (cw, .int), (cp, .int)] U ∧ va_D (fun _ => True) [(h0, .inr (3, oE F r9 o9 w9)), (r9, .inl (cr, 8, .inl rg)), (w9, .inl (cw, 32, .inl wd)), (p9, .inr (1, [.ref q9, .int (nI cn)])), (q9, .inl (cp, 64, .inl f))] ∧ nw U)) (va_Qv (fun (u9 : (Nat → Int32) × (Nat → Int32) × (Nat → Int32)) => match u9 with | (F2, g, w2) => (eI F2 g w2) ∧ (F2, g, w2) = s_C_execute_E F rg wd cn f) (fun (u9 : (Nat → Int32) × (Nat → Int32) × (Nat → Int32)) t => match u9 with | (F2, g, w2) => va_P (dC, dI) classes [(h0, .inr (3, oE F2 r9 o9 w9)), (r9, .inl (cr, 8, .inl g)), (w9, .inl (cw, 32, .inl w2)), (p9, .inr (1, [.ref q9, .int (nI cn)])), (q9, .inl (cp, 64, .inl f))] t.heap ∧ va_K (dC, dI) classes [(cr, .int), (cw, .int), (cp, .int)] t ∧ va_D (va_A [(h0, .inr (3, oE F r9 o9 w9)), (r9, .inl (cr, 8, .inl rg)), (w9, .inl (cw, 32, .inl wd)), (p9, .inr (1, [.ref q9, .int (nI cn)])), (q9, .inl (cp, 64, .inl f))] sz) [(h0, .inr (3, oE F2 r9 o9 w9)), (r9, .inl (cr, 8, .inl g)), (w9, .inl (cw, 32, .inl w2)), (p9, .inr (1, [.ref q9, .int (nI cn)])), (q9, .inl (cp, 64, .inl f))]) (va_A [(h0, .inr (3, oE F r9 o9 w9)), (r9, .inl (cr, 8, .inl rg)), (w9, .inl (cw, 32, .inl wd)), (p9, .inr (1, [.ref q9, .int (nI cn)])), (q9, .inl (cp, 64, .inl f))] sz)) 0 0 (va_A [(h0, .inr (3, oE F r9 o9 w9)), (r9, .inl (cr, 8, .inl rg)), (w9, .inl (cw, 32, .inl wd)), (p9, .inr (1, [.ref q9, .int (nI cn)])), (q9, .inl (cp, 64, .inl f))] sz) := by
  refine Met.ofW (cc := b_C_execute) (maxL := 6) (ret := none) (by decide) rfl ?_
  intro p e s m args below meth c s₁ B hml hv
  obtain ⟨rfl, hsz, hP, hK, hD0, hnw⟩ := hv
  have hx := B.exec
  have hb := B.bytes
  have hr := B.returns
  have hts := atoms_spec (ws := (tbw y_C_execute b_C_execute 6 none)) B.pre
  have hw : ∀ z9 ∈ tb, z9.before ([.ref h0, .ref p9] : List Value).toArray s = true := fun z9 h => hts z9 (List.mem_cons_of_mem _ h)
  have hown : s.vm.findClass "VotedTriple$Processor" = some m.cls := findClass_of_methodNamed B.named
  have hlocks := B.notSynchronized
  subst hsz
  replace hD := hD0.self (sz := s.heap.size)
  generalize hAe : va_A [(h0, .inr (3, oE F r9 o9 w9)), (r9, .inl (cr, 8, .inl rg)), (w9, .inl (cw, 32, .inl wd)), (p9, .inr (1, [.ref q9, .int (nI cn)])), (q9, .inl (cp, 64, .inl f))] s.heap.size = A at hD ⊢
  have hA : ∀ q : Nat, s.heap.size ≤ q → A q := fun q h => by rw [← hAe]; exact Or.inr h
  have hS : va_S A s.heap s.heap [] := va_S.rf
  replace hl := lv_entry ([.ref h0, .ref p9]) (n := 6) (Nat.le_of_ble_eq_true rfl)
  rw [lg_entry_eq]
  generalize (lg_sl ([.ref h0, .ref p9]) ++ List.replicate (6 - (lg_sl ([.ref h0, .ref p9])).length) Slot.unset).toArray = ls at hl ⊢
  replace hl : lv_has ls 6 [(0, .ref h0), (1, .ref p9)] := hl
  generalize hSP : s_C_execute_E F rg wd cn f = SP
  refine lv_aload_n hx hb d_C_execute_0 rfl (lv_at hl 1 rfl) ?_
  refine lv_aload_n hx hb d_C_execute_1 rfl (lv_at hl 0 rfl) ?_
  refine va_get (D := (dC, dI)) (ci := 3) (v := .int (F 1)) (C := "VotedTriple$PerfectOne") (T := F_E) (N := 10) hx hb hw in_E hown hK hP 0 rfl rfl 1 (by decide) (hw _ k_74) (fun _ h9 => h9) rfl d_C_execute_2 ?_
  replace hPc := hP.sub (ws' := [(p9, .inr (1, [.ref q9, .int (nI cn)])), (q9, .inl (cp, 64, .inl f))]) [3, 4] rfl
  replace hKc := hK.sub (tys' := [(cp, .int)]) [2] rfl
  refine vp_callSi (va_runV (C := "VotedTriple$Program") (As := [.int (F 1)]) (rest := []) ⟨hx, hb, hml, hown, hw⟩ (c_P_instructionAt l dC dI p9 q9 cn cp f (F 1) hc hpos (cntI_0 hm.1)) (cwV 1 hw (gdV (k_497) (k_494) (k_495) (k_496) (k_2)) rfl rfl rfl (by decide +kernel) ⟨Nat.le_of_ble_eq_true rfl, Nat.le_of_ble_eq_true rfl⟩) ⟨fun a U g mk q => ⟨q.1, q.2.1, va_K.moved (u := U) (U := U.calling g mk a) (Vm.Alike.refl U.vm) q.2.2⟩, va_recv hK hP rfl (q0 := 3) rfl, fun U hU hW => ⟨rfl, by rw [hU]; exact hPc, va_K.moved hW.alike hKc⟩⟩ rfl rfl hl.1 rfl (lv_room (Nat.le_of_ble_eq_true rfl)) d_C_execute_5 ⟨Nat.le_of_ble_eq_true rfl, Nat.le_of_ble_eq_true rfl⟩).run (fun r1 hr2 => ?_)
  obtain ⟨hr2, hr2E⟩ := hr2
  refine lv_istore_n hx hb d_C_execute_8 rfl hl (by decide) rfl (fun ls hl => ?_)
  replace hl : lv_has ls 6 [(2, .int r1), (0, .ref h0), (1, .ref p9)] := hl
  refine lv_aload_n hx hb d_C_execute_9 rfl (lv_at hl 1 rfl) ?_
  refine lv_aload_n hx hb d_C_execute_10 rfl (lv_at hl 2 rfl) ?_
  replace hPc := hP.sub (ws' := [(h0, .inr (3, oE F r9 o9 w9)), (p9, .inr (1, [.ref q9, .int (nI cn)]))]) [0, 3] rfl
  replace hKc := hK.sub (tys' := []) [] rfl
  replace hDc := hD.sub (ws' := [(h0, .inr (3, oE F r9 o9 w9)), (p9, .inr (1, [.ref q9, .int (nI cn)]))]) [0, 3] (by decide) rfl
  replace hFc := va_free (wc := [(h0, .inr (3, oE F r9 o9 w9)), (p9, .inr (1, [.ref q9, .int (nI cn)]))]) hD hS hA [0, 3] rfl
  refine va_callv (va_runU (C := "VotedTriple$PerfectOne") (As := [.ref p9]) (rest := []) ⟨hx, hb, hml, hown, hw⟩ (c_C_passOver_E l dC dI h0 r9 o9 w9 F p9 q9 cn hc.1 hm.1 s.heap.size) (va_cwU (C := "VotedTriple$PerfectOne") (owner := "VotedTriple$Processor") (x := ⟨"VotedTriple$Processor", "passOver", "(LVotedTriple$Program;)V"⟩) (y := y_C_passOver) 1 hw (gd_l (List.forall_mem_cons.mpr ⟨k_502, List.forall_mem_cons.mpr ⟨k_504, List.forall_mem_cons.mpr ⟨k_505, List.forall_mem_cons.mpr ⟨k_503, List.forall_mem_cons.mpr ⟨k_3, fun _ h => absurd h List.not_mem_nil⟩⟩⟩⟩⟩) (gd (k_507))) rfl rfl rfl rfl (by decide +kernel) ⟨Nat.le_of_ble_eq_true rfl, Nat.le_of_ble_eq_true rfl⟩) ⟨fun a U g mk q => by obtain ⟨q0, q1, qP, qK, qD⟩ := q; exact ⟨q0, q1, qP, va_K.moved (u := U) (U := U.calling g mk a) (Vm.Alike.refl U.vm) qK, qD⟩, va_recv hK hP rfl (q0 := 0) rfl, fun U hU hW => ⟨rfl, by rw [hU], by rw [hU]; exact hPc, va_K.moved hW.alike hKc, hDc.weaken (fun _ _ _ _ => trivial)⟩⟩ rfl rfl hl.1 rfl (lv_room (Nat.le_of_ble_eq_true rfl)) d_C_execute_11 ⟨Nat.le_of_ble_eq_true rfl, Nat.le_of_ble_eq_true rfl⟩) hS (fun q _ h => hFc q h) hFc (fun u9 t H1 locs ht hvm hr4 hB hz1 hk1 hS => ?_)
  obtain ⟨x15, rfl⟩ : ∃ z, z = u9 := ⟨_, rfl⟩
  obtain ⟨hP1, hK1, hD1⟩ := hB
  rw [ht] at hP1
  replace hK1 := va_K.moved hvm.symm hK1
  try dsimp only at hr4 hP1 hK1 hD1
  obtain ⟨hr4, hr4E⟩ := hr4
  obtain ⟨hPz, hDz⟩ := va_join (wr := [(r9, .inl (cr, 8, .inl rg)), (w9, .inl (cw, 32, .inl wd)), (q9, .inl (cp, 64, .inl f))]) (w1 := [(h0, .inr (3, oE (upc F 1 x15) r9 o9 w9)), (p9, .inr (1, [.ref q9, .int (nI cn)]))]) hP hD [0, 3] [1, 2, 4] rfl rfl (by decide) (by decide) hk1 hFc hP1 hD1
  clear hP hD hPc hDc hP1 hD1 hFc
  have hP := hPz
  have hD := hDz
  clear hPz hDz
  replace hK := (hK.sub (tys' := [(cr, .int), (cw, .int), (cp, .int)]) [0, 1, 2] rfl).app hK1
  clear hK1 hKc
  generalize H1 = H at hP hS ⊢
  replace hP : va_P (dC, dI) classes [(r9, .inl (cr, 8, .inl rg)), (w9, .inl (cw, 32, .inl wd)), (q9, .inl (cp, 64, .inl f)), (h0, .inr (3, oE (upc F 1 x15) r9 o9 w9)), (p9, .inr (1, [.ref q9, .int (nI cn)]))] H := hP
  replace hD : va_D A [(r9, .inl (cr, 8, .inl rg)), (w9, .inl (cw, 32, .inl wd)), (q9, .inl (cp, 64, .inl f)), (h0, .inr (3, oE (upc F 1 x15) r9 o9 w9)), (p9, .inr (1, [.ref q9, .int (nI cn)]))] := hD
  replace hK : va_K (dC, dI) classes [(cr, .int), (cw, .int), (cp, .int)] s := hK
  refine W.widen (k := 0) (n := 0) (Nat.le_of_ble_eq_true rfl) (Nat.le_of_ble_eq_true rfl) ?_
  refine lv_iload_n hx hb d_C_execute_14 rfl (lv_at hl 0 rfl) ?_
  refine vp_callSi (va_runS (As := [.int r1]) (rest := []) ⟨hx, hb, hml, hown, hw⟩ (c_P_aOf l dC dI r1) (va_cwS 1 hw (gdS (k_244) (k_509) (k_243) (k_2)) rfl rfl rfl (by decide +kernel) ⟨Nat.le_of_ble_eq_true rfl, Nat.le_of_ble_eq_true rfl⟩) ⟨fun _ _ _ _ q => q, fun _ _ _ => ⟨rfl, trivial⟩⟩ rfl rfl hl.1 rfl (lv_room (Nat.le_of_ble_eq_true rfl)) d_C_execute_15 ⟨Nat.le_of_ble_eq_true rfl, Nat.le_of_ble_eq_true rfl⟩).run (fun r6 hr7 => ?_)
  subst hr7
  refine lv_istore_n hx hb d_C_execute_18 rfl hl (by decide) rfl (fun ls hl => ?_)
  replace hl : lv_has ls 6 [(3, .int (wA r1)), (2, .int r1), (0, .ref h0), (1, .ref p9)] := hl
  refine lv_iload_n hx hb d_C_execute_19 rfl (lv_at hl 1 rfl) ?_
  refine vp_callSi (va_runS (As := [.int r1]) (rest := []) ⟨hx, hb, hml, hown, hw⟩ (c_P_bOf l dC dI r1) (va_cwS 1 hw (gdS (k_250) (k_510) (k_249) (k_2)) rfl rfl rfl (by decide +kernel) ⟨Nat.le_of_ble_eq_true rfl, Nat.le_of_ble_eq_true rfl⟩) ⟨fun _ _ _ _ q => q, fun _ _ _ => ⟨rfl, trivial⟩⟩ rfl rfl hl.1 rfl (lv_room (Nat.le_of_ble_eq_true rfl)) d_C_execute_20 ⟨Nat.le_of_ble_eq_true rfl, Nat.le_of_ble_eq_true rfl⟩).run (fun r8 hr9 => ?_)
  subst hr9
  refine lv_istore hx hb d_C_execute_23 hl (by decide) rfl (fun ls hl => ?_)
  replace hl : lv_has ls 6 [(4, .int (wB r1)), (3, .int (wA r1)), (2, .int r1), (0, .ref h0), (1, .ref p9)] := hl
  refine lv_iload_n hx hb d_C_execute_25 rfl (lv_at hl 2 rfl) ?_
  refine vp_callSi (va_runS (As := [.int r1]) (rest := []) ⟨hx, hb, hml, hown, hw⟩ (c_P_cOf l dC dI r1) (va_cwS 1 hw (gdS (k_253) (k_511) (k_252) (k_2)) rfl rfl rfl (by decide +kernel) ⟨Nat.le_of_ble_eq_true rfl, Nat.le_of_ble_eq_true rfl⟩) ⟨fun _ _ _ _ q => q, fun _ _ _ => ⟨rfl, trivial⟩⟩ rfl rfl hl.1 rfl (lv_room (Nat.le_of_ble_eq_true rfl)) d_C_execute_26 ⟨Nat.le_of_ble_eq_true rfl, Nat.le_of_ble_eq_true rfl⟩).run (fun r10 hr11 => ?_)
  subst hr11
  refine lv_istore hx hb d_C_execute_29 hl (by decide) rfl (fun ls hl => ?_)
  replace hl : lv_has ls 6 [(5, .int (wC r1)), (4, .int (wB r1)), (3, .int (wA r1)), (2, .int r1), (0, .ref h0), (1, .ref p9)] := hl
  refine lv_iload_n hx hb d_C_execute_31 rfl (lv_at hl 3 rfl) ?_
  refine vp_callSi (va_runS (As := [.int r1]) (rest := []) ⟨hx, hb, hml, hown, hw⟩ (c_P_opOf l dC dI r1) (va_cwS 1 hw (gdS (k_241) (k_512) (k_240) (k_2)) rfl rfl rfl (by decide +kernel) ⟨Nat.le_of_ble_eq_true rfl, Nat.le_of_ble_eq_true rfl⟩) ⟨fun _ _ _ _ q => q, fun _ _ _ => ⟨rfl, trivial⟩⟩ rfl rfl hl.1 rfl (lv_room (Nat.le_of_ble_eq_true rfl)) d_C_execute_32 ⟨Nat.le_of_ble_eq_true rfl, Nat.le_of_ble_eq_true rfl⟩).run (fun r12 hr13 => ?_)
  subst hr13
  rcases sw10 (ush r1 24) with hs14 | hs14 | hs14 | hs14 | hs14 | hs14 | hs14 | hs14 | hs14 | hs14 | hs14 | hs14
  · refine lv_tableIn (off := 57) (tgt := 92) hx hb d_C_execute_35 (by rw [hs14]; decide) (by rw [hs14]; decide) (by rw [hs14]; decide) rfl ?_
    refine lv_aload_n hx hb d_C_execute_92 rfl (lv_at hl 4 rfl) ?_
    refine va_get (D := (dC, dI)) (ci := 3) (v := .ref r9) (C := "VotedTriple$PerfectOne") (T := F_E) (N := 10) hx hb hw in_E hown hK hP 3 rfl rfl 0 (by decide) (hw _ k_70) (fun _ h9 => h9) rfl d_C_execute_93 ?_
    refine lv_iload_n hx hb d_C_execute_96 rfl (lv_at hl 2 rfl) ?_
    refine lv_iload hx hb d_C_execute_97 (lv_at hl 1 rfl) ?_
    refine lv_sipush (v := 256) hx hb d_C_execute_99 (by decide) ?_
    refine lv_imul hx hb d_C_execute_102 ?_
    refine lv_iload hx hb d_C_execute_103 (lv_at hl 0 rfl) ?_
    refine lv_iadd hx hb d_C_execute_105 ?_
    refine va_iast hx hb hK hP hD hS 0 0 rfl rfl (reg_in (wA_nI _) (in_A hr2 (Or.inl hs14))) d_C_execute_106 (fun H locs hP hD hS => ?_)
    replace hP : va_P (dC, dI) classes [(r9, .inl (cr, 8, .inl (upd rg (Int32.toNatClampNeg (wA r1)) (((wB r1) * (256 : Int32)) + (wC r1))))), (w9, .inl (cw, 32, .inl wd)), (q9, .inl (cp, 64, .inl f)), (h0, .inr (3, oE (upc F 1 x15) r9 o9 w9)), (p9, .inr (1, [.ref q9, .int (nI cn)]))] H := hP
    replace hD : va_D A [(r9, .inl (cr, 8, .inl (upd rg (Int32.toNatClampNeg (wA r1)) (((wB r1) * (256 : Int32)) + (wC r1))))), (w9, .inl (cw, 32, .inl wd)), (q9, .inl (cp, 64, .inl f)), (h0, .inr (3, oE (upc F 1 x15) r9 o9 w9)), (p9, .inr (1, [.ref q9, .int (nI cn)]))] := hD
    refine lv_goto (tgt := 270) hx hb d_C_execute_107 rfl ?_
    have hP9 := hP.sub (ws' := [(h0, .inr (3, oE (upc F 1 x15) r9 o9 w9)), (r9, .inl (cr, 8, .inl (upd rg (Int32.toNatClampNeg (wA r1)) (((wB r1) * (256 : Int32)) + (wC r1))))), (w9, .inl (cw, 32, .inl wd)), (p9, .inr (1, [.ref q9, .int (nI cn)])), (q9, .inl (cp, 64, .inl f))]) [3, 0, 1, 4, 2] rfl
    have hD9 := hD.sub (ws' := [(h0, .inr (3, oE (upc F 1 x15) r9 o9 w9)), (r9, .inl (cr, 8, .inl (upd rg (Int32.toNatClampNeg (wA r1)) (((wB r1) * (256 : Int32)) + (wC r1))))), (w9, .inl (cw, 32, .inl wd)), (p9, .inr (1, [.ref q9, .int (nI cn)])), (q9, .inl (cp, 64, .inl f))]) [3, 0, 1, 4, 2] (by decide) rfl
    have hK9 := hK.sub (tys' := [(cr, .int), (cw, .int), (cp, .int)]) [0, 1, 2] rfl
    refine W.widen (k := 0) (n := 0) (Nat.le_of_ble_eq_true rfl) (Nat.le_of_ble_eq_true rfl) ?_
    exact W.vret hx hb hr (fun t ht hW => ⟨⟨(upc F 1 x15, upd rg (Int32.toNatClampNeg (wA r1)) (((wB r1) * (256 : Int32)) + (wC r1)), wd), rfl, ⟨(eI_g (eI_1 hm hr4) (set16 _)), (by rw [← hSP, s_C_execute_E]; try (rw [← hr2E, bnd_eq]); try (rw [← hr4E, bnd_eq]); try (rw [if_pos hs14]); all_goals rfl)⟩, by rw [ht]; exact hP9, va_K.moved hW.alike hK9, hD9⟩, hS.F ht⟩) hS.2.2 d_C_execute_270
  · refine lv_tableIn (off := 208) (tgt := 243) hx hb d_C_execute_35 (by rw [hs14]; decide) (by rw [hs14]; decide) (by rw [hs14]; decide) rfl ?_
    refine lv_aload_n hx hb d_C_execute_243 rfl (lv_at hl 4 rfl) ?_
    refine va_get (D := (dC, dI)) (ci := 3) (v := .ref r9) (C := "VotedTriple$PerfectOne") (T := F_E) (N := 10) hx hb hw in_E hown hK hP 3 rfl rfl 0 (by decide) (hw _ k_70) (fun _ h9 => h9) rfl d_C_execute_244 ?_
    refine lv_iload_n hx hb d_C_execute_247 rfl (lv_at hl 2 rfl) ?_
    refine lv_iload_n hx hb d_C_execute_248 rfl (lv_at hl 3 rfl) ?_
    refine vp_callSi (va_runS (As := [.int r1]) (rest := [.int (wA r1), .ref r9]) ⟨hx, hb, hml, hown, hw⟩ (c_P_opOf l dC dI r1) (va_cwS 1 hw (gdS (k_241) (k_512) (k_240) (k_2)) rfl rfl rfl (by decide +kernel) ⟨Nat.le_of_ble_eq_true rfl, Nat.le_of_ble_eq_true rfl⟩) ⟨fun _ _ _ _ q => q, fun _ _ _ => ⟨rfl, trivial⟩⟩ rfl rfl hl.1 rfl (lv_room (Nat.le_of_ble_eq_true rfl)) d_C_execute_249 ⟨Nat.le_of_ble_eq_true rfl, Nat.le_of_ble_eq_true rfl⟩).run (fun r15 hr16 => ?_)
    subst hr16
    refine lv_aload_n hx hb d_C_execute_252 rfl (lv_at hl 4 rfl) ?_
    refine va_get (D := (dC, dI)) (ci := 3) (v := .ref r9) (C := "VotedTriple$PerfectOne") (T := F_E) (N := 10) hx hb hw in_E hown hK hP 3 rfl rfl 0 (by decide) (hw _ k_70) (fun _ h9 => h9) rfl d_C_execute_253 ?_
    refine lv_iload hx hb d_C_execute_256 (lv_at hl 1 rfl) ?_
    refine va_iald hx hb hK hP 0 0 rfl rfl (reg_in (wB_nI _) (in_ABC hr2 (Or.inl hs14)).2.1) d_C_execute_258 ?_
    refine lv_aload_n hx hb d_C_execute_259 rfl (lv_at hl 4 rfl) ?_
    refine va_get (D := (dC, dI)) (ci := 3) (v := .ref r9) (C := "VotedTriple$PerfectOne") (T := F_E) (N := 10) hx hb hw in_E hown hK hP 3 rfl rfl 0 (by decide) (hw _ k_70) (fun _ h9 => h9) rfl d_C_execute_260 ?_
    refine lv_iload hx hb d_C_execute_263 (lv_at hl 0 rfl) ?_
    refine va_iald hx hb hK hP 0 0 rfl rfl (reg_in (wC_nI _) (in_ABC hr2 (Or.inl hs14)).2.2) d_C_execute_265 ?_
    refine vp_callSi (va_runS (As := [.int (ush r1 24), .int (rg (Int32.toNatClampNeg (wB r1))), .int (rg (Int32.toNatClampNeg (wC r1)))]) (rest := [.int (wA r1), .ref r9]) ⟨hx, hb, hml, hown, hw⟩ (c_C_reckon l dC dI (ush r1 24) (rg (Int32.toNatClampNeg (wB r1))) (rg (Int32.toNatClampNeg (wC r1))) (rg_at hm.2.2.1 (reg_in (wB_nI _) (in_ABC hr2 (Or.inl hs14)).2.1) (by decide)) (rg_at hm.2.2.1 (reg_in (wC_nI _) (in_ABC hr2 (Or.inl hs14)).2.2) (by decide))) (va_cwS 3 hw (gdS (k_540) (k_538) (k_539) (k_3)) rfl rfl rfl (by decide +kernel) ⟨Nat.le_of_ble_eq_true rfl, Nat.le_of_ble_eq_true rfl⟩) ⟨fun _ _ _ _ q => q, fun _ _ _ => ⟨rfl, trivial⟩⟩ rfl rfl hl.1 rfl (lv_room (Nat.le_of_ble_eq_true rfl)) d_C_execute_266 ⟨Nat.le_of_ble_eq_true rfl, Nat.le_of_ble_eq_true rfl⟩).run (fun r17 hr18 => ?_)
    obtain ⟨hr18, hr18E⟩ := hr18
    refine va_iast hx hb hK hP hD hS 0 0 rfl rfl (reg_in (wA_nI _) (in_ABC hr2 (Or.inl hs14)).1) d_C_execute_269 (fun H locs hP hD hS => ?_)
    replace hP : va_P (dC, dI) classes [(r9, .inl (cr, 8, .inl (upd rg (Int32.toNatClampNeg (wA r1)) r17))), (w9, .inl (cw, 32, .inl wd)), (q9, .inl (cp, 64, .inl f)), (h0, .inr (3, oE (upc F 1 x15) r9 o9 w9)), (p9, .inr (1, [.ref q9, .int (nI cn)]))] H := hP
    replace hD : va_D A [(r9, .inl (cr, 8, .inl (upd rg (Int32.toNatClampNeg (wA r1)) r17))), (w9, .inl (cw, 32, .inl wd)), (q9, .inl (cp, 64, .inl f)), (h0, .inr (3, oE (upc F 1 x15) r9 o9 w9)), (p9, .inr (1, [.ref q9, .int (nI cn)]))] := hD
    have hP9 := hP.sub (ws' := [(h0, .inr (3, oE (upc F 1 x15) r9 o9 w9)), (r9, .inl (cr, 8, .inl (upd rg (Int32.toNatClampNeg (wA r1)) r17))), (w9, .inl (cw, 32, .inl wd)), (p9, .inr (1, [.ref q9, .int (nI cn)])), (q9, .inl (cp, 64, .inl f))]) [3, 0, 1, 4, 2] rfl
    have hD9 := hD.sub (ws' := [(h0, .inr (3, oE (upc F 1 x15) r9 o9 w9)), (r9, .inl (cr, 8, .inl (upd rg (Int32.toNatClampNeg (wA r1)) r17))), (w9, .inl (cw, 32, .inl wd)), (p9, .inr (1, [.ref q9, .int (nI cn)])), (q9, .inl (cp, 64, .inl f))]) [3, 0, 1, 4, 2] (by decide) rfl
    have hK9 := hK.sub (tys' := [(cr, .int), (cw, .int), (cp, .int)]) [0, 1, 2] rfl
    refine W.widen (k := 0) (n := 0) (Nat.le_of_ble_eq_true rfl) (Nat.le_of_ble_eq_true rfl) ?_
    exact W.vret hx hb hr (fun t ht hW => ⟨⟨(upc F 1 x15, upd rg (Int32.toNatClampNeg (wA r1)) r17, wd), rfl, ⟨(eI_g (eI_1 hm hr4) hr18), (by rw [← hSP, s_C_execute_E]; try (rw [← hr2E, bnd_eq]); try (rw [← hr4E, bnd_eq]); try (rw [if_neg (by rw [hs14]; decide)]); try (rw [if_pos hs14]); try (rw [← hr18E, bnd_eq]); all_goals rfl)⟩, by rw [ht]; exact hP9, va_K.moved hW.alike hK9, hD9⟩, hS.F ht⟩) hS.2.2 d_C_execute_270
  · refine lv_tableIn (off := 208) (tgt := 243) hx hb d_C_execute_35 (by rw [hs14]; decide) (by rw [hs14]; decide) (by rw [hs14]; decide) rfl ?_
    refine lv_aload_n hx hb d_C_execute_243 rfl (lv_at hl 4 rfl) ?_
    refine va_get (D := (dC, dI)) (ci := 3) (v := .ref r9) (C := "VotedTriple$PerfectOne") (T := F_E) (N := 10) hx hb hw in_E hown hK hP 3 rfl rfl 0 (by decide) (hw _ k_70) (fun _ h9 => h9) rfl d_C_execute_244 ?_
    refine lv_iload_n hx hb d_C_execute_247 rfl (lv_at hl 2 rfl) ?_
    refine lv_iload_n hx hb d_C_execute_248 rfl (lv_at hl 3 rfl) ?_
    refine vp_callSi (va_runS (As := [.int r1]) (rest := [.int (wA r1), .ref r9]) ⟨hx, hb, hml, hown, hw⟩ (c_P_opOf l dC dI r1) (va_cwS 1 hw (gdS (k_241) (k_512) (k_240) (k_2)) rfl rfl rfl (by decide +kernel) ⟨Nat.le_of_ble_eq_true rfl, Nat.le_of_ble_eq_true rfl⟩) ⟨fun _ _ _ _ q => q, fun _ _ _ => ⟨rfl, trivial⟩⟩ rfl rfl hl.1 rfl (lv_room (Nat.le_of_ble_eq_true rfl)) d_C_execute_249 ⟨Nat.le_of_ble_eq_true rfl, Nat.le_of_ble_eq_true rfl⟩).run (fun r19 hr20 => ?_)
    subst hr20
    refine lv_aload_n hx hb d_C_execute_252 rfl (lv_at hl 4 rfl) ?_
    refine va_get (D := (dC, dI)) (ci := 3) (v := .ref r9) (C := "VotedTriple$PerfectOne") (T := F_E) (N := 10) hx hb hw in_E hown hK hP 3 rfl rfl 0 (by decide) (hw _ k_70) (fun _ h9 => h9) rfl d_C_execute_253 ?_
    refine lv_iload hx hb d_C_execute_256 (lv_at hl 1 rfl) ?_
    refine va_iald hx hb hK hP 0 0 rfl rfl (reg_in (wB_nI _) (in_ABC hr2 (Or.inr (Or.inl hs14))).2.1) d_C_execute_258 ?_
    refine lv_aload_n hx hb d_C_execute_259 rfl (lv_at hl 4 rfl) ?_
    refine va_get (D := (dC, dI)) (ci := 3) (v := .ref r9) (C := "VotedTriple$PerfectOne") (T := F_E) (N := 10) hx hb hw in_E hown hK hP 3 rfl rfl 0 (by decide) (hw _ k_70) (fun _ h9 => h9) rfl d_C_execute_260 ?_
    refine lv_iload hx hb d_C_execute_263 (lv_at hl 0 rfl) ?_
    refine va_iald hx hb hK hP 0 0 rfl rfl (reg_in (wC_nI _) (in_ABC hr2 (Or.inr (Or.inl hs14))).2.2) d_C_execute_265 ?_
    refine vp_callSi (va_runS (As := [.int (ush r1 24), .int (rg (Int32.toNatClampNeg (wB r1))), .int (rg (Int32.toNatClampNeg (wC r1)))]) (rest := [.int (wA r1), .ref r9]) ⟨hx, hb, hml, hown, hw⟩ (c_C_reckon l dC dI (ush r1 24) (rg (Int32.toNatClampNeg (wB r1))) (rg (Int32.toNatClampNeg (wC r1))) (rg_at hm.2.2.1 (reg_in (wB_nI _) (in_ABC hr2 (Or.inr (Or.inl hs14))).2.1) (by decide)) (rg_at hm.2.2.1 (reg_in (wC_nI _) (in_ABC hr2 (Or.inr (Or.inl hs14))).2.2) (by decide))) (va_cwS 3 hw (gdS (k_540) (k_538) (k_539) (k_3)) rfl rfl rfl (by decide +kernel) ⟨Nat.le_of_ble_eq_true rfl, Nat.le_of_ble_eq_true rfl⟩) ⟨fun _ _ _ _ q => q, fun _ _ _ => ⟨rfl, trivial⟩⟩ rfl rfl hl.1 rfl (lv_room (Nat.le_of_ble_eq_true rfl)) d_C_execute_266 ⟨Nat.le_of_ble_eq_true rfl, Nat.le_of_ble_eq_true rfl⟩).run (fun r21 hr22 => ?_)
    obtain ⟨hr22, hr22E⟩ := hr22
    refine va_iast hx hb hK hP hD hS 0 0 rfl rfl (reg_in (wA_nI _) (in_ABC hr2 (Or.inr (Or.inl hs14))).1) d_C_execute_269 (fun H locs hP hD hS => ?_)
    replace hP : va_P (dC, dI) classes [(r9, .inl (cr, 8, .inl (upd rg (Int32.toNatClampNeg (wA r1)) r21))), (w9, .inl (cw, 32, .inl wd)), (q9, .inl (cp, 64, .inl f)), (h0, .inr (3, oE (upc F 1 x15) r9 o9 w9)), (p9, .inr (1, [.ref q9, .int (nI cn)]))] H := hP
    replace hD : va_D A [(r9, .inl (cr, 8, .inl (upd rg (Int32.toNatClampNeg (wA r1)) r21))), (w9, .inl (cw, 32, .inl wd)), (q9, .inl (cp, 64, .inl f)), (h0, .inr (3, oE (upc F 1 x15) r9 o9 w9)), (p9, .inr (1, [.ref q9, .int (nI cn)]))] := hD
    have hP9 := hP.sub (ws' := [(h0, .inr (3, oE (upc F 1 x15) r9 o9 w9)), (r9, .inl (cr, 8, .inl (upd rg (Int32.toNatClampNeg (wA r1)) r21))), (w9, .inl (cw, 32, .inl wd)), (p9, .inr (1, [.ref q9, .int (nI cn)])), (q9, .inl (cp, 64, .inl f))]) [3, 0, 1, 4, 2] rfl
    have hD9 := hD.sub (ws' := [(h0, .inr (3, oE (upc F 1 x15) r9 o9 w9)), (r9, .inl (cr, 8, .inl (upd rg (Int32.toNatClampNeg (wA r1)) r21))), (w9, .inl (cw, 32, .inl wd)), (p9, .inr (1, [.ref q9, .int (nI cn)])), (q9, .inl (cp, 64, .inl f))]) [3, 0, 1, 4, 2] (by decide) rfl
    have hK9 := hK.sub (tys' := [(cr, .int), (cw, .int), (cp, .int)]) [0, 1, 2] rfl
    refine W.widen (k := 0) (n := 0) (Nat.le_of_ble_eq_true rfl) (Nat.le_of_ble_eq_true rfl) ?_
    exact W.vret hx hb hr (fun t ht hW => ⟨⟨(upc F 1 x15, upd rg (Int32.toNatClampNeg (wA r1)) r21, wd), rfl, ⟨(eI_g (eI_1 hm hr4) hr22), (by rw [← hSP, s_C_execute_E]; try (rw [← hr2E, bnd_eq]); try (rw [← hr4E, bnd_eq]); try (rw [if_neg (by rw [hs14]; decide)]); try (rw [if_neg (by rw [hs14]; decide)]); try (rw [if_pos hs14]); try (rw [← hr22E, bnd_eq]); all_goals rfl)⟩, by rw [ht]; exact hP9, va_K.moved hW.alike hK9, hD9⟩, hS.F ht⟩) hS.2.2 d_C_execute_270
  · refine lv_tableIn (off := 208) (tgt := 243) hx hb d_C_execute_35 (by rw [hs14]; decide) (by rw [hs14]; decide) (by rw [hs14]; decide) rfl ?_
    refine lv_aload_n hx hb d_C_execute_243 rfl (lv_at hl 4 rfl) ?_
    refine va_get (D := (dC, dI)) (ci := 3) (v := .ref r9) (C := "VotedTriple$PerfectOne") (T := F_E) (N := 10) hx hb hw in_E hown hK hP 3 rfl rfl 0 (by decide) (hw _ k_70) (fun _ h9 => h9) rfl d_C_execute_244 ?_
    refine lv_iload_n hx hb d_C_execute_247 rfl (lv_at hl 2 rfl) ?_
    refine lv_iload_n hx hb d_C_execute_248 rfl (lv_at hl 3 rfl) ?_
    refine vp_callSi (va_runS (As := [.int r1]) (rest := [.int (wA r1), .ref r9]) ⟨hx, hb, hml, hown, hw⟩ (c_P_opOf l dC dI r1) (va_cwS 1 hw (gdS (k_241) (k_512) (k_240) (k_2)) rfl rfl rfl (by decide +kernel) ⟨Nat.le_of_ble_eq_true rfl, Nat.le_of_ble_eq_true rfl⟩) ⟨fun _ _ _ _ q => q, fun _ _ _ => ⟨rfl, trivial⟩⟩ rfl rfl hl.1 rfl (lv_room (Nat.le_of_ble_eq_true rfl)) d_C_execute_249 ⟨Nat.le_of_ble_eq_true rfl, Nat.le_of_ble_eq_true rfl⟩).run (fun r23 hr24 => ?_)
    subst hr24
    refine lv_aload_n hx hb d_C_execute_252 rfl (lv_at hl 4 rfl) ?_
    refine va_get (D := (dC, dI)) (ci := 3) (v := .ref r9) (C := "VotedTriple$PerfectOne") (T := F_E) (N := 10) hx hb hw in_E hown hK hP 3 rfl rfl 0 (by decide) (hw _ k_70) (fun _ h9 => h9) rfl d_C_execute_253 ?_
    refine lv_iload hx hb d_C_execute_256 (lv_at hl 1 rfl) ?_
    refine va_iald hx hb hK hP 0 0 rfl rfl (reg_in (wB_nI _) (in_ABC hr2 (Or.inr (Or.inr (Or.inl hs14)))).2.1) d_C_execute_258 ?_
    refine lv_aload_n hx hb d_C_execute_259 rfl (lv_at hl 4 rfl) ?_
    refine va_get (D := (dC, dI)) (ci := 3) (v := .ref r9) (C := "VotedTriple$PerfectOne") (T := F_E) (N := 10) hx hb hw in_E hown hK hP 3 rfl rfl 0 (by decide) (hw _ k_70) (fun _ h9 => h9) rfl d_C_execute_260 ?_
    refine lv_iload hx hb d_C_execute_263 (lv_at hl 0 rfl) ?_
    refine va_iald hx hb hK hP 0 0 rfl rfl (reg_in (wC_nI _) (in_ABC hr2 (Or.inr (Or.inr (Or.inl hs14)))).2.2) d_C_execute_265 ?_
    refine vp_callSi (va_runS (As := [.int (ush r1 24), .int (rg (Int32.toNatClampNeg (wB r1))), .int (rg (Int32.toNatClampNeg (wC r1)))]) (rest := [.int (wA r1), .ref r9]) ⟨hx, hb, hml, hown, hw⟩ (c_C_reckon l dC dI (ush r1 24) (rg (Int32.toNatClampNeg (wB r1))) (rg (Int32.toNatClampNeg (wC r1))) (rg_at hm.2.2.1 (reg_in (wB_nI _) (in_ABC hr2 (Or.inr (Or.inr (Or.inl hs14)))).2.1) (by decide)) (rg_at hm.2.2.1 (reg_in (wC_nI _) (in_ABC hr2 (Or.inr (Or.inr (Or.inl hs14)))).2.2) (by decide))) (va_cwS 3 hw (gdS (k_540) (k_538) (k_539) (k_3)) rfl rfl rfl (by decide +kernel) ⟨Nat.le_of_ble_eq_true rfl, Nat.le_of_ble_eq_true rfl⟩) ⟨fun _ _ _ _ q => q, fun _ _ _ => ⟨rfl, trivial⟩⟩ rfl rfl hl.1 rfl (lv_room (Nat.le_of_ble_eq_true rfl)) d_C_execute_266 ⟨Nat.le_of_ble_eq_true rfl, Nat.le_of_ble_eq_true rfl⟩).run (fun r25 hr26 => ?_)
    obtain ⟨hr26, hr26E⟩ := hr26
    refine va_iast hx hb hK hP hD hS 0 0 rfl rfl (reg_in (wA_nI _) (in_ABC hr2 (Or.inr (Or.inr (Or.inl hs14)))).1) d_C_execute_269 (fun H locs hP hD hS => ?_)
    replace hP : va_P (dC, dI) classes [(r9, .inl (cr, 8, .inl (upd rg (Int32.toNatClampNeg (wA r1)) r25))), (w9, .inl (cw, 32, .inl wd)), (q9, .inl (cp, 64, .inl f)), (h0, .inr (3, oE (upc F 1 x15) r9 o9 w9)), (p9, .inr (1, [.ref q9, .int (nI cn)]))] H := hP
    replace hD : va_D A [(r9, .inl (cr, 8, .inl (upd rg (Int32.toNatClampNeg (wA r1)) r25))), (w9, .inl (cw, 32, .inl wd)), (q9, .inl (cp, 64, .inl f)), (h0, .inr (3, oE (upc F 1 x15) r9 o9 w9)), (p9, .inr (1, [.ref q9, .int (nI cn)]))] := hD
    have hP9 := hP.sub (ws' := [(h0, .inr (3, oE (upc F 1 x15) r9 o9 w9)), (r9, .inl (cr, 8, .inl (upd rg (Int32.toNatClampNeg (wA r1)) r25))), (w9, .inl (cw, 32, .inl wd)), (p9, .inr (1, [.ref q9, .int (nI cn)])), (q9, .inl (cp, 64, .inl f))]) [3, 0, 1, 4, 2] rfl
    have hD9 := hD.sub (ws' := [(h0, .inr (3, oE (upc F 1 x15) r9 o9 w9)), (r9, .inl (cr, 8, .inl (upd rg (Int32.toNatClampNeg (wA r1)) r25))), (w9, .inl (cw, 32, .inl wd)), (p9, .inr (1, [.ref q9, .int (nI cn)])), (q9, .inl (cp, 64, .inl f))]) [3, 0, 1, 4, 2] (by decide) rfl
    have hK9 := hK.sub (tys' := [(cr, .int), (cw, .int), (cp, .int)]) [0, 1, 2] rfl
    refine W.widen (k := 0) (n := 0) (Nat.le_of_ble_eq_true rfl) (Nat.le_of_ble_eq_true rfl) ?_
    exact W.vret hx hb hr (fun t ht hW => ⟨⟨(upc F 1 x15, upd rg (Int32.toNatClampNeg (wA r1)) r25, wd), rfl, ⟨(eI_g (eI_1 hm hr4) hr26), (by rw [← hSP, s_C_execute_E]; try (rw [← hr2E, bnd_eq]); try (rw [← hr4E, bnd_eq]); try (rw [if_neg (by rw [hs14]; decide)]); try (rw [if_neg (by rw [hs14]; decide)]); try (rw [if_neg (by rw [hs14]; decide)]); try (rw [if_pos hs14]); try (rw [← hr26E, bnd_eq]); all_goals rfl)⟩, by rw [ht]; exact hP9, va_K.moved hW.alike hK9, hD9⟩, hS.F ht⟩) hS.2.2 d_C_execute_270
  · refine lv_tableIn (off := 208) (tgt := 243) hx hb d_C_execute_35 (by rw [hs14]; decide) (by rw [hs14]; decide) (by rw [hs14]; decide) rfl ?_
    refine lv_aload_n hx hb d_C_execute_243 rfl (lv_at hl 4 rfl) ?_
    refine va_get (D := (dC, dI)) (ci := 3) (v := .ref r9) (C := "VotedTriple$PerfectOne") (T := F_E) (N := 10) hx hb hw in_E hown hK hP 3 rfl rfl 0 (by decide) (hw _ k_70) (fun _ h9 => h9) rfl d_C_execute_244 ?_
    refine lv_iload_n hx hb d_C_execute_247 rfl (lv_at hl 2 rfl) ?_
    refine lv_iload_n hx hb d_C_execute_248 rfl (lv_at hl 3 rfl) ?_
    refine vp_callSi (va_runS (As := [.int r1]) (rest := [.int (wA r1), .ref r9]) ⟨hx, hb, hml, hown, hw⟩ (c_P_opOf l dC dI r1) (va_cwS 1 hw (gdS (k_241) (k_512) (k_240) (k_2)) rfl rfl rfl (by decide +kernel) ⟨Nat.le_of_ble_eq_true rfl, Nat.le_of_ble_eq_true rfl⟩) ⟨fun _ _ _ _ q => q, fun _ _ _ => ⟨rfl, trivial⟩⟩ rfl rfl hl.1 rfl (lv_room (Nat.le_of_ble_eq_true rfl)) d_C_execute_249 ⟨Nat.le_of_ble_eq_true rfl, Nat.le_of_ble_eq_true rfl⟩).run (fun r27 hr28 => ?_)
    subst hr28
    refine lv_aload_n hx hb d_C_execute_252 rfl (lv_at hl 4 rfl) ?_
    refine va_get (D := (dC, dI)) (ci := 3) (v := .ref r9) (C := "VotedTriple$PerfectOne") (T := F_E) (N := 10) hx hb hw in_E hown hK hP 3 rfl rfl 0 (by decide) (hw _ k_70) (fun _ h9 => h9) rfl d_C_execute_253 ?_
    refine lv_iload hx hb d_C_execute_256 (lv_at hl 1 rfl) ?_
    refine va_iald hx hb hK hP 0 0 rfl rfl (reg_in (wB_nI _) (in_ABC hr2 (Or.inr (Or.inr (Or.inr (hs14))))).2.1) d_C_execute_258 ?_
    refine lv_aload_n hx hb d_C_execute_259 rfl (lv_at hl 4 rfl) ?_
    refine va_get (D := (dC, dI)) (ci := 3) (v := .ref r9) (C := "VotedTriple$PerfectOne") (T := F_E) (N := 10) hx hb hw in_E hown hK hP 3 rfl rfl 0 (by decide) (hw _ k_70) (fun _ h9 => h9) rfl d_C_execute_260 ?_
    refine lv_iload hx hb d_C_execute_263 (lv_at hl 0 rfl) ?_
    refine va_iald hx hb hK hP 0 0 rfl rfl (reg_in (wC_nI _) (in_ABC hr2 (Or.inr (Or.inr (Or.inr (hs14))))).2.2) d_C_execute_265 ?_
    refine vp_callSi (va_runS (As := [.int (ush r1 24), .int (rg (Int32.toNatClampNeg (wB r1))), .int (rg (Int32.toNatClampNeg (wC r1)))]) (rest := [.int (wA r1), .ref r9]) ⟨hx, hb, hml, hown, hw⟩ (c_C_reckon l dC dI (ush r1 24) (rg (Int32.toNatClampNeg (wB r1))) (rg (Int32.toNatClampNeg (wC r1))) (rg_at hm.2.2.1 (reg_in (wB_nI _) (in_ABC hr2 (Or.inr (Or.inr (Or.inr (hs14))))).2.1) (by decide)) (rg_at hm.2.2.1 (reg_in (wC_nI _) (in_ABC hr2 (Or.inr (Or.inr (Or.inr (hs14))))).2.2) (by decide))) (va_cwS 3 hw (gdS (k_540) (k_538) (k_539) (k_3)) rfl rfl rfl (by decide +kernel) ⟨Nat.le_of_ble_eq_true rfl, Nat.le_of_ble_eq_true rfl⟩) ⟨fun _ _ _ _ q => q, fun _ _ _ => ⟨rfl, trivial⟩⟩ rfl rfl hl.1 rfl (lv_room (Nat.le_of_ble_eq_true rfl)) d_C_execute_266 ⟨Nat.le_of_ble_eq_true rfl, Nat.le_of_ble_eq_true rfl⟩).run (fun r29 hr30 => ?_)
    obtain ⟨hr30, hr30E⟩ := hr30
    refine va_iast hx hb hK hP hD hS 0 0 rfl rfl (reg_in (wA_nI _) (in_ABC hr2 (Or.inr (Or.inr (Or.inr (hs14))))).1) d_C_execute_269 (fun H locs hP hD hS => ?_)
    replace hP : va_P (dC, dI) classes [(r9, .inl (cr, 8, .inl (upd rg (Int32.toNatClampNeg (wA r1)) r29))), (w9, .inl (cw, 32, .inl wd)), (q9, .inl (cp, 64, .inl f)), (h0, .inr (3, oE (upc F 1 x15) r9 o9 w9)), (p9, .inr (1, [.ref q9, .int (nI cn)]))] H := hP
    replace hD : va_D A [(r9, .inl (cr, 8, .inl (upd rg (Int32.toNatClampNeg (wA r1)) r29))), (w9, .inl (cw, 32, .inl wd)), (q9, .inl (cp, 64, .inl f)), (h0, .inr (3, oE (upc F 1 x15) r9 o9 w9)), (p9, .inr (1, [.ref q9, .int (nI cn)]))] := hD
    have hP9 := hP.sub (ws' := [(h0, .inr (3, oE (upc F 1 x15) r9 o9 w9)), (r9, .inl (cr, 8, .inl (upd rg (Int32.toNatClampNeg (wA r1)) r29))), (w9, .inl (cw, 32, .inl wd)), (p9, .inr (1, [.ref q9, .int (nI cn)])), (q9, .inl (cp, 64, .inl f))]) [3, 0, 1, 4, 2] rfl
    have hD9 := hD.sub (ws' := [(h0, .inr (3, oE (upc F 1 x15) r9 o9 w9)), (r9, .inl (cr, 8, .inl (upd rg (Int32.toNatClampNeg (wA r1)) r29))), (w9, .inl (cw, 32, .inl wd)), (p9, .inr (1, [.ref q9, .int (nI cn)])), (q9, .inl (cp, 64, .inl f))]) [3, 0, 1, 4, 2] (by decide) rfl
    have hK9 := hK.sub (tys' := [(cr, .int), (cw, .int), (cp, .int)]) [0, 1, 2] rfl
    refine W.widen (k := 0) (n := 0) (Nat.le_of_ble_eq_true rfl) (Nat.le_of_ble_eq_true rfl) ?_
    exact W.vret hx hb hr (fun t ht hW => ⟨⟨(upc F 1 x15, upd rg (Int32.toNatClampNeg (wA r1)) r29, wd), rfl, ⟨(eI_g (eI_1 hm hr4) hr30), (by rw [← hSP, s_C_execute_E]; try (rw [← hr2E, bnd_eq]); try (rw [← hr4E, bnd_eq]); try (rw [if_neg (by rw [hs14]; decide)]); try (rw [if_neg (by rw [hs14]; decide)]); try (rw [if_neg (by rw [hs14]; decide)]); try (rw [if_neg (by rw [hs14]; decide)]); try (rw [if_pos hs14]); try (rw [← hr30E, bnd_eq]); all_goals rfl)⟩, by rw [ht]; exact hP9, va_K.moved hW.alike hK9, hD9⟩, hS.F ht⟩) hS.2.2 d_C_execute_270
  · refine lv_tableIn (off := 75) (tgt := 110) hx hb d_C_execute_35 (by rw [hs14]; decide) (by rw [hs14]; decide) (by rw [hs14]; decide) rfl ?_
    refine lv_aload_n hx hb d_C_execute_110 rfl (lv_at hl 4 rfl) ?_
    refine va_get (D := (dC, dI)) (ci := 3) (v := .ref r9) (C := "VotedTriple$PerfectOne") (T := F_E) (N := 10) hx hb hw in_E hown hK hP 3 rfl rfl 0 (by decide) (hw _ k_70) (fun _ h9 => h9) rfl d_C_execute_111 ?_
    refine lv_iload_n hx hb d_C_execute_114 rfl (lv_at hl 2 rfl) ?_
    refine lv_aload_n hx hb d_C_execute_115 rfl (lv_at hl 4 rfl) ?_
    refine lv_aload_n hx hb d_C_execute_116 rfl (lv_at hl 4 rfl) ?_
    refine va_get (D := (dC, dI)) (ci := 3) (v := .ref r9) (C := "VotedTriple$PerfectOne") (T := F_E) (N := 10) hx hb hw in_E hown hK hP 3 rfl rfl 0 (by decide) (hw _ k_70) (fun _ h9 => h9) rfl d_C_execute_117 ?_
    refine lv_iload hx hb d_C_execute_120 (lv_at hl 1 rfl) ?_
    refine va_iald hx hb hK hP 0 0 rfl rfl (reg_in (wB_nI _) (in_AB hr2 (Or.inl hs14)).2) d_C_execute_122 ?_
    refine lv_iload hx hb d_C_execute_123 (lv_at hl 0 rfl) ?_
    refine lv_iadd hx hb d_C_execute_125 ?_
    refine lv_bipush (v := 32) hx hb d_C_execute_126 (by decide) ?_
    refine lv_irem hx hb d_C_execute_128 (by decide) ?_
    replace hPc := hP.sub (ws' := [(h0, .inr (3, oE (upc F 1 x15) r9 o9 w9)), (w9, .inl (cw, 32, .inl wd))]) [3, 1] rfl
    replace hKc := hK.sub (tys' := [(cw, .int)]) [1] rfl
    refine vp_callSi (va_runU (C := "VotedTriple$PerfectOne") (As := [.int (pl32 (rg (Int32.toNatClampNeg (wB r1))) (wC r1))]) (rest := [.int (wA r1), .ref r9]) ⟨hx, hb, hml, hown, hw⟩ (c_E_readWord l dC dI h0 r9 o9 w9 (upc F 1 x15) cw wd (pl32 (rg (Int32.toNatClampNeg (wB r1))) (wC r1)) (pl32_in (rg_at hm.2.2.1 (reg_in (wB_nI _) (in_AB hr2 (Or.inl hs14)).2) (by decide)) (wC_nI _)) hm.2.2.2) (va_cwA (C := "VotedTriple$PerfectOne") (owner := "VotedTriple$Processor") (x := ⟨"VotedTriple$Processor", "readWord", "(I)I"⟩) (y := y_E_readWord) 1 hw (gd_l (List.forall_mem_cons.mpr ⟨k_513, List.forall_mem_cons.mpr ⟨k_515, List.forall_mem_cons.mpr ⟨k_516, List.forall_mem_cons.mpr ⟨k_517, List.forall_mem_cons.mpr ⟨k_4, fun _ h => absurd h List.not_mem_nil⟩⟩⟩⟩⟩) (gd (k_518))) rfl rfl rfl (nw_514 hnw) (by decide +kernel) ⟨Nat.le_of_ble_eq_true rfl, Nat.le_of_ble_eq_true rfl⟩) ⟨fun a U g mk q => ⟨q.1, q.2.1, va_K.moved (u := U) (U := U.calling g mk a) (Vm.Alike.refl U.vm) q.2.2⟩, va_recv hK hP rfl (q0 := 3) rfl, fun U hU hW => ⟨rfl, by rw [hU]; exact hPc, va_K.moved hW.alike hKc⟩⟩ rfl rfl hl.1 rfl (lv_room (Nat.le_of_ble_eq_true rfl)) d_C_execute_129 ⟨Nat.le_of_ble_eq_true rfl, Nat.le_of_ble_eq_true rfl⟩).run (fun r31 hr32 => ?_)
    obtain ⟨hr32, hr32E⟩ := hr32
    refine va_iast hx hb hK hP hD hS 0 0 rfl rfl (reg_in (wA_nI _) (in_AB hr2 (Or.inl hs14)).1) d_C_execute_132 (fun H locs hP hD hS => ?_)
    replace hP : va_P (dC, dI) classes [(r9, .inl (cr, 8, .inl (upd rg (Int32.toNatClampNeg (wA r1)) r31))), (w9, .inl (cw, 32, .inl wd)), (q9, .inl (cp, 64, .inl f)), (h0, .inr (3, oE (upc F 1 x15) r9 o9 w9)), (p9, .inr (1, [.ref q9, .int (nI cn)]))] H := hP
    replace hD : va_D A [(r9, .inl (cr, 8, .inl (upd rg (Int32.toNatClampNeg (wA r1)) r31))), (w9, .inl (cw, 32, .inl wd)), (q9, .inl (cp, 64, .inl f)), (h0, .inr (3, oE (upc F 1 x15) r9 o9 w9)), (p9, .inr (1, [.ref q9, .int (nI cn)]))] := hD
    refine lv_goto (tgt := 270) hx hb d_C_execute_133 rfl ?_
    have hP9 := hP.sub (ws' := [(h0, .inr (3, oE (upc F 1 x15) r9 o9 w9)), (r9, .inl (cr, 8, .inl (upd rg (Int32.toNatClampNeg (wA r1)) r31))), (w9, .inl (cw, 32, .inl wd)), (p9, .inr (1, [.ref q9, .int (nI cn)])), (q9, .inl (cp, 64, .inl f))]) [3, 0, 1, 4, 2] rfl
    have hD9 := hD.sub (ws' := [(h0, .inr (3, oE (upc F 1 x15) r9 o9 w9)), (r9, .inl (cr, 8, .inl (upd rg (Int32.toNatClampNeg (wA r1)) r31))), (w9, .inl (cw, 32, .inl wd)), (p9, .inr (1, [.ref q9, .int (nI cn)])), (q9, .inl (cp, 64, .inl f))]) [3, 0, 1, 4, 2] (by decide) rfl
    have hK9 := hK.sub (tys' := [(cr, .int), (cw, .int), (cp, .int)]) [0, 1, 2] rfl
    refine W.widen (k := 0) (n := 0) (Nat.le_of_ble_eq_true rfl) (Nat.le_of_ble_eq_true rfl) ?_
    exact W.vret hx hb hr (fun t ht hW => ⟨⟨(upc F 1 x15, upd rg (Int32.toNatClampNeg (wA r1)) r31, wd), rfl, ⟨(eI_g (eI_1 hm hr4) hr32), (by rw [← hSP, s_C_execute_E]; try (rw [← hr2E, bnd_eq]); try (rw [← hr4E, bnd_eq]); try (rw [if_neg (by rw [hs14]; decide)]); try (rw [if_neg (by rw [hs14]; decide)]); try (rw [if_neg (by rw [hs14]; decide)]); try (rw [if_neg (by rw [hs14]; decide)]); try (rw [if_neg (by rw [hs14]; decide)]); try (rw [if_pos hs14]); try (rw [← hr32E, bnd_eq]); all_goals rfl)⟩, by rw [ht]; exact hP9, va_K.moved hW.alike hK9, hD9⟩, hS.F ht⟩) hS.2.2 d_C_execute_270
  · refine lv_tableIn (off := 101) (tgt := 136) hx hb d_C_execute_35 (by rw [hs14]; decide) (by rw [hs14]; decide) (by rw [hs14]; decide) rfl ?_
    refine lv_aload_n hx hb d_C_execute_136 rfl (lv_at hl 4 rfl) ?_
    refine lv_aload_n hx hb d_C_execute_137 rfl (lv_at hl 4 rfl) ?_
    refine va_get (D := (dC, dI)) (ci := 3) (v := .ref r9) (C := "VotedTriple$PerfectOne") (T := F_E) (N := 10) hx hb hw in_E hown hK hP 3 rfl rfl 0 (by decide) (hw _ k_70) (fun _ h9 => h9) rfl d_C_execute_138 ?_
    refine lv_iload hx hb d_C_execute_141 (lv_at hl 1 rfl) ?_
    refine va_iald hx hb hK hP 0 0 rfl rfl (reg_in (wB_nI _) (in_AB hr2 (Or.inr (hs14))).2) d_C_execute_143 ?_
    refine lv_iload hx hb d_C_execute_144 (lv_at hl 0 rfl) ?_
    refine lv_iadd hx hb d_C_execute_146 ?_
    refine lv_bipush (v := 32) hx hb d_C_execute_147 (by decide) ?_
    refine lv_irem hx hb d_C_execute_149 (by decide) ?_
    refine va_put (D := (dC, dI)) (ci := 3) (v := .int (pl32 (rg (Int32.toNatClampNeg (wB r1))) (wC r1))) (ty := .int) (C := "VotedTriple$PerfectOne") (T := F_E) (N := 10) hx hb hw in_E ft_E tyok_E nm_E hown hK hP hD hS 3 rfl rfl 5 (by decide) (hw _ k_91) (fun _ h9 => h9) rfl (by decide +kernel) rfl rfl (Nat.le_of_ble_eq_true rfl) d_C_execute_150 (fun H locs hP hD hS => ?_)
    replace hP : va_P (dC, dI) classes [(r9, .inl (cr, 8, .inl rg)), (w9, .inl (cw, 32, .inl wd)), (q9, .inl (cp, 64, .inl f)), (h0, .inr (3, [.ref r9, .int (upc F 1 x15 1), .int (upc F 1 x15 2), .int (upc F 1 x15 3), .int (upc F 1 x15 4), .int (pl32 (rg (Int32.toNatClampNeg (wB r1))) (wC r1)), .int (upc F 1 x15 6), .ref o9, .ref w9, .int (upc F 1 x15 9)])), (p9, .inr (1, [.ref q9, .int (nI cn)]))] H := hP
    replace hD : va_D A [(r9, .inl (cr, 8, .inl rg)), (w9, .inl (cw, 32, .inl wd)), (q9, .inl (cp, 64, .inl f)), (h0, .inr (3, [.ref r9, .int (upc F 1 x15 1), .int (upc F 1 x15 2), .int (upc F 1 x15 3), .int (upc F 1 x15 4), .int (pl32 (rg (Int32.toNatClampNeg (wB r1))) (wC r1)), .int (upc F 1 x15 6), .ref o9, .ref w9, .int (upc F 1 x15 9)])), (p9, .inr (1, [.ref q9, .int (nI cn)]))] := hD
    refine lv_aload_n hx hb d_C_execute_153 rfl (lv_at hl 4 rfl) ?_
    refine lv_aload_n hx hb d_C_execute_154 rfl (lv_at hl 4 rfl) ?_
    refine va_get (D := (dC, dI)) (ci := 3) (v := .ref r9) (C := "VotedTriple$PerfectOne") (T := F_E) (N := 10) hx hb hw in_E hown hK hP 3 rfl rfl 0 (by decide) (hw _ k_70) (fun _ h9 => h9) rfl d_C_execute_155 ?_
    refine lv_iload_n hx hb d_C_execute_158 rfl (lv_at hl 2 rfl) ?_
    refine va_iald hx hb hK hP 0 0 rfl rfl (reg_in (wA_nI _) (in_AB hr2 (Or.inr (hs14))).1) d_C_execute_159 ?_
    refine va_put (D := (dC, dI)) (ci := 3) (v := .int (rg (Int32.toNatClampNeg (wA r1)))) (ty := .int) (C := "VotedTriple$PerfectOne") (T := F_E) (N := 10) hx hb hw in_E ft_E tyok_E nm_E hown hK hP hD hS 3 rfl rfl 6 (by decide) (hw _ k_94) (fun _ h9 => h9) rfl (by decide +kernel) rfl rfl (Nat.le_of_ble_eq_true rfl) d_C_execute_160 (fun H locs hP hD hS => ?_)
    replace hP : va_P (dC, dI) classes [(r9, .inl (cr, 8, .inl rg)), (w9, .inl (cw, 32, .inl wd)), (q9, .inl (cp, 64, .inl f)), (h0, .inr (3, [.ref r9, .int (upc F 1 x15 1), .int (upc F 1 x15 2), .int (upc F 1 x15 3), .int (upc F 1 x15 4), .int (pl32 (rg (Int32.toNatClampNeg (wB r1))) (wC r1)), .int (rg (Int32.toNatClampNeg (wA r1))), .ref o9, .ref w9, .int (upc F 1 x15 9)])), (p9, .inr (1, [.ref q9, .int (nI cn)]))] H := hP
    replace hD : va_D A [(r9, .inl (cr, 8, .inl rg)), (w9, .inl (cw, 32, .inl wd)), (q9, .inl (cp, 64, .inl f)), (h0, .inr (3, [.ref r9, .int (upc F 1 x15 1), .int (upc F 1 x15 2), .int (upc F 1 x15 3), .int (upc F 1 x15 4), .int (pl32 (rg (Int32.toNatClampNeg (wB r1))) (wC r1)), .int (rg (Int32.toNatClampNeg (wA r1))), .ref o9, .ref w9, .int (upc F 1 x15 9)])), (p9, .inr (1, [.ref q9, .int (nI cn)]))] := hD
    refine lv_aload_n hx hb d_C_execute_163 rfl (lv_at hl 4 rfl) ?_
    refine lv_aload_n hx hb d_C_execute_164 rfl (lv_at hl 4 rfl) ?_
    refine va_get (D := (dC, dI)) (ci := 3) (v := .int (pl32 (rg (Int32.toNatClampNeg (wB r1))) (wC r1))) (C := "VotedTriple$PerfectOne") (T := F_E) (N := 10) hx hb hw in_E hown hK hP 3 rfl rfl 5 (by decide) (hw _ k_91) (fun _ h9 => h9) rfl d_C_execute_165 ?_
    refine lv_aload_n hx hb d_C_execute_168 rfl (lv_at hl 4 rfl) ?_
    refine va_get (D := (dC, dI)) (ci := 3) (v := .int (rg (Int32.toNatClampNeg (wA r1)))) (C := "VotedTriple$PerfectOne") (T := F_E) (N := 10) hx hb hw in_E hown hK hP 3 rfl rfl 6 (by decide) (hw _ k_94) (fun _ h9 => h9) rfl d_C_execute_169 ?_
    replace hP := hP.sub (ws' := [(r9, .inl (cr, 8, .inl rg)), (w9, .inl (cw, 32, .inl wd)), (q9, .inl (cp, 64, .inl f)), (h0, .inr (3, oE (upc (upc (upc F 1 x15) 5 (pl32 (rg (Int32.toNatClampNeg (wB r1))) (wC r1))) 6 (rg (Int32.toNatClampNeg (wA r1)))) r9 o9 w9)), (p9, .inr (1, [.ref q9, .int (nI cn)]))]) [0, 1, 2, 3, 4] rfl
    replace hD := hD.sub (ws' := [(r9, .inl (cr, 8, .inl rg)), (w9, .inl (cw, 32, .inl wd)), (q9, .inl (cp, 64, .inl f)), (h0, .inr (3, oE (upc (upc (upc F 1 x15) 5 (pl32 (rg (Int32.toNatClampNeg (wB r1))) (wC r1))) 6 (rg (Int32.toNatClampNeg (wA r1)))) r9 o9 w9)), (p9, .inr (1, [.ref q9, .int (nI cn)]))]) [0, 1, 2, 3, 4] (by decide) rfl
    replace hPc := hP.sub (ws' := [(h0, .inr (3, oE (upc (upc (upc F 1 x15) 5 (pl32 (rg (Int32.toNatClampNeg (wB r1))) (wC r1))) 6 (rg (Int32.toNatClampNeg (wA r1)))) r9 o9 w9)), (w9, .inl (cw, 32, .inl wd))]) [3, 1] rfl
    replace hKc := hK.sub (tys' := [(cw, .int)]) [1] rfl
    replace hDc := hD.sub (ws' := [(h0, .inr (3, oE (upc (upc (upc F 1 x15) 5 (pl32 (rg (Int32.toNatClampNeg (wB r1))) (wC r1))) 6 (rg (Int32.toNatClampNeg (wA r1)))) r9 o9 w9)), (w9, .inl (cw, 32, .inl wd))]) [3, 1] (by decide) rfl
    replace hFc := va_free (wc := [(h0, .inr (3, oE (upc (upc (upc F 1 x15) 5 (pl32 (rg (Int32.toNatClampNeg (wB r1))) (wC r1))) 6 (rg (Int32.toNatClampNeg (wA r1)))) r9 o9 w9)), (w9, .inl (cw, 32, .inl wd))]) hD hS hA [3, 1] rfl
    refine va_callv (va_runU (C := "VotedTriple$PerfectOne") (As := [.int (pl32 (rg (Int32.toNatClampNeg (wB r1))) (wC r1)), .int (rg (Int32.toNatClampNeg (wA r1)))]) (rest := []) ⟨hx, hb, hml, hown, hw⟩ (c_E_writeWord l dC dI h0 r9 o9 w9 (upc (upc (upc F 1 x15) 5 (pl32 (rg (Int32.toNatClampNeg (wB r1))) (wC r1))) 6 (rg (Int32.toNatClampNeg (wA r1)))) cw wd (pl32 (rg (Int32.toNatClampNeg (wB r1))) (wC r1)) (rg (Int32.toNatClampNeg (wA r1))) (pl32_in (rg_at hm.2.2.1 (reg_in (wB_nI _) (in_AB hr2 (Or.inr (hs14))).2) (by decide)) (wC_nI _)) hm.2.2.2 (rg_at hm.2.2.1 (reg_in (wA_nI _) (in_AB hr2 (Or.inr (hs14))).1) (by decide)) H.size) (va_cwA (C := "VotedTriple$PerfectOne") (owner := "VotedTriple$Processor") (x := ⟨"VotedTriple$Processor", "writeWord", "(II)V"⟩) (y := y_E_writeWord) 2 hw (gd_l (List.forall_mem_cons.mpr ⟨k_531, List.forall_mem_cons.mpr ⟨k_533, List.forall_mem_cons.mpr ⟨k_534, List.forall_mem_cons.mpr ⟨k_535, List.forall_mem_cons.mpr ⟨k_4, fun _ h => absurd h List.not_mem_nil⟩⟩⟩⟩⟩) (gd (k_536))) rfl rfl rfl (nw_532 hnw) (by decide +kernel) ⟨Nat.le_of_ble_eq_true rfl, Nat.le_of_ble_eq_true rfl⟩) ⟨fun a U g mk q => by obtain ⟨q0, q1, qP, qK, qD⟩ := q; exact ⟨q0, q1, qP, va_K.moved (u := U) (U := U.calling g mk a) (Vm.Alike.refl U.vm) qK, qD⟩, va_recv hK hP rfl (q0 := 3) rfl, fun U hU hW => ⟨rfl, by rw [hU], by rw [hU]; exact hPc, va_K.moved hW.alike hKc, hDc.weaken (fun _ _ _ _ => trivial)⟩⟩ rfl rfl hl.1 rfl (lv_room (Nat.le_of_ble_eq_true rfl)) d_C_execute_172 ⟨Nat.le_of_ble_eq_true rfl, Nat.le_of_ble_eq_true rfl⟩) hS (fun q _ h => hFc q h) hFc (fun u9 t H1 locs ht hvm hr34 hB hz1 hk1 hS => ?_)
    obtain ⟨w235, rfl⟩ : ∃ z, z = u9 := ⟨_, rfl⟩
    obtain ⟨hP1, hK1, hD1⟩ := hB
    rw [ht] at hP1
    replace hK1 := va_K.moved hvm.symm hK1
    try dsimp only at hr34 hP1 hK1 hD1
    obtain ⟨hr34, hr34E⟩ := hr34
    obtain ⟨hPz, hDz⟩ := va_join (wr := [(r9, .inl (cr, 8, .inl rg)), (q9, .inl (cp, 64, .inl f)), (p9, .inr (1, [.ref q9, .int (nI cn)]))]) (w1 := [(h0, .inr (3, oE (upc (upc (upc F 1 x15) 5 (pl32 (rg (Int32.toNatClampNeg (wB r1))) (wC r1))) 6 (rg (Int32.toNatClampNeg (wA r1)))) r9 o9 w9)), (w9, .inl (cw, 32, .inl w235))]) hP hD [3, 1] [0, 2, 4] rfl rfl (by decide) (by decide) hk1 hFc hP1 hD1
    clear hP hD hPc hDc hP1 hD1 hFc
    have hP := hPz
    have hD := hDz
    clear hPz hDz
    replace hK := (hK.sub (tys' := [(cr, .int), (cp, .int)]) [0, 2] rfl).app hK1
    clear hK1 hKc
    generalize H1 = H at hP hS ⊢
    replace hP : va_P (dC, dI) classes [(r9, .inl (cr, 8, .inl rg)), (q9, .inl (cp, 64, .inl f)), (p9, .inr (1, [.ref q9, .int (nI cn)])), (h0, .inr (3, oE (upc (upc (upc F 1 x15) 5 (pl32 (rg (Int32.toNatClampNeg (wB r1))) (wC r1))) 6 (rg (Int32.toNatClampNeg (wA r1)))) r9 o9 w9)), (w9, .inl (cw, 32, .inl w235))] H := hP
    replace hD : va_D A [(r9, .inl (cr, 8, .inl rg)), (q9, .inl (cp, 64, .inl f)), (p9, .inr (1, [.ref q9, .int (nI cn)])), (h0, .inr (3, oE (upc (upc (upc F 1 x15) 5 (pl32 (rg (Int32.toNatClampNeg (wB r1))) (wC r1))) 6 (rg (Int32.toNatClampNeg (wA r1)))) r9 o9 w9)), (w9, .inl (cw, 32, .inl w235))] := hD
    replace hK : va_K (dC, dI) classes [(cr, .int), (cp, .int), (cw, .int)] s := hK
    refine W.widen (k := 0) (n := 0) (Nat.le_of_ble_eq_true rfl) (Nat.le_of_ble_eq_true rfl) ?_
    refine lv_goto (tgt := 270) hx hb d_C_execute_175 rfl ?_
    have hP9 := hP.sub (ws' := [(h0, .inr (3, oE (upc (upc (upc F 1 x15) 5 (pl32 (rg (Int32.toNatClampNeg (wB r1))) (wC r1))) 6 (rg (Int32.toNatClampNeg (wA r1)))) r9 o9 w9)), (r9, .inl (cr, 8, .inl rg)), (w9, .inl (cw, 32, .inl w235)), (p9, .inr (1, [.ref q9, .int (nI cn)])), (q9, .inl (cp, 64, .inl f))]) [3, 0, 4, 2, 1] rfl
    have hD9 := hD.sub (ws' := [(h0, .inr (3, oE (upc (upc (upc F 1 x15) 5 (pl32 (rg (Int32.toNatClampNeg (wB r1))) (wC r1))) 6 (rg (Int32.toNatClampNeg (wA r1)))) r9 o9 w9)), (r9, .inl (cr, 8, .inl rg)), (w9, .inl (cw, 32, .inl w235)), (p9, .inr (1, [.ref q9, .int (nI cn)])), (q9, .inl (cp, 64, .inl f))]) [3, 0, 4, 2, 1] (by decide) rfl
    have hK9 := hK.sub (tys' := [(cr, .int), (cw, .int), (cp, .int)]) [0, 2, 1] rfl
    refine W.widen (k := 0) (n := 0) (Nat.le_of_ble_eq_true rfl) (Nat.le_of_ble_eq_true rfl) ?_
    exact W.vret hx hb hr (fun t ht hW => ⟨⟨(upc (upc (upc F 1 x15) 5 (pl32 (rg (Int32.toNatClampNeg (wB r1))) (wC r1))) 6 (rg (Int32.toNatClampNeg (wA r1))), rg, w235), rfl, ⟨(eI_w (eI_a (eI_1 hm hr4) rfl rfl) hr34), (by rw [← hSP, s_C_execute_E]; try (rw [← hr2E, bnd_eq]); try (rw [← hr4E, bnd_eq]); try (rw [if_neg (by rw [hs14]; decide)]); try (rw [if_neg (by rw [hs14]; decide)]); try (rw [if_neg (by rw [hs14]; decide)]); try (rw [if_neg (by rw [hs14]; decide)]); try (rw [if_neg (by rw [hs14]; decide)]); try (rw [if_neg (by rw [hs14]; decide)]); try (rw [if_pos hs14]); try (rw [← hr34E, bnd_eq]); all_goals rfl)⟩, by rw [ht]; exact hP9, va_K.moved hW.alike hK9, hD9⟩, hS.F ht⟩) hS.2.2 d_C_execute_270
  · refine lv_tableIn (off := 143) (tgt := 178) hx hb d_C_execute_35 (by rw [hs14]; decide) (by rw [hs14]; decide) (by rw [hs14]; decide) rfl ?_
    refine lv_aload_n hx hb d_C_execute_178 rfl (lv_at hl 4 rfl) ?_
    refine lv_aload_n hx hb d_C_execute_179 rfl (lv_at hl 4 rfl) ?_
    refine va_get (D := (dC, dI)) (ci := 3) (v := .ref r9) (C := "VotedTriple$PerfectOne") (T := F_E) (N := 10) hx hb hw in_E hown hK hP 3 rfl rfl 0 (by decide) (hw _ k_70) (fun _ h9 => h9) rfl d_C_execute_180 ?_
    refine lv_iload_n hx hb d_C_execute_183 rfl (lv_at hl 2 rfl) ?_
    refine va_iald hx hb hK hP 0 0 rfl rfl (reg_in (wA_nI _) (in_A hr2 (Or.inr (Or.inl hs14)))) d_C_execute_184 ?_
    refine lv_if_ne (tgt := 193) hx hb d_C_execute_185 rfl (fun hc36 => ?_) (fun hc36 => ?_)
    · --  ¬ (rg (Int32.toNatClampNeg (wA r1))) = 0
      refine lv_aload_n hx hb d_C_execute_193 rfl (lv_at hl 4 rfl) ?_
      refine va_get (D := (dC, dI)) (ci := 3) (v := .int (upc F 1 x15 1)) (C := "VotedTriple$PerfectOne") (T := F_E) (N := 10) hx hb hw in_E hown hK hP 3 rfl rfl 1 (by decide) (hw _ k_74) (fun _ h9 => h9) rfl d_C_execute_194 ?_
      refine va_put (D := (dC, dI)) (ci := 3) (v := .int (upc F 1 x15 1)) (ty := .int) (C := "VotedTriple$PerfectOne") (T := F_E) (N := 10) hx hb hw in_E ft_E tyok_E nm_E hown hK hP hD hS 3 rfl rfl 1 (by decide) (hw _ k_74) (fun _ h9 => h9) rfl (by decide +kernel) rfl rfl (Nat.le_of_ble_eq_true rfl) d_C_execute_197 (fun H locs hP hD hS => ?_)
      replace hP : va_P (dC, dI) classes [(r9, .inl (cr, 8, .inl rg)), (w9, .inl (cw, 32, .inl wd)), (q9, .inl (cp, 64, .inl f)), (h0, .inr (3, oE (upc F 1 x15) r9 o9 w9)), (p9, .inr (1, [.ref q9, .int (nI cn)]))] H := hP
      replace hD : va_D A [(r9, .inl (cr, 8, .inl rg)), (w9, .inl (cw, 32, .inl wd)), (q9, .inl (cp, 64, .inl f)), (h0, .inr (3, oE (upc F 1 x15) r9 o9 w9)), (p9, .inr (1, [.ref q9, .int (nI cn)]))] := hD
      refine lv_goto (tgt := 270) hx hb d_C_execute_200 rfl ?_
      have hP9 := hP.sub (ws' := [(h0, .inr (3, oE (upc F 1 x15) r9 o9 w9)), (r9, .inl (cr, 8, .inl rg)), (w9, .inl (cw, 32, .inl wd)), (p9, .inr (1, [.ref q9, .int (nI cn)])), (q9, .inl (cp, 64, .inl f))]) [3, 0, 1, 4, 2] rfl
      have hD9 := hD.sub (ws' := [(h0, .inr (3, oE (upc F 1 x15) r9 o9 w9)), (r9, .inl (cr, 8, .inl rg)), (w9, .inl (cw, 32, .inl wd)), (p9, .inr (1, [.ref q9, .int (nI cn)])), (q9, .inl (cp, 64, .inl f))]) [3, 0, 1, 4, 2] (by decide) rfl
      have hK9 := hK.sub (tys' := [(cr, .int), (cw, .int), (cp, .int)]) [0, 1, 2] rfl
      refine W.widen (k := 0) (n := 0) (Nat.le_of_ble_eq_true rfl) (Nat.le_of_ble_eq_true rfl) ?_
      exact W.vret hx hb hr (fun t ht hW => ⟨⟨(upc F 1 x15, rg, wd), rfl, ⟨(eI_1 hm hr4), (by rw [← hSP, s_C_execute_E]; try (rw [← hr2E, bnd_eq]); try (rw [← hr4E, bnd_eq]); try (rw [if_neg (by rw [hs14]; decide)]); try (rw [if_neg (by rw [hs14]; decide)]); try (rw [if_neg (by rw [hs14]; decide)]); try (rw [if_neg (by rw [hs14]; decide)]); try (rw [if_neg (by rw [hs14]; decide)]); try (rw [if_neg (by rw [hs14]; decide)]); try (rw [if_neg (by rw [hs14]; decide)]); try (rw [if_pos hs14]); try (rw [if_neg hc36]); all_goals rfl)⟩, by rw [ht]; exact hP9, va_K.moved hW.alike hK9, hD9⟩, hS.F ht⟩) hS.2.2 d_C_execute_270
    · --  (rg (Int32.toNatClampNeg (wA r1))) = 0
      refine lv_iload hx hb d_C_execute_188 (lv_at hl 1 rfl) ?_
      refine lv_goto (tgt := 197) hx hb d_C_execute_190 rfl ?_
      refine va_put (D := (dC, dI)) (ci := 3) (v := .int (wB r1)) (ty := .int) (C := "VotedTriple$PerfectOne") (T := F_E) (N := 10) hx hb hw in_E ft_E tyok_E nm_E hown hK hP hD hS 3 rfl rfl 1 (by decide) (hw _ k_74) (fun _ h9 => h9) rfl (by decide +kernel) rfl rfl (Nat.le_of_ble_eq_true rfl) d_C_execute_197 (fun H locs hP hD hS => ?_)
      replace hP : va_P (dC, dI) classes [(r9, .inl (cr, 8, .inl rg)), (w9, .inl (cw, 32, .inl wd)), (q9, .inl (cp, 64, .inl f)), (h0, .inr (3, [.ref r9, .int (wB r1), .int (upc F 1 x15 2), .int (upc F 1 x15 3), .int (upc F 1 x15 4), .int (upc F 1 x15 5), .int (upc F 1 x15 6), .ref o9, .ref w9, .int (upc F 1 x15 9)])), (p9, .inr (1, [.ref q9, .int (nI cn)]))] H := hP
      replace hD : va_D A [(r9, .inl (cr, 8, .inl rg)), (w9, .inl (cw, 32, .inl wd)), (q9, .inl (cp, 64, .inl f)), (h0, .inr (3, [.ref r9, .int (wB r1), .int (upc F 1 x15 2), .int (upc F 1 x15 3), .int (upc F 1 x15 4), .int (upc F 1 x15 5), .int (upc F 1 x15 6), .ref o9, .ref w9, .int (upc F 1 x15 9)])), (p9, .inr (1, [.ref q9, .int (nI cn)]))] := hD
      refine lv_goto (tgt := 270) hx hb d_C_execute_200 rfl ?_
      have hP9 := hP.sub (ws' := [(h0, .inr (3, oE (upc (upc F 1 x15) 1 (wB r1)) r9 o9 w9)), (r9, .inl (cr, 8, .inl rg)), (w9, .inl (cw, 32, .inl wd)), (p9, .inr (1, [.ref q9, .int (nI cn)])), (q9, .inl (cp, 64, .inl f))]) [3, 0, 1, 4, 2] rfl
      have hD9 := hD.sub (ws' := [(h0, .inr (3, oE (upc (upc F 1 x15) 1 (wB r1)) r9 o9 w9)), (r9, .inl (cr, 8, .inl rg)), (w9, .inl (cw, 32, .inl wd)), (p9, .inr (1, [.ref q9, .int (nI cn)])), (q9, .inl (cp, 64, .inl f))]) [3, 0, 1, 4, 2] (by decide) rfl
      have hK9 := hK.sub (tys' := [(cr, .int), (cw, .int), (cp, .int)]) [0, 1, 2] rfl
      refine W.widen (k := 0) (n := 0) (Nat.le_of_ble_eq_true rfl) (Nat.le_of_ble_eq_true rfl) ?_
      exact W.vret hx hb hr (fun t ht hW => ⟨⟨(upc (upc F 1 x15) 1 (wB r1), rg, wd), rfl, ⟨(eI_1 (eI_1 hm hr4) (wB_nI _)), (by rw [← hSP, s_C_execute_E]; try (rw [← hr2E, bnd_eq]); try (rw [← hr4E, bnd_eq]); try (rw [if_neg (by rw [hs14]; decide)]); try (rw [if_neg (by rw [hs14]; decide)]); try (rw [if_neg (by rw [hs14]; decide)]); try (rw [if_neg (by rw [hs14]; decide)]); try (rw [if_neg (by rw [hs14]; decide)]); try (rw [if_neg (by rw [hs14]; decide)]); try (rw [if_neg (by rw [hs14]; decide)]); try (rw [if_pos hs14]); try (rw [if_pos hc36]); all_goals rfl)⟩, by rw [ht]; exact hP9, va_K.moved hW.alike hK9, hD9⟩, hS.F ht⟩) hS.2.2 d_C_execute_270
  · refine lv_tableIn (off := 168) (tgt := 203) hx hb d_C_execute_35 (by rw [hs14]; decide) (by rw [hs14]; decide) (by rw [hs14]; decide) rfl ?_
    refine lv_aload_n hx hb d_C_execute_203 rfl (lv_at hl 4 rfl) ?_
    refine lv_iload hx hb d_C_execute_204 (lv_at hl 1 rfl) ?_
    refine va_put (D := (dC, dI)) (ci := 3) (v := .int (wB r1)) (ty := .int) (C := "VotedTriple$PerfectOne") (T := F_E) (N := 10) hx hb hw in_E ft_E tyok_E nm_E hown hK hP hD hS 3 rfl rfl 1 (by decide) (hw _ k_74) (fun _ h9 => h9) rfl (by decide +kernel) rfl rfl (Nat.le_of_ble_eq_true rfl) d_C_execute_206 (fun H locs hP hD hS => ?_)
    replace hP : va_P (dC, dI) classes [(r9, .inl (cr, 8, .inl rg)), (w9, .inl (cw, 32, .inl wd)), (q9, .inl (cp, 64, .inl f)), (h0, .inr (3, [.ref r9, .int (wB r1), .int (upc F 1 x15 2), .int (upc F 1 x15 3), .int (upc F 1 x15 4), .int (upc F 1 x15 5), .int (upc F 1 x15 6), .ref o9, .ref w9, .int (upc F 1 x15 9)])), (p9, .inr (1, [.ref q9, .int (nI cn)]))] H := hP
    replace hD : va_D A [(r9, .inl (cr, 8, .inl rg)), (w9, .inl (cw, 32, .inl wd)), (q9, .inl (cp, 64, .inl f)), (h0, .inr (3, [.ref r9, .int (wB r1), .int (upc F 1 x15 2), .int (upc F 1 x15 3), .int (upc F 1 x15 4), .int (upc F 1 x15 5), .int (upc F 1 x15 6), .ref o9, .ref w9, .int (upc F 1 x15 9)])), (p9, .inr (1, [.ref q9, .int (nI cn)]))] := hD
    refine lv_goto (tgt := 270) hx hb d_C_execute_209 rfl ?_
    have hP9 := hP.sub (ws' := [(h0, .inr (3, oE (upc (upc F 1 x15) 1 (wB r1)) r9 o9 w9)), (r9, .inl (cr, 8, .inl rg)), (w9, .inl (cw, 32, .inl wd)), (p9, .inr (1, [.ref q9, .int (nI cn)])), (q9, .inl (cp, 64, .inl f))]) [3, 0, 1, 4, 2] rfl
    have hD9 := hD.sub (ws' := [(h0, .inr (3, oE (upc (upc F 1 x15) 1 (wB r1)) r9 o9 w9)), (r9, .inl (cr, 8, .inl rg)), (w9, .inl (cw, 32, .inl wd)), (p9, .inr (1, [.ref q9, .int (nI cn)])), (q9, .inl (cp, 64, .inl f))]) [3, 0, 1, 4, 2] (by decide) rfl
    have hK9 := hK.sub (tys' := [(cr, .int), (cw, .int), (cp, .int)]) [0, 1, 2] rfl
    refine W.widen (k := 0) (n := 0) (Nat.le_of_ble_eq_true rfl) (Nat.le_of_ble_eq_true rfl) ?_
    exact W.vret hx hb hr (fun t ht hW => ⟨⟨(upc (upc F 1 x15) 1 (wB r1), rg, wd), rfl, ⟨(eI_1 (eI_1 hm hr4) (wB_nI _)), (by rw [← hSP, s_C_execute_E]; try (rw [← hr2E, bnd_eq]); try (rw [← hr4E, bnd_eq]); try (rw [if_neg (by rw [hs14]; decide)]); try (rw [if_neg (by rw [hs14]; decide)]); try (rw [if_neg (by rw [hs14]; decide)]); try (rw [if_neg (by rw [hs14]; decide)]); try (rw [if_neg (by rw [hs14]; decide)]); try (rw [if_neg (by rw [hs14]; decide)]); try (rw [if_neg (by rw [hs14]; decide)]); try (rw [if_neg (by rw [hs14]; decide)]); try (rw [if_pos hs14]); all_goals rfl)⟩, by rw [ht]; exact hP9, va_K.moved hW.alike hK9, hD9⟩, hS.F ht⟩) hS.2.2 d_C_execute_270
  · refine lv_tableIn (off := 177) (tgt := 212) hx hb d_C_execute_35 (by rw [hs14]; decide) (by rw [hs14]; decide) (by rw [hs14]; decide) rfl ?_
    refine lv_aload_n hx hb d_C_execute_212 rfl (lv_at hl 4 rfl) ?_
    refine lv_iconst (v := 1) hx hb d_C_execute_213 (by decide) ?_
    refine va_put (D := (dC, dI)) (ci := 3) (v := .int 1) (ty := .int) (C := "VotedTriple$PerfectOne") (T := F_E) (N := 10) hx hb hw in_E ft_E tyok_E nm_E hown hK hP hD hS 3 rfl rfl 2 (by decide) (hw _ k_82) (fun _ h9 => h9) rfl (by decide +kernel) rfl rfl (Nat.le_of_ble_eq_true rfl) d_C_execute_214 (fun H locs hP hD hS => ?_)
    replace hP : va_P (dC, dI) classes [(r9, .inl (cr, 8, .inl rg)), (w9, .inl (cw, 32, .inl wd)), (q9, .inl (cp, 64, .inl f)), (h0, .inr (3, [.ref r9, .int (upc F 1 x15 1), .int 1, .int (upc F 1 x15 3), .int (upc F 1 x15 4), .int (upc F 1 x15 5), .int (upc F 1 x15 6), .ref o9, .ref w9, .int (upc F 1 x15 9)])), (p9, .inr (1, [.ref q9, .int (nI cn)]))] H := hP
    replace hD : va_D A [(r9, .inl (cr, 8, .inl rg)), (w9, .inl (cw, 32, .inl wd)), (q9, .inl (cp, 64, .inl f)), (h0, .inr (3, [.ref r9, .int (upc F 1 x15 1), .int 1, .int (upc F 1 x15 3), .int (upc F 1 x15 4), .int (upc F 1 x15 5), .int (upc F 1 x15 6), .ref o9, .ref w9, .int (upc F 1 x15 9)])), (p9, .inr (1, [.ref q9, .int (nI cn)]))] := hD
    refine lv_aload_n hx hb d_C_execute_217 rfl (lv_at hl 4 rfl) ?_
    refine lv_iload_n hx hb d_C_execute_218 rfl (lv_at hl 2 rfl) ?_
    refine va_put (D := (dC, dI)) (ci := 3) (v := .int (wA r1)) (ty := .int) (C := "VotedTriple$PerfectOne") (T := F_E) (N := 10) hx hb hw in_E ft_E tyok_E nm_E hown hK hP hD hS 3 rfl rfl 4 (by decide) (hw _ k_90) (fun _ h9 => h9) rfl (by decide +kernel) rfl rfl (Nat.le_of_ble_eq_true rfl) d_C_execute_219 (fun H locs hP hD hS => ?_)
    replace hP : va_P (dC, dI) classes [(r9, .inl (cr, 8, .inl rg)), (w9, .inl (cw, 32, .inl wd)), (q9, .inl (cp, 64, .inl f)), (h0, .inr (3, [.ref r9, .int (upc F 1 x15 1), .int 1, .int (upc F 1 x15 3), .int (wA r1), .int (upc F 1 x15 5), .int (upc F 1 x15 6), .ref o9, .ref w9, .int (upc F 1 x15 9)])), (p9, .inr (1, [.ref q9, .int (nI cn)]))] H := hP
    replace hD : va_D A [(r9, .inl (cr, 8, .inl rg)), (w9, .inl (cw, 32, .inl wd)), (q9, .inl (cp, 64, .inl f)), (h0, .inr (3, [.ref r9, .int (upc F 1 x15 1), .int 1, .int (upc F 1 x15 3), .int (wA r1), .int (upc F 1 x15 5), .int (upc F 1 x15 6), .ref o9, .ref w9, .int (upc F 1 x15 9)])), (p9, .inr (1, [.ref q9, .int (nI cn)]))] := hD
    refine lv_goto (tgt := 270) hx hb d_C_execute_222 rfl ?_
    have hP9 := hP.sub (ws' := [(h0, .inr (3, oE (upc (upc (upc F 1 x15) 2 (1 : Int32)) 4 (wA r1)) r9 o9 w9)), (r9, .inl (cr, 8, .inl rg)), (w9, .inl (cw, 32, .inl wd)), (p9, .inr (1, [.ref q9, .int (nI cn)])), (q9, .inl (cp, 64, .inl f))]) [3, 0, 1, 4, 2] rfl
    have hD9 := hD.sub (ws' := [(h0, .inr (3, oE (upc (upc (upc F 1 x15) 2 (1 : Int32)) 4 (wA r1)) r9 o9 w9)), (r9, .inl (cr, 8, .inl rg)), (w9, .inl (cw, 32, .inl wd)), (p9, .inr (1, [.ref q9, .int (nI cn)])), (q9, .inl (cp, 64, .inl f))]) [3, 0, 1, 4, 2] (by decide) rfl
    have hK9 := hK.sub (tys' := [(cr, .int), (cw, .int), (cp, .int)]) [0, 1, 2] rfl
    refine W.widen (k := 0) (n := 0) (Nat.le_of_ble_eq_true rfl) (Nat.le_of_ble_eq_true rfl) ?_
    exact W.vret hx hb hr (fun t ht hW => ⟨⟨(upc (upc (upc F 1 x15) 2 (1 : Int32)) 4 (wA r1), rg, wd), rfl, ⟨(eI_4 (eI_a (eI_1 hm hr4) rfl rfl) (Or.inr (reg_nI (wA_nI _) (in_A hr2 (Or.inr (Or.inr (Or.inl hs14))))))), (by rw [← hSP, s_C_execute_E]; try (rw [← hr2E, bnd_eq]); try (rw [← hr4E, bnd_eq]); try (rw [if_neg (by rw [hs14]; decide)]); try (rw [if_neg (by rw [hs14]; decide)]); try (rw [if_neg (by rw [hs14]; decide)]); try (rw [if_neg (by rw [hs14]; decide)]); try (rw [if_neg (by rw [hs14]; decide)]); try (rw [if_neg (by rw [hs14]; decide)]); try (rw [if_neg (by rw [hs14]; decide)]); try (rw [if_neg (by rw [hs14]; decide)]); try (rw [if_neg (by rw [hs14]; decide)]); try (rw [if_pos hs14]); all_goals rfl)⟩, by rw [ht]; exact hP9, va_K.moved hW.alike hK9, hD9⟩, hS.F ht⟩) hS.2.2 d_C_execute_270
  · refine lv_tableIn (off := 190) (tgt := 225) hx hb d_C_execute_35 (by rw [hs14]; decide) (by rw [hs14]; decide) (by rw [hs14]; decide) rfl ?_
    refine lv_aload_n hx hb d_C_execute_225 rfl (lv_at hl 4 rfl) ?_
    refine lv_iconst (v := 2) hx hb d_C_execute_226 (by decide) ?_
    refine va_put (D := (dC, dI)) (ci := 3) (v := .int 2) (ty := .int) (C := "VotedTriple$PerfectOne") (T := F_E) (N := 10) hx hb hw in_E ft_E tyok_E nm_E hown hK hP hD hS 3 rfl rfl 2 (by decide) (hw _ k_82) (fun _ h9 => h9) rfl (by decide +kernel) rfl rfl (Nat.le_of_ble_eq_true rfl) d_C_execute_227 (fun H locs hP hD hS => ?_)
    replace hP : va_P (dC, dI) classes [(r9, .inl (cr, 8, .inl rg)), (w9, .inl (cw, 32, .inl wd)), (q9, .inl (cp, 64, .inl f)), (h0, .inr (3, [.ref r9, .int (upc F 1 x15 1), .int 2, .int (upc F 1 x15 3), .int (upc F 1 x15 4), .int (upc F 1 x15 5), .int (upc F 1 x15 6), .ref o9, .ref w9, .int (upc F 1 x15 9)])), (p9, .inr (1, [.ref q9, .int (nI cn)]))] H := hP
    replace hD : va_D A [(r9, .inl (cr, 8, .inl rg)), (w9, .inl (cw, 32, .inl wd)), (q9, .inl (cp, 64, .inl f)), (h0, .inr (3, [.ref r9, .int (upc F 1 x15 1), .int 2, .int (upc F 1 x15 3), .int (upc F 1 x15 4), .int (upc F 1 x15 5), .int (upc F 1 x15 6), .ref o9, .ref w9, .int (upc F 1 x15 9)])), (p9, .inr (1, [.ref q9, .int (nI cn)]))] := hD
    refine lv_aload_n hx hb d_C_execute_230 rfl (lv_at hl 4 rfl) ?_
    refine lv_aload_n hx hb d_C_execute_231 rfl (lv_at hl 4 rfl) ?_
    refine va_get (D := (dC, dI)) (ci := 3) (v := .ref r9) (C := "VotedTriple$PerfectOne") (T := F_E) (N := 10) hx hb hw in_E hown hK hP 3 rfl rfl 0 (by decide) (hw _ k_70) (fun _ h9 => h9) rfl d_C_execute_232 ?_
    refine lv_iload_n hx hb d_C_execute_235 rfl (lv_at hl 2 rfl) ?_
    refine va_iald hx hb hK hP 0 0 rfl rfl (reg_in (wA_nI _) (in_A hr2 (Or.inr (Or.inr (Or.inr (hs14)))))) d_C_execute_236 ?_
    refine va_put (D := (dC, dI)) (ci := 3) (v := .int (rg (Int32.toNatClampNeg (wA r1)))) (ty := .int) (C := "VotedTriple$PerfectOne") (T := F_E) (N := 10) hx hb hw in_E ft_E tyok_E nm_E hown hK hP hD hS 3 rfl rfl 3 (by decide) (hw _ k_86) (fun _ h9 => h9) rfl (by decide +kernel) rfl rfl (Nat.le_of_ble_eq_true rfl) d_C_execute_237 (fun H locs hP hD hS => ?_)
    replace hP : va_P (dC, dI) classes [(r9, .inl (cr, 8, .inl rg)), (w9, .inl (cw, 32, .inl wd)), (q9, .inl (cp, 64, .inl f)), (h0, .inr (3, [.ref r9, .int (upc F 1 x15 1), .int 2, .int (rg (Int32.toNatClampNeg (wA r1))), .int (upc F 1 x15 4), .int (upc F 1 x15 5), .int (upc F 1 x15 6), .ref o9, .ref w9, .int (upc F 1 x15 9)])), (p9, .inr (1, [.ref q9, .int (nI cn)]))] H := hP
    replace hD : va_D A [(r9, .inl (cr, 8, .inl rg)), (w9, .inl (cw, 32, .inl wd)), (q9, .inl (cp, 64, .inl f)), (h0, .inr (3, [.ref r9, .int (upc F 1 x15 1), .int 2, .int (rg (Int32.toNatClampNeg (wA r1))), .int (upc F 1 x15 4), .int (upc F 1 x15 5), .int (upc F 1 x15 6), .ref o9, .ref w9, .int (upc F 1 x15 9)])), (p9, .inr (1, [.ref q9, .int (nI cn)]))] := hD
    refine lv_goto (tgt := 270) hx hb d_C_execute_240 rfl ?_
    have hP9 := hP.sub (ws' := [(h0, .inr (3, oE (upc (upc (upc F 1 x15) 2 (2 : Int32)) 3 (rg (Int32.toNatClampNeg (wA r1)))) r9 o9 w9)), (r9, .inl (cr, 8, .inl rg)), (w9, .inl (cw, 32, .inl wd)), (p9, .inr (1, [.ref q9, .int (nI cn)])), (q9, .inl (cp, 64, .inl f))]) [3, 0, 1, 4, 2] rfl
    have hD9 := hD.sub (ws' := [(h0, .inr (3, oE (upc (upc (upc F 1 x15) 2 (2 : Int32)) 3 (rg (Int32.toNatClampNeg (wA r1)))) r9 o9 w9)), (r9, .inl (cr, 8, .inl rg)), (w9, .inl (cw, 32, .inl wd)), (p9, .inr (1, [.ref q9, .int (nI cn)])), (q9, .inl (cp, 64, .inl f))]) [3, 0, 1, 4, 2] (by decide) rfl
    have hK9 := hK.sub (tys' := [(cr, .int), (cw, .int), (cp, .int)]) [0, 1, 2] rfl
    refine W.widen (k := 0) (n := 0) (Nat.le_of_ble_eq_true rfl) (Nat.le_of_ble_eq_true rfl) ?_
    exact W.vret hx hb hr (fun t ht hW => ⟨⟨(upc (upc (upc F 1 x15) 2 (2 : Int32)) 3 (rg (Int32.toNatClampNeg (wA r1))), rg, wd), rfl, ⟨(eI_a (eI_1 hm hr4) rfl rfl), (by rw [← hSP, s_C_execute_E]; try (rw [← hr2E, bnd_eq]); try (rw [← hr4E, bnd_eq]); try (rw [if_neg (by rw [hs14]; decide)]); try (rw [if_neg (by rw [hs14]; decide)]); try (rw [if_neg (by rw [hs14]; decide)]); try (rw [if_neg (by rw [hs14]; decide)]); try (rw [if_neg (by rw [hs14]; decide)]); try (rw [if_neg (by rw [hs14]; decide)]); try (rw [if_neg (by rw [hs14]; decide)]); try (rw [if_neg (by rw [hs14]; decide)]); try (rw [if_neg (by rw [hs14]; decide)]); try (rw [if_neg (by rw [hs14]; decide)]); try (rw [if_pos hs14]); all_goals rfl)⟩, by rw [ht]; exact hP9, va_K.moved hW.alike hK9, hD9⟩, hS.F ht⟩) hS.2.2 d_C_execute_270
  · exact absurd (isIn_out hs14) (by rw [hr2]; decide)
