set_option maxHeartbeats 4000000 in
set_option maxRecDepth 100000 in
theorem c_E_doInstruction (l : Launch) (dC : Nat → ClassId) (dI : Nat → Nat → Nat) (h0 r9 o9 w9 : Nat) (F : Nat → Int32) (cr : ClassId) (rg : Nat → Int32) (cw : ClassId) (wd : Nat → Int32) (p9 q9 cn : Nat) (cp : ClassId) (f : Nat → Int32) (hc : prI cn f) (hpos : 0 < cn) (hm : eI F rg wd) (n9 nw9 kN : Nat) (cN : ClassId) (wN : Nat → Int32) (hkN : kN ≤ 64) (hwN : wdI 64 wN) (ko : Nat) (cO : ClassId) (kp : Nat → Int32) (hko : ko + 1 < 2 ^ 31) (ok9 : Nat) (sz : Nat) : Met l y_E_doInstruction (tbw y_E_doInstruction b_E_doInstruction 3 none) ({ frames := 3, cells := 0, slots := 0, locals := 67 }) (va_Pc [.ref h0, .ref p9, .ref n9] (fun U => U.heap.size = sz ∧ va_P (dC, dI) classes [(h0, .inr (3, oE F r9 o9 w9)), (r9, .inl (cr, 8, .inl rg)), (w9, .inl (cw, 32, .inl wd)), (p9, .inr (1, [.ref q9, .int (nI cn)])), (q9, .inl (cp, 64, .inl f)), (n9, .inr (4, [.ref nw9, .int (nI kN)])), (nw9, .inl (cN, 64, .inl wN)), (o9, .inr (5, [.ref ok9, .int (nI ko)])), (ok9, .inl (cO, 300, .inl kp))] U.heap ∧ va_K (dC, dI) classes [(cr, .int), (cw, .int), (cp, .int), (cN, .int), (cO, .int)] U ∧ va_D (fun _ => True) [(h0, .inr (3, oE F r9 o9 w9)), (r9, .inl (cr, 8, .inl rg)), (w9, .inl (cw, 32, .inl wd)), (p9, .inr (1, [.ref q9, .int (nI cn)])), (q9, .inl (cp, 64, .inl f)), (n9, .inr (4, [.ref nw9, .int (nI kN)])), (nw9, .inl (cN, 64, .inl wN)), (o9, .inr (5, [.ref ok9, .int (nI ko)])), (ok9, .inl (cO, 300, .inl kp))] ∧ nw U)) (va_Qv (fun (u9 : (Nat → Int32) × (Nat → Int32) × (Nat → Int32) × Nat × (Nat → Int32)) => match u9 with | (F2, g, w2, k2, p2) => (eI F2 g w2 ∧ k2 ≤ ko + 1) ∧ (F2, g, w2, k2, p2) = s_E_doInstruction F rg wd cn f kN wN ko kp) (fun (u9 : (Nat → Int32) × (Nat → Int32) × (Nat → Int32) × Nat × (Nat → Int32)) t => match u9 with | (F2, g, w2, k2, p2) => va_P (dC, dI) classes [(h0, .inr (3, oE F2 r9 o9 w9)), (r9, .inl (cr, 8, .inl g)), (w9, .inl (cw, 32, .inl w2)), (p9, .inr (1, [.ref q9, .int (nI cn)])), (q9, .inl (cp, 64, .inl f)), (n9, .inr (4, [.ref nw9, .int (nI kN)])), (nw9, .inl (cN, 64, .inl wN)), (o9, .inr (5, [.ref ok9, .int (nI k2)])), (ok9, .inl (cO, 300, .inl p2))] t.heap ∧ va_K (dC, dI) classes [(cr, .int), (cw, .int), (cp, .int), (cN, .int), (cO, .int)] t ∧ va_D (va_A [(h0, .inr (3, oE F r9 o9 w9)), (r9, .inl (cr, 8, .inl rg)), (w9, .inl (cw, 32, .inl wd)), (p9, .inr (1, [.ref q9, .int (nI cn)])), (q9, .inl (cp, 64, .inl f)), (n9, .inr (4, [.ref nw9, .int (nI kN)])), (nw9, .inl (cN, 64, .inl wN)), (o9, .inr (5, [.ref ok9, .int (nI ko)])), (ok9, .inl (cO, 300, .inl kp))] sz) [(h0, .inr (3, oE F2 r9 o9 w9)), (r9, .inl (cr, 8, .inl g)), (w9, .inl (cw, 32, .inl w2)), (p9, .inr (1, [.ref q9, .int (nI cn)])), (q9, .inl (cp, 64, .inl f)), (n9, .inr (4, [.ref nw9, .int (nI kN)])), (nw9, .inl (cN, 64, .inl wN)), (o9, .inr (5, [.ref ok9, .int (nI k2)])), (ok9, .inl (cO, 300, .inl p2))]) (va_A [(h0, .inr (3, oE F r9 o9 w9)), (r9, .inl (cr, 8, .inl rg)), (w9, .inl (cw, 32, .inl wd)), (p9, .inr (1, [.ref q9, .int (nI cn)])), (q9, .inl (cp, 64, .inl f)), (n9, .inr (4, [.ref nw9, .int (nI kN)])), (nw9, .inl (cN, 64, .inl wN)), (o9, .inr (5, [.ref ok9, .int (nI ko)])), (ok9, .inl (cO, 300, .inl kp))] sz)) 0 0 (va_A [(h0, .inr (3, oE F r9 o9 w9)), (r9, .inl (cr, 8, .inl rg)), (w9, .inl (cw, 32, .inl wd)), (p9, .inr (1, [.ref q9, .int (nI cn)])), (q9, .inl (cp, 64, .inl f)), (n9, .inr (4, [.ref nw9, .int (nI kN)])), (nw9, .inl (cN, 64, .inl wN)), (o9, .inr (5, [.ref ok9, .int (nI ko)])), (ok9, .inl (cO, 300, .inl kp))] sz) := by
  refine Met.ofW (cc := b_E_doInstruction) (maxL := 3) (ret := none) (by decide) rfl ?_
  intro p e s m args below meth c s₁ B hml hv
  obtain ⟨rfl, hsz, hP, hK, hD0, hnw⟩ := hv
  have hx := B.exec
  have hb := B.bytes
  have hr := B.returns
  have hts := atoms_spec (ws := (tbw y_E_doInstruction b_E_doInstruction 3 none)) B.pre
  have hw : ∀ z9 ∈ tb, z9.before ([.ref h0, .ref p9, .ref n9] : List Value).toArray s = true := fun z9 h => hts z9 (List.mem_cons_of_mem _ h)
  have hown : s.vm.findClass "VotedTriple$PerfectOne" = some m.cls := findClass_of_methodNamed B.named
  have hlocks := B.notSynchronized
  subst hsz
  replace hD := hD0.self (sz := s.heap.size)
  generalize hAe : va_A [(h0, .inr (3, oE F r9 o9 w9)), (r9, .inl (cr, 8, .inl rg)), (w9, .inl (cw, 32, .inl wd)), (p9, .inr (1, [.ref q9, .int (nI cn)])), (q9, .inl (cp, 64, .inl f)), (n9, .inr (4, [.ref nw9, .int (nI kN)])), (nw9, .inl (cN, 64, .inl wN)), (o9, .inr (5, [.ref ok9, .int (nI ko)])), (ok9, .inl (cO, 300, .inl kp))] s.heap.size = A at hD ⊢
  have hA : ∀ q : Nat, s.heap.size ≤ q → A q := fun q h => by rw [← hAe]; exact Or.inr h
  have hS : va_S A s.heap s.heap [] := va_S.rf
  replace hl := lv_entry ([.ref h0, .ref p9, .ref n9]) (n := 3) (Nat.le_of_ble_eq_true rfl)
  rw [lg_entry_eq]
  generalize (lg_sl ([.ref h0, .ref p9, .ref n9]) ++ List.replicate (3 - (lg_sl ([.ref h0, .ref p9, .ref n9])).length) Slot.unset).toArray = ls at hl ⊢
  replace hl : lv_has ls 3 [(0, .ref h0), (1, .ref p9), (2, .ref n9)] := hl
  generalize hSP : s_E_doInstruction F rg wd cn f kN wN ko kp = SP
  refine lv_aload_n hx hb d_E_doInstruction_0 rfl (lv_at hl 0 rfl) ?_
  replace hPc := hP.sub (ws' := [(h0, .inr (3, oE F r9 o9 w9))]) [0] rfl
  replace hKc := hK.sub (tys' := []) [] rfl
  replace hDc := hD.sub (ws' := [(h0, .inr (3, oE F r9 o9 w9))]) [0] (by decide) rfl
  replace hFc := va_free (wc := [(h0, .inr (3, oE F r9 o9 w9))]) hD hS hA [0] rfl
  refine va_callv (va_runU (C := "VotedTriple$PerfectOne") (As := []) (rest := []) ⟨hx, hb, hml, hown, hw⟩ (c_C_clearEffects_E l dC dI h0 r9 o9 w9 F s.heap.size) (va_cwU (C := "VotedTriple$PerfectOne") (owner := "VotedTriple$Processor") (x := ⟨"VotedTriple$PerfectOne", "clearEffects", "()V"⟩) (y := y_C_clearEffects) 0 hw (gd_l (List.forall_mem_cons.mpr ⟨k_485, List.forall_mem_cons.mpr ⟨k_486, List.forall_mem_cons.mpr ⟨k_487, List.forall_mem_cons.mpr ⟨k_299, List.forall_mem_cons.mpr ⟨k_3, fun _ h => absurd h List.not_mem_nil⟩⟩⟩⟩⟩) (gd (k_300))) rfl rfl rfl rfl (by decide +kernel) ⟨Nat.le_of_ble_eq_true rfl, Nat.le_of_ble_eq_true rfl⟩) ⟨fun a U g mk q => by obtain ⟨q0, q1, qP, qK, qD⟩ := q; exact ⟨q0, q1, qP, va_K.moved (u := U) (U := U.calling g mk a) (Vm.Alike.refl U.vm) qK, qD⟩, va_recv hK hP rfl (q0 := 0) rfl, fun U hU hW => ⟨rfl, by rw [hU], by rw [hU]; exact hPc, va_K.moved hW.alike hKc, hDc.weaken (fun _ _ _ _ => trivial)⟩⟩ rfl rfl hl.1 rfl (lv_room (Nat.le_of_ble_eq_true rfl)) d_E_doInstruction_1 ⟨Nat.le_of_ble_eq_true rfl, Nat.le_of_ble_eq_true rfl⟩) hS (fun q _ h => hFc q h) hFc (fun u9 t H1 locs ht hvm hr2 hB hz1 hk1 hS => ?_)
  obtain ⟨hP1, hK1, hD1⟩ := hB
  rw [ht] at hP1
  replace hK1 := va_K.moved hvm.symm hK1
  try dsimp only at hr2 hP1 hK1 hD1
  obtain ⟨hPz, hDz⟩ := va_join (wr := [(r9, .inl (cr, 8, .inl rg)), (w9, .inl (cw, 32, .inl wd)), (p9, .inr (1, [.ref q9, .int (nI cn)])), (q9, .inl (cp, 64, .inl f)), (n9, .inr (4, [.ref nw9, .int (nI kN)])), (nw9, .inl (cN, 64, .inl wN)), (o9, .inr (5, [.ref ok9, .int (nI ko)])), (ok9, .inl (cO, 300, .inl kp))]) (w1 := [(h0, .inr (3, oE (clE F) r9 o9 w9))]) hP hD [0] [1, 2, 3, 4, 5, 6, 7, 8] rfl rfl (by decide) (by decide) hk1 hFc hP1 hD1
  clear hP hD hPc hDc hP1 hD1 hFc
  have hP := hPz
  have hD := hDz
  clear hPz hDz
  replace hK := (hK.sub (tys' := [(cr, .int), (cw, .int), (cp, .int), (cN, .int), (cO, .int)]) [0, 1, 2, 3, 4] rfl).app hK1
  clear hK1 hKc
  generalize H1 = H at hP hS ⊢
  replace hP : va_P (dC, dI) classes [(r9, .inl (cr, 8, .inl rg)), (w9, .inl (cw, 32, .inl wd)), (p9, .inr (1, [.ref q9, .int (nI cn)])), (q9, .inl (cp, 64, .inl f)), (n9, .inr (4, [.ref nw9, .int (nI kN)])), (nw9, .inl (cN, 64, .inl wN)), (o9, .inr (5, [.ref ok9, .int (nI ko)])), (ok9, .inl (cO, 300, .inl kp)), (h0, .inr (3, oE (clE F) r9 o9 w9))] H := hP
  replace hD : va_D A [(r9, .inl (cr, 8, .inl rg)), (w9, .inl (cw, 32, .inl wd)), (p9, .inr (1, [.ref q9, .int (nI cn)])), (q9, .inl (cp, 64, .inl f)), (n9, .inr (4, [.ref nw9, .int (nI kN)])), (nw9, .inl (cN, 64, .inl wN)), (o9, .inr (5, [.ref ok9, .int (nI ko)])), (ok9, .inl (cO, 300, .inl kp)), (h0, .inr (3, oE (clE F) r9 o9 w9))] := hD
  replace hK : va_K (dC, dI) classes [(cr, .int), (cw, .int), (cp, .int), (cN, .int), (cO, .int)] s := hK
  refine W.widen (k := 0) (n := 0) (Nat.le_of_ble_eq_true rfl) (Nat.le_of_ble_eq_true rfl) ?_
  refine lv_aload_n hx hb d_E_doInstruction_4 rfl (lv_at hl 0 rfl) ?_
  refine lv_aload_n hx hb d_E_doInstruction_5 rfl (lv_at hl 1 rfl) ?_
  replace hPc := hP.sub (ws' := [(h0, .inr (3, oE (clE F) r9 o9 w9)), (r9, .inl (cr, 8, .inl rg)), (w9, .inl (cw, 32, .inl wd)), (p9, .inr (1, [.ref q9, .int (nI cn)])), (q9, .inl (cp, 64, .inl f))]) [8, 0, 1, 2, 3] rfl
  replace hKc := hK.sub (tys' := [(cr, .int), (cw, .int), (cp, .int)]) [0, 1, 2] rfl
  replace hDc := hD.sub (ws' := [(h0, .inr (3, oE (clE F) r9 o9 w9)), (r9, .inl (cr, 8, .inl rg)), (w9, .inl (cw, 32, .inl wd)), (p9, .inr (1, [.ref q9, .int (nI cn)])), (q9, .inl (cp, 64, .inl f))]) [8, 0, 1, 2, 3] (by decide) rfl
  replace hFc := va_free (wc := [(h0, .inr (3, oE (clE F) r9 o9 w9)), (r9, .inl (cr, 8, .inl rg)), (w9, .inl (cw, 32, .inl wd)), (p9, .inr (1, [.ref q9, .int (nI cn)])), (q9, .inl (cp, 64, .inl f))]) hD hS hA [8, 0, 1, 2, 3] rfl
  refine va_callv (va_runU (C := "VotedTriple$PerfectOne") (As := [.ref p9]) (rest := []) ⟨hx, hb, hml, hown, hw⟩ (c_C_execute_E l dC dI h0 r9 o9 w9 (clE F) cr rg cw wd p9 q9 cn cp f hc hpos (eI_cl hm) H.size) (va_cwU (C := "VotedTriple$PerfectOne") (owner := "VotedTriple$Processor") (x := ⟨"VotedTriple$PerfectOne", "execute", "(LVotedTriple$Program;)V"⟩) (y := y_C_execute) 1 hw (gd_l (List.forall_mem_cons.mpr ⟨k_488, List.forall_mem_cons.mpr ⟨k_489, List.forall_mem_cons.mpr ⟨k_491, List.forall_mem_cons.mpr ⟨k_492, List.forall_mem_cons.mpr ⟨k_3, fun _ h => absurd h List.not_mem_nil⟩⟩⟩⟩⟩) (gd (k_493))) rfl rfl rfl rfl (by decide +kernel) ⟨Nat.le_of_ble_eq_true rfl, Nat.le_of_ble_eq_true rfl⟩) ⟨fun a U g mk q => by obtain ⟨q0, q1, qP, qK, qD, qN⟩ := q; exact ⟨q0, q1, qP, va_K.moved (u := U) (U := U.calling g mk a) (Vm.Alike.refl U.vm) qK, qD, nw_vm (u := U) (U := U.calling g mk a) rfl qN⟩, va_recv hK hP rfl (q0 := 8) rfl, fun U hU hW => ⟨rfl, by rw [hU], by rw [hU]; exact hPc, va_K.moved hW.alike hKc, hDc.weaken (fun _ _ _ _ => trivial), nw_warm hW hnw⟩⟩ rfl rfl hl.1 rfl (lv_room (Nat.le_of_ble_eq_true rfl)) d_E_doInstruction_6 ⟨Nat.le_of_ble_eq_true rfl, Nat.le_of_ble_eq_true rfl⟩) hS (fun q _ h => hFc q h) hFc (fun u9 t H1 locs ht hvm hr4 hB hz1 hk1 hS => ?_)
  obtain ⟨F25, g6, w27⟩ := u9
  obtain ⟨hP1, hK1, hD1⟩ := hB
  rw [ht] at hP1
  replace hK1 := va_K.moved hvm.symm hK1
  try dsimp only at hr4 hP1 hK1 hD1
  obtain ⟨hr4, hr4E⟩ := hr4
  obtain ⟨hPz, hDz⟩ := va_join (wr := [(n9, .inr (4, [.ref nw9, .int (nI kN)])), (nw9, .inl (cN, 64, .inl wN)), (o9, .inr (5, [.ref ok9, .int (nI ko)])), (ok9, .inl (cO, 300, .inl kp))]) (w1 := [(h0, .inr (3, oE F25 r9 o9 w9)), (r9, .inl (cr, 8, .inl g6)), (w9, .inl (cw, 32, .inl w27)), (p9, .inr (1, [.ref q9, .int (nI cn)])), (q9, .inl (cp, 64, .inl f))]) hP hD [8, 0, 1, 2, 3] [4, 5, 6, 7] rfl rfl (by decide) (by decide) hk1 hFc hP1 hD1
  clear hP hD hPc hDc hP1 hD1 hFc
  have hP := hPz
  have hD := hDz
  clear hPz hDz
  replace hK := (hK.sub (tys' := [(cN, .int), (cO, .int)]) [3, 4] rfl).app hK1
  clear hK1 hKc
  generalize H1 = H at hP hS ⊢
  replace hP : va_P (dC, dI) classes [(n9, .inr (4, [.ref nw9, .int (nI kN)])), (nw9, .inl (cN, 64, .inl wN)), (o9, .inr (5, [.ref ok9, .int (nI ko)])), (ok9, .inl (cO, 300, .inl kp)), (h0, .inr (3, oE F25 r9 o9 w9)), (r9, .inl (cr, 8, .inl g6)), (w9, .inl (cw, 32, .inl w27)), (p9, .inr (1, [.ref q9, .int (nI cn)])), (q9, .inl (cp, 64, .inl f))] H := hP
  replace hD : va_D A [(n9, .inr (4, [.ref nw9, .int (nI kN)])), (nw9, .inl (cN, 64, .inl wN)), (o9, .inr (5, [.ref ok9, .int (nI ko)])), (ok9, .inl (cO, 300, .inl kp)), (h0, .inr (3, oE F25 r9 o9 w9)), (r9, .inl (cr, 8, .inl g6)), (w9, .inl (cw, 32, .inl w27)), (p9, .inr (1, [.ref q9, .int (nI cn)])), (q9, .inl (cp, 64, .inl f))] := hD
  replace hK : va_K (dC, dI) classes [(cN, .int), (cO, .int), (cr, .int), (cw, .int), (cp, .int)] s := hK
  refine W.widen (k := 0) (n := 0) (Nat.le_of_ble_eq_true rfl) (Nat.le_of_ble_eq_true rfl) ?_
  refine lv_aload_n hx hb d_E_doInstruction_9 rfl (lv_at hl 0 rfl) ?_
  refine va_get (D := (dC, dI)) (ci := 3) (v := .int (F25 2)) (C := "VotedTriple$PerfectOne") (T := F_E) (N := 10) hx hb hw in_E hown hK hP 4 rfl rfl 2 (by decide) (hw _ k_78) (fun x9 h9 => u_same (hw _ k_79) x9 h9) rfl d_E_doInstruction_10 ?_
  refine lv_iconst (v := 1) hx hb d_E_doInstruction_13 (by decide) ?_
  refine lv_icmp_ne (tgt := 57) hx hb d_E_doInstruction_14 rfl (fun hc8 => ?_) (fun hc8 => ?_)
  · --  ¬ (F25 2) = 1
    refine lv_aload_n hx hb d_E_doInstruction_57 rfl (lv_at hl 0 rfl) ?_
    refine va_get (D := (dC, dI)) (ci := 3) (v := .int (F25 2)) (C := "VotedTriple$PerfectOne") (T := F_E) (N := 10) hx hb hw in_E hown hK hP 4 rfl rfl 2 (by decide) (hw _ k_78) (fun x9 h9 => u_same (hw _ k_79) x9 h9) rfl d_E_doInstruction_58 ?_
    refine lv_iconst (v := 2) hx hb d_E_doInstruction_61 (by decide) ?_
    refine lv_icmp_ne (tgt := 76) hx hb d_E_doInstruction_62 rfl (fun hc9 => ?_) (fun hc9 => ?_)
    · --  ¬ (F25 2) = 2
      have hP9 := hP.sub (ws' := [(h0, .inr (3, oE F25 r9 o9 w9)), (r9, .inl (cr, 8, .inl g6)), (w9, .inl (cw, 32, .inl w27)), (p9, .inr (1, [.ref q9, .int (nI cn)])), (q9, .inl (cp, 64, .inl f)), (n9, .inr (4, [.ref nw9, .int (nI kN)])), (nw9, .inl (cN, 64, .inl wN)), (o9, .inr (5, [.ref ok9, .int (nI ko)])), (ok9, .inl (cO, 300, .inl kp))]) [4, 5, 6, 7, 8, 0, 1, 2, 3] rfl
      have hD9 := hD.sub (ws' := [(h0, .inr (3, oE F25 r9 o9 w9)), (r9, .inl (cr, 8, .inl g6)), (w9, .inl (cw, 32, .inl w27)), (p9, .inr (1, [.ref q9, .int (nI cn)])), (q9, .inl (cp, 64, .inl f)), (n9, .inr (4, [.ref nw9, .int (nI kN)])), (nw9, .inl (cN, 64, .inl wN)), (o9, .inr (5, [.ref ok9, .int (nI ko)])), (ok9, .inl (cO, 300, .inl kp))]) [4, 5, 6, 7, 8, 0, 1, 2, 3] (by decide) rfl
      have hK9 := hK.sub (tys' := [(cr, .int), (cw, .int), (cp, .int), (cN, .int), (cO, .int)]) [2, 3, 4, 0, 1] rfl
      refine W.widen (k := 0) (n := 0) (Nat.le_of_ble_eq_true rfl) (Nat.le_of_ble_eq_true rfl) ?_
      exact W.vret hx hb hr (fun t ht hW => ⟨⟨(F25, g6, w27, ko, kp), rfl, ⟨⟨(eI_a hr4 rfl rfl), by omega⟩, (by rw [← hSP, s_E_doInstruction]; try (rw [← hr4E, bnd_eq]); try dsimp only; try (rw [if_neg hc8]); try (rw [if_neg hc9]); all_goals rfl)⟩, by rw [ht]; exact hP9, va_K.moved hW.alike hK9, hD9⟩, hS.F ht⟩) hS.2.2 d_E_doInstruction_76
    · --  (F25 2) = 2
      refine lv_aload_n hx hb d_E_doInstruction_65 rfl (lv_at hl 0 rfl) ?_
      refine va_get (D := (dC, dI)) (ci := 3) (v := .ref o9) (C := "VotedTriple$PerfectOne") (T := F_E) (N := 10) hx hb hw in_E hown hK hP 4 rfl rfl 7 (by decide) (hw _ k_66) (fun _ h9 => h9) rfl d_E_doInstruction_66 ?_
      refine lv_aload_n hx hb d_E_doInstruction_69 rfl (lv_at hl 0 rfl) ?_
      refine va_get (D := (dC, dI)) (ci := 3) (v := .int (F25 3)) (C := "VotedTriple$PerfectOne") (T := F_E) (N := 10) hx hb hw in_E hown hK hP 4 rfl rfl 3 (by decide) (hw _ k_84) (fun x9 h9 => u_same (hw _ k_85) x9 h9) rfl d_E_doInstruction_70 ?_
      replace hPc := hP.sub (ws' := [(o9, .inr (5, [.ref ok9, .int (nI ko)])), (ok9, .inl (cO, 300, .inl kp))]) [2, 3] rfl
      replace hKc := hK.sub (tys' := [(cO, .int)]) [1] rfl
      replace hDc := hD.sub (ws' := [(o9, .inr (5, [.ref ok9, .int (nI ko)])), (ok9, .inl (cO, 300, .inl kp))]) [2, 3] (by decide) rfl
      replace hFc := va_free (wc := [(o9, .inr (5, [.ref ok9, .int (nI ko)])), (ok9, .inl (cO, 300, .inl kp))]) hD hS hA [2, 3] rfl
      refine va_callv (va_runV (C := "VotedTriple$WordsOut") (As := [.int (F25 3)]) (rest := []) ⟨hx, hb, hml, hown, hw⟩ (c_O_add l dC dI o9 ok9 ko cO kp (F25 3) hko H.size) (cwV 1 hw (gdV (k_555) (k_552) (k_553) (k_554) (k_5)) rfl rfl rfl (by decide +kernel) ⟨Nat.le_of_ble_eq_true rfl, Nat.le_of_ble_eq_true rfl⟩) ⟨fun a U g mk q => by obtain ⟨q0, q1, qP, qK, qD⟩ := q; exact ⟨q0, q1, qP, va_K.moved (u := U) (U := U.calling g mk a) (Vm.Alike.refl U.vm) qK, qD⟩, va_recv hK hP rfl (q0 := 2) rfl, fun U hU hW => ⟨rfl, by rw [hU], by rw [hU]; exact hPc, va_K.moved hW.alike hKc, hDc.weaken (fun _ _ _ _ => trivial)⟩⟩ rfl rfl hl.1 rfl (lv_room (Nat.le_of_ble_eq_true rfl)) d_E_doInstruction_73 ⟨Nat.le_of_ble_eq_true rfl, Nat.le_of_ble_eq_true rfl⟩) hS (fun q _ h => hFc q h) hFc (fun u9 t H1 locs ht hvm hr11 hB hz1 hk1 hS => ?_)
      obtain ⟨w212, rfl⟩ : ∃ z, z = u9 := ⟨_, rfl⟩
      obtain ⟨hP1, hK1, hD1⟩ := hB
      rw [ht] at hP1
      replace hK1 := va_K.moved hvm.symm hK1
      try dsimp only at hr11 hP1 hK1 hD1
      obtain ⟨hr11, hr11E⟩ := hr11
      obtain ⟨hPz, hDz⟩ := va_join (wr := [(n9, .inr (4, [.ref nw9, .int (nI kN)])), (nw9, .inl (cN, 64, .inl wN)), (h0, .inr (3, oE F25 r9 o9 w9)), (r9, .inl (cr, 8, .inl g6)), (w9, .inl (cw, 32, .inl w27)), (p9, .inr (1, [.ref q9, .int (nI cn)])), (q9, .inl (cp, 64, .inl f))]) (w1 := [(o9, .inr (5, [.ref ok9, .int (nI (ko + 1))])), (ok9, .inl (cO, 300, .inl w212))]) hP hD [2, 3] [0, 1, 4, 5, 6, 7, 8] rfl rfl (by decide) (by decide) hk1 hFc hP1 hD1
      clear hP hD hPc hDc hP1 hD1 hFc
      have hP := hPz
      have hD := hDz
      clear hPz hDz
      replace hK := (hK.sub (tys' := [(cN, .int), (cr, .int), (cw, .int), (cp, .int)]) [0, 2, 3, 4] rfl).app hK1
      clear hK1 hKc
      generalize H1 = H at hP hS ⊢
      replace hP : va_P (dC, dI) classes [(n9, .inr (4, [.ref nw9, .int (nI kN)])), (nw9, .inl (cN, 64, .inl wN)), (h0, .inr (3, oE F25 r9 o9 w9)), (r9, .inl (cr, 8, .inl g6)), (w9, .inl (cw, 32, .inl w27)), (p9, .inr (1, [.ref q9, .int (nI cn)])), (q9, .inl (cp, 64, .inl f)), (o9, .inr (5, [.ref ok9, .int (nI (ko + 1))])), (ok9, .inl (cO, 300, .inl w212))] H := hP
      replace hD : va_D A [(n9, .inr (4, [.ref nw9, .int (nI kN)])), (nw9, .inl (cN, 64, .inl wN)), (h0, .inr (3, oE F25 r9 o9 w9)), (r9, .inl (cr, 8, .inl g6)), (w9, .inl (cw, 32, .inl w27)), (p9, .inr (1, [.ref q9, .int (nI cn)])), (q9, .inl (cp, 64, .inl f)), (o9, .inr (5, [.ref ok9, .int (nI (ko + 1))])), (ok9, .inl (cO, 300, .inl w212))] := hD
      replace hK : va_K (dC, dI) classes [(cN, .int), (cr, .int), (cw, .int), (cp, .int), (cO, .int)] s := hK
      refine W.widen (k := 0) (n := 0) (Nat.le_of_ble_eq_true rfl) (Nat.le_of_ble_eq_true rfl) ?_
      have hP9 := hP.sub (ws' := [(h0, .inr (3, oE F25 r9 o9 w9)), (r9, .inl (cr, 8, .inl g6)), (w9, .inl (cw, 32, .inl w27)), (p9, .inr (1, [.ref q9, .int (nI cn)])), (q9, .inl (cp, 64, .inl f)), (n9, .inr (4, [.ref nw9, .int (nI kN)])), (nw9, .inl (cN, 64, .inl wN)), (o9, .inr (5, [.ref ok9, .int (nI (ko + 1))])), (ok9, .inl (cO, 300, .inl w212))]) [2, 3, 4, 5, 6, 0, 1, 7, 8] rfl
      have hD9 := hD.sub (ws' := [(h0, .inr (3, oE F25 r9 o9 w9)), (r9, .inl (cr, 8, .inl g6)), (w9, .inl (cw, 32, .inl w27)), (p9, .inr (1, [.ref q9, .int (nI cn)])), (q9, .inl (cp, 64, .inl f)), (n9, .inr (4, [.ref nw9, .int (nI kN)])), (nw9, .inl (cN, 64, .inl wN)), (o9, .inr (5, [.ref ok9, .int (nI (ko + 1))])), (ok9, .inl (cO, 300, .inl w212))]) [2, 3, 4, 5, 6, 0, 1, 7, 8] (by decide) rfl
      have hK9 := hK.sub (tys' := [(cr, .int), (cw, .int), (cp, .int), (cN, .int), (cO, .int)]) [1, 2, 3, 0, 4] rfl
      refine W.widen (k := 0) (n := 0) (Nat.le_of_ble_eq_true rfl) (Nat.le_of_ble_eq_true rfl) ?_
      exact W.vret hx hb hr (fun t ht hW => ⟨⟨(F25, g6, w27, ko + 1, w212), rfl, ⟨⟨(eI_a hr4 rfl rfl), by omega⟩, (by rw [← hSP, s_E_doInstruction]; try (rw [← hr4E, bnd_eq]); try dsimp only; try (rw [if_neg hc8]); try (rw [if_pos hc9]); try (rw [← hr11E, bnd_eq]); all_goals rfl)⟩, by rw [ht]; exact hP9, va_K.moved hW.alike hK9, hD9⟩, hS.F ht⟩) hS.2.2 d_E_doInstruction_76
  · --  (F25 2) = 1
    refine lv_aload_n hx hb d_E_doInstruction_17 rfl (lv_at hl 0 rfl) ?_
    refine lv_aload_n hx hb d_E_doInstruction_18 rfl (lv_at hl 2 rfl) ?_
    refine lv_aload_n hx hb d_E_doInstruction_19 rfl (lv_at hl 0 rfl) ?_
    refine va_get (D := (dC, dI)) (ci := 3) (v := .int (F25 9)) (C := "VotedTriple$PerfectOne") (T := F_E) (N := 10) hx hb hw in_E hown hK hP 4 rfl rfl 9 (by decide) (hw _ k_69) (fun _ h9 => h9) rfl d_E_doInstruction_20 ?_
    replace hPc := hP.sub (ws' := [(n9, .inr (4, [.ref nw9, .int (nI kN)])), (nw9, .inl (cN, 64, .inl wN))]) [0, 1] rfl
    replace hKc := hK.sub (tys' := [(cN, .int)]) [0] rfl
    refine vp_callSi (va_runV (C := "VotedTriple$WordsIn") (As := [.int (F25 9)]) (rest := [.ref h0]) ⟨hx, hb, hml, hown, hw⟩ (c_N_wordAt l dC dI n9 nw9 kN cN wN (F25 9) hkN hwN) (cwV 1 hw (gdV (k_545) (k_542) (k_543) (k_544) (k_6)) rfl rfl rfl (by decide +kernel) ⟨Nat.le_of_ble_eq_true rfl, Nat.le_of_ble_eq_true rfl⟩) ⟨fun a U g mk q => ⟨q.1, q.2.1, va_K.moved (u := U) (U := U.calling g mk a) (Vm.Alike.refl U.vm) q.2.2⟩, va_recv hK hP rfl (q0 := 0) rfl, fun U hU hW => ⟨rfl, by rw [hU]; exact hPc, va_K.moved hW.alike hKc⟩⟩ rfl rfl hl.1 rfl (lv_room (Nat.le_of_ble_eq_true rfl)) d_E_doInstruction_23 ⟨Nat.le_of_ble_eq_true rfl, Nat.le_of_ble_eq_true rfl⟩).run (fun r13 hr14 => ?_)
    obtain ⟨hr14, hr14E⟩ := hr14
    replace hPc := hP.sub (ws' := [(h0, .inr (3, oE F25 r9 o9 w9)), (r9, .inl (cr, 8, .inl g6))]) [4, 5] rfl
    replace hKc := hK.sub (tys' := [(cr, .int)]) [2] rfl
    replace hDc := hD.sub (ws' := [(h0, .inr (3, oE F25 r9 o9 w9)), (r9, .inl (cr, 8, .inl g6))]) [4, 5] (by decide) rfl
    replace hFc := va_free (wc := [(h0, .inr (3, oE F25 r9 o9 w9)), (r9, .inl (cr, 8, .inl g6))]) hD hS hA [4, 5] rfl
    refine va_callv (va_runU (C := "VotedTriple$PerfectOne") (As := [.int r13]) (rest := []) ⟨hx, hb, hml, hown, hw⟩ (c_C_receive_E l dC dI h0 r9 o9 w9 F25 cr g6 r13 hr4.2.1 hr14 hr4.2.2.1 H.size) (va_cwU (C := "VotedTriple$PerfectOne") (owner := "VotedTriple$Processor") (x := ⟨"VotedTriple$PerfectOne", "receive", "(I)V"⟩) (y := y_C_receive) 1 hw (gd_l (List.forall_mem_cons.mpr ⟨k_546, List.forall_mem_cons.mpr ⟨k_547, List.forall_mem_cons.mpr ⟨k_549, List.forall_mem_cons.mpr ⟨k_550, List.forall_mem_cons.mpr ⟨k_3, fun _ h => absurd h List.not_mem_nil⟩⟩⟩⟩⟩) (gd (k_551))) rfl rfl rfl rfl (by decide +kernel) ⟨Nat.le_of_ble_eq_true rfl, Nat.le_of_ble_eq_true rfl⟩) ⟨fun a U g mk q => by obtain ⟨q0, q1, qP, qK, qD⟩ := q; exact ⟨q0, q1, qP, va_K.moved (u := U) (U := U.calling g mk a) (Vm.Alike.refl U.vm) qK, qD⟩, va_recv hK hP rfl (q0 := 4) rfl, fun U hU hW => ⟨rfl, by rw [hU], by rw [hU]; exact hPc, va_K.moved hW.alike hKc, hDc.weaken (fun _ _ _ _ => trivial)⟩⟩ rfl rfl hl.1 rfl (lv_room (Nat.le_of_ble_eq_true rfl)) d_E_doInstruction_26 ⟨Nat.le_of_ble_eq_true rfl, Nat.le_of_ble_eq_true rfl⟩) hS (fun q _ h => hFc q h) hFc (fun u9 t H1 locs ht hvm hr16 hB hz1 hk1 hS => ?_)
    obtain ⟨g17, rfl⟩ : ∃ z, z = u9 := ⟨_, rfl⟩
    obtain ⟨hP1, hK1, hD1⟩ := hB
    rw [ht] at hP1
    replace hK1 := va_K.moved hvm.symm hK1
    try dsimp only at hr16 hP1 hK1 hD1
    obtain ⟨hr16, hr16E⟩ := hr16
    obtain ⟨hPz, hDz⟩ := va_join (wr := [(n9, .inr (4, [.ref nw9, .int (nI kN)])), (nw9, .inl (cN, 64, .inl wN)), (o9, .inr (5, [.ref ok9, .int (nI ko)])), (ok9, .inl (cO, 300, .inl kp)), (w9, .inl (cw, 32, .inl w27)), (p9, .inr (1, [.ref q9, .int (nI cn)])), (q9, .inl (cp, 64, .inl f))]) (w1 := [(h0, .inr (3, oE F25 r9 o9 w9)), (r9, .inl (cr, 8, .inl g17))]) hP hD [4, 5] [0, 1, 2, 3, 6, 7, 8] rfl rfl (by decide) (by decide) hk1 hFc hP1 hD1
    clear hP hD hPc hDc hP1 hD1 hFc
    have hP := hPz
    have hD := hDz
    clear hPz hDz
    replace hK := (hK.sub (tys' := [(cN, .int), (cO, .int), (cw, .int), (cp, .int)]) [0, 1, 3, 4] rfl).app hK1
    clear hK1 hKc
    generalize H1 = H at hP hS ⊢
    replace hP : va_P (dC, dI) classes [(n9, .inr (4, [.ref nw9, .int (nI kN)])), (nw9, .inl (cN, 64, .inl wN)), (o9, .inr (5, [.ref ok9, .int (nI ko)])), (ok9, .inl (cO, 300, .inl kp)), (w9, .inl (cw, 32, .inl w27)), (p9, .inr (1, [.ref q9, .int (nI cn)])), (q9, .inl (cp, 64, .inl f)), (h0, .inr (3, oE F25 r9 o9 w9)), (r9, .inl (cr, 8, .inl g17))] H := hP
    replace hD : va_D A [(n9, .inr (4, [.ref nw9, .int (nI kN)])), (nw9, .inl (cN, 64, .inl wN)), (o9, .inr (5, [.ref ok9, .int (nI ko)])), (ok9, .inl (cO, 300, .inl kp)), (w9, .inl (cw, 32, .inl w27)), (p9, .inr (1, [.ref q9, .int (nI cn)])), (q9, .inl (cp, 64, .inl f)), (h0, .inr (3, oE F25 r9 o9 w9)), (r9, .inl (cr, 8, .inl g17))] := hD
    replace hK : va_K (dC, dI) classes [(cN, .int), (cO, .int), (cw, .int), (cp, .int), (cr, .int)] s := hK
    refine W.widen (k := 0) (n := 0) (Nat.le_of_ble_eq_true rfl) (Nat.le_of_ble_eq_true rfl) ?_
    refine lv_aload_n hx hb d_E_doInstruction_29 rfl (lv_at hl 0 rfl) ?_
    refine lv_dup hx hb d_E_doInstruction_30 rfl ?_
    refine va_get (D := (dC, dI)) (ci := 3) (v := .int (F25 9)) (C := "VotedTriple$PerfectOne") (T := F_E) (N := 10) hx hb hw in_E hown hK hP 7 rfl rfl 9 (by decide) (hw _ k_69) (fun _ h9 => h9) rfl d_E_doInstruction_31 ?_
    refine lv_aload_n hx hb d_E_doInstruction_34 rfl (lv_at hl 0 rfl) ?_
    refine va_get (D := (dC, dI)) (ci := 3) (v := .int (F25 9)) (C := "VotedTriple$PerfectOne") (T := F_E) (N := 10) hx hb hw in_E hown hK hP 7 rfl rfl 9 (by decide) (hw _ k_69) (fun _ h9 => h9) rfl d_E_doInstruction_35 ?_
    refine lv_aload_n hx hb d_E_doInstruction_38 rfl (lv_at hl 2 rfl) ?_
    refine va_get (D := (dC, dI)) (ci := 4) (v := .int (nI kN)) (C := "VotedTriple$WordsIn") (T := F_N) (N := 2) hx hb hw in_N hown hK hP 0 rfl rfl 1 (by decide) (hw _ k_126) (fun _ h9 => h9) rfl d_E_doInstruction_39 ?_
    refine lv_icmp_ge (tgt := 49) hx hb d_E_doInstruction_42 rfl (fun hc18 => ?_) (fun hc18 => ?_)
    · --  (nI kN) ≤ (F25 9)
      refine lv_iconst (v := 0) hx hb d_E_doInstruction_49 (by decide) ?_
      refine lv_iadd hx hb d_E_doInstruction_50 ?_
      refine va_put (D := (dC, dI)) (ci := 3) (v := .int ((F25 9) + (0 : Int32))) (ty := .int) (C := "VotedTriple$PerfectOne") (T := F_E) (N := 10) hx hb hw in_E ft_E tyok_E nm_E hown hK hP hD hS 7 rfl rfl 9 (by decide) (hw _ k_69) (fun _ h9 => h9) rfl (by decide +kernel) rfl rfl (Nat.le_of_ble_eq_true rfl) d_E_doInstruction_51 (fun H locs hP hD hS => ?_)
      replace hP : va_P (dC, dI) classes [(n9, .inr (4, [.ref nw9, .int (nI kN)])), (nw9, .inl (cN, 64, .inl wN)), (o9, .inr (5, [.ref ok9, .int (nI ko)])), (ok9, .inl (cO, 300, .inl kp)), (w9, .inl (cw, 32, .inl w27)), (p9, .inr (1, [.ref q9, .int (nI cn)])), (q9, .inl (cp, 64, .inl f)), (h0, .inr (3, [.ref r9, .int (F25 1), .int (F25 2), .int (F25 3), .int (F25 4), .int (F25 5), .int (F25 6), .ref o9, .ref w9, .int ((F25 9) + (0 : Int32))])), (r9, .inl (cr, 8, .inl g17))] H := hP
      replace hD : va_D A [(n9, .inr (4, [.ref nw9, .int (nI kN)])), (nw9, .inl (cN, 64, .inl wN)), (o9, .inr (5, [.ref ok9, .int (nI ko)])), (ok9, .inl (cO, 300, .inl kp)), (w9, .inl (cw, 32, .inl w27)), (p9, .inr (1, [.ref q9, .int (nI cn)])), (q9, .inl (cp, 64, .inl f)), (h0, .inr (3, [.ref r9, .int (F25 1), .int (F25 2), .int (F25 3), .int (F25 4), .int (F25 5), .int (F25 6), .ref o9, .ref w9, .int ((F25 9) + (0 : Int32))])), (r9, .inl (cr, 8, .inl g17))] := hD
      refine lv_goto (tgt := 76) hx hb d_E_doInstruction_54 rfl ?_
      have hP9 := hP.sub (ws' := [(h0, .inr (3, oE (upc F25 9 ((F25 9) + (0 : Int32))) r9 o9 w9)), (r9, .inl (cr, 8, .inl g17)), (w9, .inl (cw, 32, .inl w27)), (p9, .inr (1, [.ref q9, .int (nI cn)])), (q9, .inl (cp, 64, .inl f)), (n9, .inr (4, [.ref nw9, .int (nI kN)])), (nw9, .inl (cN, 64, .inl wN)), (o9, .inr (5, [.ref ok9, .int (nI ko)])), (ok9, .inl (cO, 300, .inl kp))]) [7, 8, 4, 5, 6, 0, 1, 2, 3] rfl
      have hD9 := hD.sub (ws' := [(h0, .inr (3, oE (upc F25 9 ((F25 9) + (0 : Int32))) r9 o9 w9)), (r9, .inl (cr, 8, .inl g17)), (w9, .inl (cw, 32, .inl w27)), (p9, .inr (1, [.ref q9, .int (nI cn)])), (q9, .inl (cp, 64, .inl f)), (n9, .inr (4, [.ref nw9, .int (nI kN)])), (nw9, .inl (cN, 64, .inl wN)), (o9, .inr (5, [.ref ok9, .int (nI ko)])), (ok9, .inl (cO, 300, .inl kp))]) [7, 8, 4, 5, 6, 0, 1, 2, 3] (by decide) rfl
      have hK9 := hK.sub (tys' := [(cr, .int), (cw, .int), (cp, .int), (cN, .int), (cO, .int)]) [4, 2, 3, 0, 1] rfl
      refine W.widen (k := 0) (n := 0) (Nat.le_of_ble_eq_true rfl) (Nat.le_of_ble_eq_true rfl) ?_
      exact W.vret hx hb hr (fun t ht hW => ⟨⟨(upc F25 9 ((F25 9) + (0 : Int32)), g17, w27, ko, kp), rfl, ⟨⟨(eI_a (eI_r hr4 hr16) rfl rfl), by omega⟩, (by rw [← hSP, s_E_doInstruction]; try (rw [← hr4E, bnd_eq]); try dsimp only; try (rw [if_pos hc8]); try (rw [← hr14E, bnd_eq]); try (rw [← hr16E, bnd_eq]); try (rw [if_pos hc18]); all_goals rfl)⟩, by rw [ht]; exact hP9, va_K.moved hW.alike hK9, hD9⟩, hS.F ht⟩) hS.2.2 d_E_doInstruction_76
    · --  ¬ (nI kN) ≤ (F25 9)
      refine lv_iconst (v := 1) hx hb d_E_doInstruction_45 (by decide) ?_
      refine lv_goto (tgt := 50) hx hb d_E_doInstruction_46 rfl ?_
      refine lv_iadd hx hb d_E_doInstruction_50 ?_
      refine va_put (D := (dC, dI)) (ci := 3) (v := .int ((F25 9) + (1 : Int32))) (ty := .int) (C := "VotedTriple$PerfectOne") (T := F_E) (N := 10) hx hb hw in_E ft_E tyok_E nm_E hown hK hP hD hS 7 rfl rfl 9 (by decide) (hw _ k_69) (fun _ h9 => h9) rfl (by decide +kernel) rfl rfl (Nat.le_of_ble_eq_true rfl) d_E_doInstruction_51 (fun H locs hP hD hS => ?_)
      replace hP : va_P (dC, dI) classes [(n9, .inr (4, [.ref nw9, .int (nI kN)])), (nw9, .inl (cN, 64, .inl wN)), (o9, .inr (5, [.ref ok9, .int (nI ko)])), (ok9, .inl (cO, 300, .inl kp)), (w9, .inl (cw, 32, .inl w27)), (p9, .inr (1, [.ref q9, .int (nI cn)])), (q9, .inl (cp, 64, .inl f)), (h0, .inr (3, [.ref r9, .int (F25 1), .int (F25 2), .int (F25 3), .int (F25 4), .int (F25 5), .int (F25 6), .ref o9, .ref w9, .int ((F25 9) + (1 : Int32))])), (r9, .inl (cr, 8, .inl g17))] H := hP
      replace hD : va_D A [(n9, .inr (4, [.ref nw9, .int (nI kN)])), (nw9, .inl (cN, 64, .inl wN)), (o9, .inr (5, [.ref ok9, .int (nI ko)])), (ok9, .inl (cO, 300, .inl kp)), (w9, .inl (cw, 32, .inl w27)), (p9, .inr (1, [.ref q9, .int (nI cn)])), (q9, .inl (cp, 64, .inl f)), (h0, .inr (3, [.ref r9, .int (F25 1), .int (F25 2), .int (F25 3), .int (F25 4), .int (F25 5), .int (F25 6), .ref o9, .ref w9, .int ((F25 9) + (1 : Int32))])), (r9, .inl (cr, 8, .inl g17))] := hD
      refine lv_goto (tgt := 76) hx hb d_E_doInstruction_54 rfl ?_
      have hP9 := hP.sub (ws' := [(h0, .inr (3, oE (upc F25 9 ((F25 9) + (1 : Int32))) r9 o9 w9)), (r9, .inl (cr, 8, .inl g17)), (w9, .inl (cw, 32, .inl w27)), (p9, .inr (1, [.ref q9, .int (nI cn)])), (q9, .inl (cp, 64, .inl f)), (n9, .inr (4, [.ref nw9, .int (nI kN)])), (nw9, .inl (cN, 64, .inl wN)), (o9, .inr (5, [.ref ok9, .int (nI ko)])), (ok9, .inl (cO, 300, .inl kp))]) [7, 8, 4, 5, 6, 0, 1, 2, 3] rfl
      have hD9 := hD.sub (ws' := [(h0, .inr (3, oE (upc F25 9 ((F25 9) + (1 : Int32))) r9 o9 w9)), (r9, .inl (cr, 8, .inl g17)), (w9, .inl (cw, 32, .inl w27)), (p9, .inr (1, [.ref q9, .int (nI cn)])), (q9, .inl (cp, 64, .inl f)), (n9, .inr (4, [.ref nw9, .int (nI kN)])), (nw9, .inl (cN, 64, .inl wN)), (o9, .inr (5, [.ref ok9, .int (nI ko)])), (ok9, .inl (cO, 300, .inl kp))]) [7, 8, 4, 5, 6, 0, 1, 2, 3] (by decide) rfl
      have hK9 := hK.sub (tys' := [(cr, .int), (cw, .int), (cp, .int), (cN, .int), (cO, .int)]) [4, 2, 3, 0, 1] rfl
      refine W.widen (k := 0) (n := 0) (Nat.le_of_ble_eq_true rfl) (Nat.le_of_ble_eq_true rfl) ?_
      exact W.vret hx hb hr (fun t ht hW => ⟨⟨(upc F25 9 ((F25 9) + (1 : Int32)), g17, w27, ko, kp), rfl, ⟨⟨(eI_a (eI_r hr4 hr16) rfl rfl), by omega⟩, (by rw [← hSP, s_E_doInstruction]; try (rw [← hr4E, bnd_eq]); try dsimp only; try (rw [if_pos hc8]); try (rw [← hr14E, bnd_eq]); try (rw [← hr16E, bnd_eq]); try (rw [if_neg hc18]); all_goals rfl)⟩, by rw [ht]; exact hP9, va_K.moved hW.alike hK9, hD9⟩, hS.F ht⟩) hS.2.2 d_E_doInstruction_76
