set_option maxHeartbeats 4000000 in
set_option maxRecDepth 100000 in
theorem c_C_execute_D (l : Launch) (dC : Nat → ClassId) (dI : Nat → Nat → Nat) (h0 r9 k9 : Nat) (F : Nat → Int32) (cr : ClassId) (rg : Nat → Int32) (ck : ClassId) (cd : Nat → Int32) (p9 q9 cn : Nat) (cp : ClassId) (f : Nat → Int32) (hc : prI cn f) (hpos : 0 < cn) (hm : modI F rg) (t9 : Nat) (sz : Nat) : Met l y_C_execute (tbw y_C_execute b_C_execute 6 none) ({ frames := 4, cells := 0, slots := 0, locals := 87 }) (va_Pc [.ref h0, .ref p9] (fun U => U.heap.size = sz ∧ va_P (dC, dI) classes [(h0, .inr (2, oD F r9 k9)), (r9, .inl (cr, 8, .inl rg)), (k9, .inl (ck, 32, .inl cd)), (p9, .inr (1, [.ref q9, .int (nI cn)])), (q9, .inl (cp, 64, .inl f))] U.heap ∧ va_K (dC, dI) classes [(cr, .int), (ck, .int), (cp, .int)] U ∧ va_D (fun _ => True) [(h0, .inr (2, oD F r9 k9)), (r9, .inl (cr, 8, .inl rg)), (k9, .inl (ck, 32, .inl cd)), (p9, .inr (1, [.ref q9, .int (nI cn)])), (q9, .inl (cp, 64, .inl f))] ∧ nw U ∧ cb t9 (va_A [(h0, .inr (2, oD F r9 k9)), (r9, .inl (cr, 8, .inl rg)), (k9, .inl (ck, 32, .inl cd)), (p9, .inr (1, [.ref q9, .int (nI cn)])), (q9, .inl (cp, 64, .inl f))] sz) U U.heap)) (va_Qv (fun (u9 : (Nat → Int32) × (Nat → Int32) × (Nat → Int32)) => match u9 with | (F2, g, cd2) => (modI F2 g) ∧ (F2, g, cd2) = s_C_execute_D F rg cd cn f) (fun (u9 : (Nat → Int32) × (Nat → Int32) × (Nat → Int32)) t => match u9 with | (F2, g, cd2) => va_P (dC, dI) classes [(h0, .inr (2, oD F2 r9 k9)), (r9, .inl (cr, 8, .inl g)), (k9, .inl (ck, 32, .inl cd2)), (p9, .inr (1, [.ref q9, .int (nI cn)])), (q9, .inl (cp, 64, .inl f))] t.heap ∧ va_K (dC, dI) classes [(cr, .int), (ck, .int), (cp, .int)] t ∧ va_D (va_A [(h0, .inr (2, oD F r9 k9)), (r9, .inl (cr, 8, .inl rg)), (k9, .inl (ck, 32, .inl cd)), (p9, .inr (1, [.ref q9, .int (nI cn)])), (q9, .inl (cp, 64, .inl f))] sz) [(h0, .inr (2, oD F2 r9 k9)), (r9, .inl (cr, 8, .inl g)), (k9, .inl (ck, 32, .inl cd2)), (p9, .inr (1, [.ref q9, .int (nI cn)])), (q9, .inl (cp, 64, .inl f))]) (va_A [(h0, .inr (2, oD F r9 k9)), (r9, .inl (cr, 8, .inl rg)), (k9, .inl (ck, 32, .inl cd)), (p9, .inr (1, [.ref q9, .int (nI cn)])), (q9, .inl (cp, 64, .inl f))] sz)) 0 0 (va_A [(h0, .inr (2, oD F r9 k9)), (r9, .inl (cr, 8, .inl rg)), (k9, .inl (ck, 32, .inl cd)), (p9, .inr (1, [.ref q9, .int (nI cn)])), (q9, .inl (cp, 64, .inl f))] sz) := by
  refine Met.ofW (cc := b_C_execute) (maxL := 6) (ret := none) (by decide) rfl ?_
  intro p e s m args below meth c s₁ B hml hv
  obtain ⟨rfl, hsz, hP, hK, hD0, hnw, hcb⟩ := hv
  have hx := B.exec
  have hb := B.bytes
  have hr := B.returns
  have hts := atoms_spec (ws := (tbw y_C_execute b_C_execute 6 none)) B.pre
  have hw : ∀ z9 ∈ tb, z9.before ([.ref h0, .ref p9] : List Value).toArray s = true := fun z9 h => hts z9 (List.mem_cons_of_mem _ h)
  have hown : s.vm.findClass "VotedTriple$Processor" = some m.cls := findClass_of_methodNamed B.named
  have hlocks := B.notSynchronized
  subst hsz
  replace hD := hD0.self (sz := s.heap.size)
  generalize hAe : va_A [(h0, .inr (2, oD F r9 k9)), (r9, .inl (cr, 8, .inl rg)), (k9, .inl (ck, 32, .inl cd)), (p9, .inr (1, [.ref q9, .int (nI cn)])), (q9, .inl (cp, 64, .inl f))] s.heap.size = A at hD hcb ⊢
  have hA : ∀ q : Nat, s.heap.size ≤ q → A q := fun q h => by rw [← hAe]; exact Or.inr h
  have hS : va_S A s.heap s.heap [] := va_S.rf
  replace hl := lv_entry ([.ref h0, .ref p9]) (n := 6) (Nat.le_of_ble_eq_true rfl)
  rw [lg_entry_eq]
  generalize (lg_sl ([.ref h0, .ref p9]) ++ List.replicate (6 - (lg_sl ([.ref h0, .ref p9])).length) Slot.unset).toArray = ls at hl ⊢
  replace hl : lv_has ls 6 [(0, .ref h0), (1, .ref p9)] := hl
  generalize hSP : s_C_execute_D F rg cd cn f = SP
  refine lv_aload_n hx hb d_C_execute_0 rfl (lv_at hl 1 rfl) ?_
  refine lv_aload_n hx hb d_C_execute_1 rfl (lv_at hl 0 rfl) ?_
  refine va_get (D := (dC, dI)) (ci := 2) (v := .int (F 1)) (C := "VotedTriple$VotedModule") (T := F_D) (N := 19) hx hb hw in_D hown hK hP 0 rfl rfl 1 (by decide) (hw _ k_74) (fun _ h9 => h9) rfl d_C_execute_2 ?_
  replace hPc := hP.sub (ws' := [(p9, .inr (1, [.ref q9, .int (nI cn)])), (q9, .inl (cp, 64, .inl f))]) [3, 4] rfl
  replace hKc := hK.sub (tys' := [(cp, .int)]) [2] rfl
  refine vp_callSi (va_runV (C := "VotedTriple$Program") (As := [.int (F 1)]) (rest := []) ⟨hx, hb, hml, hown, hw⟩ (c_P_instructionAt l dC dI p9 q9 cn cp f (F 1) hc hpos (cntI_0 hm.1)) (cwV 1 hw (gdV (k_497) (k_494) (k_495) (k_496) (k_2)) rfl rfl rfl (by decide +kernel) ⟨Nat.le_of_ble_eq_true rfl, Nat.le_of_ble_eq_true rfl⟩) ⟨fun a U g mk q => ⟨q.1, q.2.1, va_K.moved (u := U) (U := U.calling g mk a) (Vm.Alike.refl U.vm) q.2.2⟩, va_recv hK hP rfl (q0 := 3) rfl, fun U hU hW => ⟨rfl, by rw [hU]; exact hPc, va_K.moved hW.alike hKc⟩⟩ rfl rfl hl.1 rfl (lv_room (Nat.le_of_ble_eq_true rfl)) d_C_execute_5 ⟨Nat.le_of_ble_eq_true rfl, Nat.le_of_ble_eq_true rfl⟩).run (fun r1 hr2 => ?_)
  obtain ⟨hr2, hr2E⟩ := hr2
  refine lv_istore_n hx hb d_C_execute_8 rfl hl (by decide) rfl (fun ls hl => ?_)
  replace hl : lv_has ls 6 [(2, .int r1), (0, .ref h0), (1, .ref p9)] := hl
  refine lv_aload_n hx hb d_C_execute_9 rfl (lv_at hl 1 rfl) ?_
  refine lv_aload_n hx hb d_C_execute_10 rfl (lv_at hl 2 rfl) ?_
  replace hPc := hP.sub (ws' := [(h0, .inr (2, oD F r9 k9)), (p9, .inr (1, [.ref q9, .int (nI cn)]))]) [0, 3] rfl
  replace hKc := hK.sub (tys' := []) [] rfl
  replace hDc := hD.sub (ws' := [(h0, .inr (2, oD F r9 k9)), (p9, .inr (1, [.ref q9, .int (nI cn)]))]) [0, 3] (by decide) rfl
  replace hFc := va_free (wc := [(h0, .inr (2, oD F r9 k9)), (p9, .inr (1, [.ref q9, .int (nI cn)]))]) hD hS hA [0, 3] rfl
  refine va_callv (va_runU (C := "VotedTriple$VotedModule") (As := [.ref p9]) (rest := []) ⟨hx, hb, hml, hown, hw⟩ (c_C_passOver_D l dC dI h0 r9 k9 F p9 q9 cn hc.1 hm.1 s.heap.size) (va_cwU (C := "VotedTriple$VotedModule") (owner := "VotedTriple$Processor") (x := ⟨"VotedTriple$Processor", "passOver", "(LVotedTriple$Program;)V"⟩) (y := y_C_passOver) 1 hw (gd_l (List.forall_mem_cons.mpr ⟨k_502, List.forall_mem_cons.mpr ⟨k_504, List.forall_mem_cons.mpr ⟨k_506, List.forall_mem_cons.mpr ⟨k_503, List.forall_mem_cons.mpr ⟨k_3, fun _ h => absurd h List.not_mem_nil⟩⟩⟩⟩⟩) (gd (k_507))) rfl rfl rfl rfl (by decide +kernel) ⟨Nat.le_of_ble_eq_true rfl, Nat.le_of_ble_eq_true rfl⟩) ⟨fun a U g mk q => by obtain ⟨q0, q1, qP, qK, qD⟩ := q; exact ⟨q0, q1, qP, va_K.moved (u := U) (U := U.calling g mk a) (Vm.Alike.refl U.vm) qK, qD⟩, va_recv hK hP rfl (q0 := 0) rfl, fun U hU hW => ⟨rfl, by rw [hU], by rw [hU]; exact hPc, va_K.moved hW.alike hKc, hDc.weaken (fun _ _ _ _ => trivial)⟩⟩ rfl rfl hl.1 rfl (lv_room (Nat.le_of_ble_eq_true rfl)) d_C_execute_11 ⟨Nat.le_of_ble_eq_true rfl, Nat.le_of_ble_eq_true rfl⟩) hS (fun q _ h => hFc q h) hFc (fun u9 t H1 locs ht hvm hr4 hB hz1 hk1 hS => ?_)
  obtain ⟨x15, rfl⟩ : ∃ z, z = u9 := ⟨_, rfl⟩
  obtain ⟨hP1, hK1, hD1⟩ := hB
  rw [ht] at hP1
  replace hK1 := va_K.moved hvm.symm hK1
  try dsimp only at hr4 hP1 hK1 hD1
  obtain ⟨hr4, hr4E⟩ := hr4
  obtain ⟨hPz, hDz⟩ := va_join (wr := [(r9, .inl (cr, 8, .inl rg)), (k9, .inl (ck, 32, .inl cd)), (q9, .inl (cp, 64, .inl f))]) (w1 := [(h0, .inr (2, oD (upc F 1 x15) r9 k9)), (p9, .inr (1, [.ref q9, .int (nI cn)]))]) hP hD [0, 3] [1, 2, 4] rfl rfl (by decide) (by decide) hk1 hFc hP1 hD1
  clear hP hD hPc hDc hP1 hD1 hFc
  have hP := hPz
  have hD := hDz
  clear hPz hDz
  replace hK := (hK.sub (tys' := [(cr, .int), (ck, .int), (cp, .int)]) [0, 1, 2] rfl).app hK1
  clear hK1 hKc
  generalize H1 = H at hP hS ⊢
  replace hP : va_P (dC, dI) classes [(r9, .inl (cr, 8, .inl rg)), (k9, .inl (ck, 32, .inl cd)), (q9, .inl (cp, 64, .inl f)), (h0, .inr (2, oD (upc F 1 x15) r9 k9)), (p9, .inr (1, [.ref q9, .int (nI cn)]))] H := hP
  replace hD : va_D A [(r9, .inl (cr, 8, .inl rg)), (k9, .inl (ck, 32, .inl cd)), (q9, .inl (cp, 64, .inl f)), (h0, .inr (2, oD (upc F 1 x15) r9 k9)), (p9, .inr (1, [.ref q9, .int (nI cn)]))] := hD
  replace hK : va_K (dC, dI) classes [(cr, .int), (ck, .int), (cp, .int)] s := hK
  refine W.widen (k := 0) (n := 0) (Nat.le_of_ble_eq_true rfl) (Nat.le_of_ble_eq_true rfl) ?_
  refine lv_iload_n hx hb d_C_execute_14 rfl (lv_at hl 0 rfl) ?_
  refine vp_callSi (va_runS (As := [.int r1]) (rest := []) ⟨hx, hb, hml, hown, hw⟩ (c_P_aOf l dC dI r1) (va_cwS 1 hw (gdS (k_244) (k_509) (k_243) (k_2)) rfl rfl rfl (by decide +kernel) ⟨Nat.le_of_ble_eq_true rfl, Nat.le_of_ble_eq_true rfl⟩) ⟨fun _ _ _ _ q => q, fun _ _ _ => ⟨rfl, trivial⟩⟩ rfl rfl hl.1 rfl (lv_room (Nat.le_of_ble_eq_true rfl)) d_C_execute_15 ⟨Nat.le_of_ble_eq_true rfl, Nat.le_of_ble_eq_true rfl⟩).run (fun r6 hr7 => ?_)
  subst hr7
  refine lv_istore_n hx hb d_C_execute_18 rfl hl (by decide) rfl (fun ls hl => ?_)
  replace hl : lv_has ls 6 [(3, .int (wA r1)), (2, .int r1), (0, .ref h0), (1, .ref p9)] := hl
  refine lv_iload_n hx hb d_C_execute_19 rfl (lv_at hl 1 rfl) ?_
  refine vp_callSi (va_runS (As := [.int r1]) (rest := []) ⟨hx, hb, hml, hown, hw⟩ (c_P_bOf l dC dI r1) (va_cwS 1 hw (gdS (k_250) (k_510) (k_249) (k_2)) rfl rfl rfl (by decide +kernel) ⟨Nat.le_of_ble_eq_true rfl, Nat.le_of_ble_eq_true rfl⟩) ⟨fun _ _ _ _ q => q, fun _ _ _ => ⟨rfl, trivial⟩⟩ rfl rfl hl.1 rfl (lv_room (Nat.le_of_ble_eq_true rfl)) d_C_execute_20 ⟨Nat.le_of_ble_eq_true rfl, Nat.le_of_ble_eq_true rfl⟩).run (fun r8 hr9 => ?_)
  subst hr9
  refine lv_istore hx hb d_C_execute_23 hl (by decide) rfl (fun ls hl => ?_)
  replace hl : lv_has ls 6 [(4, .int (wB r1)), (3, .int (wA r1)), (2, .int r1), (0, .ref h0), (1, .ref p9)] := hl
  refine lv_iload_n hx hb d_C_execute_25 rfl (lv_at hl 2 rfl) ?_
  refine vp_callSi (va_runS (As := [.int r1]) (rest := []) ⟨hx, hb, hml, hown, hw⟩ (c_P_cOf l dC dI r1) (va_cwS 1 hw (gdS (k_253) (k_511) (k_252) (k_2)) rfl rfl rfl (by decide +kernel) ⟨Nat.le_of_ble_eq_true rfl, Nat.le_of_ble_eq_true rfl⟩) ⟨fun _ _ _ _ q => q, fun _ _ _ => ⟨rfl, trivial⟩⟩ rfl rfl hl.1 rfl (lv_room (Nat.le_of_ble_eq_true rfl)) d_C_execute_26 ⟨Nat.le_of_ble_eq_true rfl, Nat.le_of_ble_eq_true rfl⟩).run (fun r10 hr11 => ?_)
  subst hr11
  refine lv_istore hx hb d_C_execute_29 hl (by decide) rfl (fun ls hl => ?_)
  replace hl : lv_has ls 6 [(5, .int (wC r1)), (4, .int (wB r1)), (3, .int (wA r1)), (2, .int r1), (0, .ref h0), (1, .ref p9)] := hl
  refine lv_iload_n hx hb d_C_execute_31 rfl (lv_at hl 3 rfl) ?_
  refine vp_callSi (va_runS (As := [.int r1]) (rest := []) ⟨hx, hb, hml, hown, hw⟩ (c_P_opOf l dC dI r1) (va_cwS 1 hw (gdS (k_241) (k_512) (k_240) (k_2)) rfl rfl rfl (by decide +kernel) ⟨Nat.le_of_ble_eq_true rfl, Nat.le_of_ble_eq_true rfl⟩) ⟨fun _ _ _ _ q => q, fun _ _ _ => ⟨rfl, trivial⟩⟩ rfl rfl hl.1 rfl (lv_room (Nat.le_of_ble_eq_true rfl)) d_C_execute_32 ⟨Nat.le_of_ble_eq_true rfl, Nat.le_of_ble_eq_true rfl⟩).run (fun r12 hr13 => ?_)
  subst hr13
  rcases sw10 (ush r1 24) with hs14 | hs14 | hs14 | hs14 | hs14 | hs14 | hs14 | hs14 | hs14 | hs14 | hs14 | hs14
  · refine lv_tableIn (off := 57) (tgt := 92) hx hb d_C_execute_35 (by rw [hs14]; decide) (by rw [hs14]; decide) (by rw [hs14]; decide) rfl ?_
    refine lv_aload_n hx hb d_C_execute_92 rfl (lv_at hl 4 rfl) ?_
    refine va_get (D := (dC, dI)) (ci := 2) (v := .ref r9) (C := "VotedTriple$VotedModule") (T := F_D) (N := 19) hx hb hw in_D hown hK hP 3 rfl rfl 0 (by decide) (hw _ k_70) (fun _ h9 => h9) rfl d_C_execute_93 ?_
    refine lv_iload_n hx hb d_C_execute_96 rfl (lv_at hl 2 rfl) ?_
    refine lv_iload hx hb d_C_execute_97 (lv_at hl 1 rfl) ?_
    refine lv_sipush (v := 256) hx hb d_C_execute_99 (by decide) ?_
    refine lv_imul hx hb d_C_execute_102 ?_
    refine lv_iload hx hb d_C_execute_103 (lv_at hl 0 rfl) ?_
    refine lv_iadd hx hb d_C_execute_105 ?_
    refine va_iast hx hb hK hP hD hS 0 0 rfl rfl (reg_in (wA_nI _) (in_A hr2 (Or.inl hs14))) d_C_execute_106 (fun H locs hP hD hS => ?_)
    replace hP : va_P (dC, dI) classes [(r9, .inl (cr, 8, .inl (upd rg (Int32.toNatClampNeg (wA r1)) (((wB r1) * (256 : Int32)) + (wC r1))))), (k9, .inl (ck, 32, .inl cd)), (q9, .inl (cp, 64, .inl f)), (h0, .inr (2, oD (upc F 1 x15) r9 k9)), (p9, .inr (1, [.ref q9, .int (nI cn)]))] H := hP
    replace hD : va_D A [(r9, .inl (cr, 8, .inl (upd rg (Int32.toNatClampNeg (wA r1)) (((wB r1) * (256 : Int32)) + (wC r1))))), (k9, .inl (ck, 32, .inl cd)), (q9, .inl (cp, 64, .inl f)), (h0, .inr (2, oD (upc F 1 x15) r9 k9)), (p9, .inr (1, [.ref q9, .int (nI cn)]))] := hD
    refine lv_goto (tgt := 270) hx hb d_C_execute_107 rfl ?_
    have hP9 := hP.sub (ws' := [(h0, .inr (2, oD (upc F 1 x15) r9 k9)), (r9, .inl (cr, 8, .inl (upd rg (Int32.toNatClampNeg (wA r1)) (((wB r1) * (256 : Int32)) + (wC r1))))), (k9, .inl (ck, 32, .inl cd)), (p9, .inr (1, [.ref q9, .int (nI cn)])), (q9, .inl (cp, 64, .inl f))]) [3, 0, 1, 4, 2] rfl
    have hD9 := hD.sub (ws' := [(h0, .inr (2, oD (upc F 1 x15) r9 k9)), (r9, .inl (cr, 8, .inl (upd rg (Int32.toNatClampNeg (wA r1)) (((wB r1) * (256 : Int32)) + (wC r1))))), (k9, .inl (ck, 32, .inl cd)), (p9, .inr (1, [.ref q9, .int (nI cn)])), (q9, .inl (cp, 64, .inl f))]) [3, 0, 1, 4, 2] (by decide) rfl
    have hK9 := hK.sub (tys' := [(cr, .int), (ck, .int), (cp, .int)]) [0, 1, 2] rfl
    refine W.widen (k := 0) (n := 0) (Nat.le_of_ble_eq_true rfl) (Nat.le_of_ble_eq_true rfl) ?_
    exact W.vret hx hb hr (fun t ht hW => ⟨⟨(upc F 1 x15, upd rg (Int32.toNatClampNeg (wA r1)) (((wB r1) * (256 : Int32)) + (wC r1)), cd), rfl, ⟨(modI_set (modI_1 hm hr4) (set16 _)), (by rw [← hSP, s_C_execute_D]; try (rw [← hr2E, bnd_eq]); try (rw [← hr4E, bnd_eq]); try (rw [if_pos hs14]); all_goals rfl)⟩, by rw [ht]; exact hP9, va_K.moved hW.alike hK9, hD9⟩, hS.F ht⟩) hS.2.2 d_C_execute_270
  · refine lv_tableIn (off := 208) (tgt := 243) hx hb d_C_execute_35 (by rw [hs14]; decide) (by rw [hs14]; decide) (by rw [hs14]; decide) rfl ?_
    refine lv_aload_n hx hb d_C_execute_243 rfl (lv_at hl 4 rfl) ?_
    refine va_get (D := (dC, dI)) (ci := 2) (v := .ref r9) (C := "VotedTriple$VotedModule") (T := F_D) (N := 19) hx hb hw in_D hown hK hP 3 rfl rfl 0 (by decide) (hw _ k_70) (fun _ h9 => h9) rfl d_C_execute_244 ?_
    refine lv_iload_n hx hb d_C_execute_247 rfl (lv_at hl 2 rfl) ?_
    refine lv_iload_n hx hb d_C_execute_248 rfl (lv_at hl 3 rfl) ?_
    refine vp_callSi (va_runS (As := [.int r1]) (rest := [.int (wA r1), .ref r9]) ⟨hx, hb, hml, hown, hw⟩ (c_P_opOf l dC dI r1) (va_cwS 1 hw (gdS (k_241) (k_512) (k_240) (k_2)) rfl rfl rfl (by decide +kernel) ⟨Nat.le_of_ble_eq_true rfl, Nat.le_of_ble_eq_true rfl⟩) ⟨fun _ _ _ _ q => q, fun _ _ _ => ⟨rfl, trivial⟩⟩ rfl rfl hl.1 rfl (lv_room (Nat.le_of_ble_eq_true rfl)) d_C_execute_249 ⟨Nat.le_of_ble_eq_true rfl, Nat.le_of_ble_eq_true rfl⟩).run (fun r15 hr16 => ?_)
    subst hr16
    refine lv_aload_n hx hb d_C_execute_252 rfl (lv_at hl 4 rfl) ?_
    refine va_get (D := (dC, dI)) (ci := 2) (v := .ref r9) (C := "VotedTriple$VotedModule") (T := F_D) (N := 19) hx hb hw in_D hown hK hP 3 rfl rfl 0 (by decide) (hw _ k_70) (fun _ h9 => h9) rfl d_C_execute_253 ?_
    refine lv_iload hx hb d_C_execute_256 (lv_at hl 1 rfl) ?_
    refine va_iald hx hb hK hP 0 0 rfl rfl (reg_in (wB_nI _) (in_ABC hr2 (Or.inl hs14)).2.1) d_C_execute_258 ?_
    refine lv_aload_n hx hb d_C_execute_259 rfl (lv_at hl 4 rfl) ?_
    refine va_get (D := (dC, dI)) (ci := 2) (v := .ref r9) (C := "VotedTriple$VotedModule") (T := F_D) (N := 19) hx hb hw in_D hown hK hP 3 rfl rfl 0 (by decide) (hw _ k_70) (fun _ h9 => h9) rfl d_C_execute_260 ?_
    refine lv_iload hx hb d_C_execute_263 (lv_at hl 0 rfl) ?_
    refine va_iald hx hb hK hP 0 0 rfl rfl (reg_in (wC_nI _) (in_ABC hr2 (Or.inl hs14)).2.2) d_C_execute_265 ?_
    refine vp_callSi (va_runS (As := [.int (ush r1 24), .int (rg (Int32.toNatClampNeg (wB r1))), .int (rg (Int32.toNatClampNeg (wC r1)))]) (rest := [.int (wA r1), .ref r9]) ⟨hx, hb, hml, hown, hw⟩ (c_C_reckon l dC dI (ush r1 24) (rg (Int32.toNatClampNeg (wB r1))) (rg (Int32.toNatClampNeg (wC r1))) (rg_at hm.2.2.2.2 (reg_in (wB_nI _) (in_ABC hr2 (Or.inl hs14)).2.1) (by decide)) (rg_at hm.2.2.2.2 (reg_in (wC_nI _) (in_ABC hr2 (Or.inl hs14)).2.2) (by decide))) (va_cwS 3 hw (gdS (k_540) (k_538) (k_539) (k_3)) rfl rfl rfl (by decide +kernel) ⟨Nat.le_of_ble_eq_true rfl, Nat.le_of_ble_eq_true rfl⟩) ⟨fun _ _ _ _ q => q, fun _ _ _ => ⟨rfl, trivial⟩⟩ rfl rfl hl.1 rfl (lv_room (Nat.le_of_ble_eq_true rfl)) d_C_execute_266 ⟨Nat.le_of_ble_eq_true rfl, Nat.le_of_ble_eq_true rfl⟩).run (fun r17 hr18 => ?_)
    obtain ⟨hr18, hr18E⟩ := hr18
    refine va_iast hx hb hK hP hD hS 0 0 rfl rfl (reg_in (wA_nI _) (in_ABC hr2 (Or.inl hs14)).1) d_C_execute_269 (fun H locs hP hD hS => ?_)
    replace hP : va_P (dC, dI) classes [(r9, .inl (cr, 8, .inl (upd rg (Int32.toNatClampNeg (wA r1)) r17))), (k9, .inl (ck, 32, .inl cd)), (q9, .inl (cp, 64, .inl f)), (h0, .inr (2, oD (upc F 1 x15) r9 k9)), (p9, .inr (1, [.ref q9, .int (nI cn)]))] H := hP
    replace hD : va_D A [(r9, .inl (cr, 8, .inl (upd rg (Int32.toNatClampNeg (wA r1)) r17))), (k9, .inl (ck, 32, .inl cd)), (q9, .inl (cp, 64, .inl f)), (h0, .inr (2, oD (upc F 1 x15) r9 k9)), (p9, .inr (1, [.ref q9, .int (nI cn)]))] := hD
    have hP9 := hP.sub (ws' := [(h0, .inr (2, oD (upc F 1 x15) r9 k9)), (r9, .inl (cr, 8, .inl (upd rg (Int32.toNatClampNeg (wA r1)) r17))), (k9, .inl (ck, 32, .inl cd)), (p9, .inr (1, [.ref q9, .int (nI cn)])), (q9, .inl (cp, 64, .inl f))]) [3, 0, 1, 4, 2] rfl
    have hD9 := hD.sub (ws' := [(h0, .inr (2, oD (upc F 1 x15) r9 k9)), (r9, .inl (cr, 8, .inl (upd rg (Int32.toNatClampNeg (wA r1)) r17))), (k9, .inl (ck, 32, .inl cd)), (p9, .inr (1, [.ref q9, .int (nI cn)])), (q9, .inl (cp, 64, .inl f))]) [3, 0, 1, 4, 2] (by decide) rfl
    have hK9 := hK.sub (tys' := [(cr, .int), (ck, .int), (cp, .int)]) [0, 1, 2] rfl
    refine W.widen (k := 0) (n := 0) (Nat.le_of_ble_eq_true rfl) (Nat.le_of_ble_eq_true rfl) ?_
    exact W.vret hx hb hr (fun t ht hW => ⟨⟨(upc F 1 x15, upd rg (Int32.toNatClampNeg (wA r1)) r17, cd), rfl, ⟨(modI_set (modI_1 hm hr4) hr18), (by rw [← hSP, s_C_execute_D]; try (rw [← hr2E, bnd_eq]); try (rw [← hr4E, bnd_eq]); try (rw [if_neg (by rw [hs14]; decide)]); try (rw [if_pos hs14]); try (rw [← hr18E, bnd_eq]); all_goals rfl)⟩, by rw [ht]; exact hP9, va_K.moved hW.alike hK9, hD9⟩, hS.F ht⟩) hS.2.2 d_C_execute_270
  · refine lv_tableIn (off := 208) (tgt := 243) hx hb d_C_execute_35 (by rw [hs14]; decide) (by rw [hs14]; decide) (by rw [hs14]; decide) rfl ?_
    refine lv_aload_n hx hb d_C_execute_243 rfl (lv_at hl 4 rfl) ?_
    refine va_get (D := (dC, dI)) (ci := 2) (v := .ref r9) (C := "VotedTriple$VotedModule") (T := F_D) (N := 19) hx hb hw in_D hown hK hP 3 rfl rfl 0 (by decide) (hw _ k_70) (fun _ h9 => h9) rfl d_C_execute_244 ?_
    refine lv_iload_n hx hb d_C_execute_247 rfl (lv_at hl 2 rfl) ?_
    refine lv_iload_n hx hb d_C_execute_248 rfl (lv_at hl 3 rfl) ?_
    refine vp_callSi (va_runS (As := [.int r1]) (rest := [.int (wA r1), .ref r9]) ⟨hx, hb, hml, hown, hw⟩ (c_P_opOf l dC dI r1) (va_cwS 1 hw (gdS (k_241) (k_512) (k_240) (k_2)) rfl rfl rfl (by decide +kernel) ⟨Nat.le_of_ble_eq_true rfl, Nat.le_of_ble_eq_true rfl⟩) ⟨fun _ _ _ _ q => q, fun _ _ _ => ⟨rfl, trivial⟩⟩ rfl rfl hl.1 rfl (lv_room (Nat.le_of_ble_eq_true rfl)) d_C_execute_249 ⟨Nat.le_of_ble_eq_true rfl, Nat.le_of_ble_eq_true rfl⟩).run (fun r19 hr20 => ?_)
    subst hr20
    refine lv_aload_n hx hb d_C_execute_252 rfl (lv_at hl 4 rfl) ?_
    refine va_get (D := (dC, dI)) (ci := 2) (v := .ref r9) (C := "VotedTriple$VotedModule") (T := F_D) (N := 19) hx hb hw in_D hown hK hP 3 rfl rfl 0 (by decide) (hw _ k_70) (fun _ h9 => h9) rfl d_C_execute_253 ?_
    refine lv_iload hx hb d_C_execute_256 (lv_at hl 1 rfl) ?_
    refine va_iald hx hb hK hP 0 0 rfl rfl (reg_in (wB_nI _) (in_ABC hr2 (Or.inr (Or.inl hs14))).2.1) d_C_execute_258 ?_
    refine lv_aload_n hx hb d_C_execute_259 rfl (lv_at hl 4 rfl) ?_
    refine va_get (D := (dC, dI)) (ci := 2) (v := .ref r9) (C := "VotedTriple$VotedModule") (T := F_D) (N := 19) hx hb hw in_D hown hK hP 3 rfl rfl 0 (by decide) (hw _ k_70) (fun _ h9 => h9) rfl d_C_execute_260 ?_
    refine lv_iload hx hb d_C_execute_263 (lv_at hl 0 rfl) ?_
    refine va_iald hx hb hK hP 0 0 rfl rfl (reg_in (wC_nI _) (in_ABC hr2 (Or.inr (Or.inl hs14))).2.2) d_C_execute_265 ?_
    refine vp_callSi (va_runS (As := [.int (ush r1 24), .int (rg (Int32.toNatClampNeg (wB r1))), .int (rg (Int32.toNatClampNeg (wC r1)))]) (rest := [.int (wA r1), .ref r9]) ⟨hx, hb, hml, hown, hw⟩ (c_C_reckon l dC dI (ush r1 24) (rg (Int32.toNatClampNeg (wB r1))) (rg (Int32.toNatClampNeg (wC r1))) (rg_at hm.2.2.2.2 (reg_in (wB_nI _) (in_ABC hr2 (Or.inr (Or.inl hs14))).2.1) (by decide)) (rg_at hm.2.2.2.2 (reg_in (wC_nI _) (in_ABC hr2 (Or.inr (Or.inl hs14))).2.2) (by decide))) (va_cwS 3 hw (gdS (k_540) (k_538) (k_539) (k_3)) rfl rfl rfl (by decide +kernel) ⟨Nat.le_of_ble_eq_true rfl, Nat.le_of_ble_eq_true rfl⟩) ⟨fun _ _ _ _ q => q, fun _ _ _ => ⟨rfl, trivial⟩⟩ rfl rfl hl.1 rfl (lv_room (Nat.le_of_ble_eq_true rfl)) d_C_execute_266 ⟨Nat.le_of_ble_eq_true rfl, Nat.le_of_ble_eq_true rfl⟩).run (fun r21 hr22 => ?_)
    obtain ⟨hr22, hr22E⟩ := hr22
    refine va_iast hx hb hK hP hD hS 0 0 rfl rfl (reg_in (wA_nI _) (in_ABC hr2 (Or.inr (Or.inl hs14))).1) d_C_execute_269 (fun H locs hP hD hS => ?_)
    replace hP : va_P (dC, dI) classes [(r9, .inl (cr, 8, .inl (upd rg (Int32.toNatClampNeg (wA r1)) r21))), (k9, .inl (ck, 32, .inl cd)), (q9, .inl (cp, 64, .inl f)), (h0, .inr (2, oD (upc F 1 x15) r9 k9)), (p9, .inr (1, [.ref q9, .int (nI cn)]))] H := hP
    replace hD : va_D A [(r9, .inl (cr, 8, .inl (upd rg (Int32.toNatClampNeg (wA r1)) r21))), (k9, .inl (ck, 32, .inl cd)), (q9, .inl (cp, 64, .inl f)), (h0, .inr (2, oD (upc F 1 x15) r9 k9)), (p9, .inr (1, [.ref q9, .int (nI cn)]))] := hD
    have hP9 := hP.sub (ws' := [(h0, .inr (2, oD (upc F 1 x15) r9 k9)), (r9, .inl (cr, 8, .inl (upd rg (Int32.toNatClampNeg (wA r1)) r21))), (k9, .inl (ck, 32, .inl cd)), (p9, .inr (1, [.ref q9, .int (nI cn)])), (q9, .inl (cp, 64, .inl f))]) [3, 0, 1, 4, 2] rfl
    have hD9 := hD.sub (ws' := [(h0, .inr (2, oD (upc F 1 x15) r9 k9)), (r9, .inl (cr, 8, .inl (upd rg (Int32.toNatClampNeg (wA r1)) r21))), (k9, .inl (ck, 32, .inl cd)), (p9, .inr (1, [.ref q9, .int (nI cn)])), (q9, .inl (cp, 64, .inl f))]) [3, 0, 1, 4, 2] (by decide) rfl
    have hK9 := hK.sub (tys' := [(cr, .int), (ck, .int), (cp, .int)]) [0, 1, 2] rfl
    refine W.widen (k := 0) (n := 0) (Nat.le_of_ble_eq_true rfl) (Nat.le_of_ble_eq_true rfl) ?_
    exact W.vret hx hb hr (fun t ht hW => ⟨⟨(upc F 1 x15, upd rg (Int32.toNatClampNeg (wA r1)) r21, cd), rfl, ⟨(modI_set (modI_1 hm hr4) hr22), (by rw [← hSP, s_C_execute_D]; try (rw [← hr2E, bnd_eq]); try (rw [← hr4E, bnd_eq]); try (rw [if_neg (by rw [hs14]; decide)]); try (rw [if_neg (by rw [hs14]; decide)]); try (rw [if_pos hs14]); try (rw [← hr22E, bnd_eq]); all_goals rfl)⟩, by rw [ht]; exact hP9, va_K.moved hW.alike hK9, hD9⟩, hS.F ht⟩) hS.2.2 d_C_execute_270
  · refine lv_tableIn (off := 208) (tgt := 243) hx hb d_C_execute_35 (by rw [hs14]; decide) (by rw [hs14]; decide) (by rw [hs14]; decide) rfl ?_
    refine lv_aload_n hx hb d_C_execute_243 rfl (lv_at hl 4 rfl) ?_
    refine va_get (D := (dC, dI)) (ci := 2) (v := .ref r9) (C := "VotedTriple$VotedModule") (T := F_D) (N := 19) hx hb hw in_D hown hK hP 3 rfl rfl 0 (by decide) (hw _ k_70) (fun _ h9 => h9) rfl d_C_execute_244 ?_
    refine lv_iload_n hx hb d_C_execute_247 rfl (lv_at hl 2 rfl) ?_
    refine lv_iload_n hx hb d_C_execute_248 rfl (lv_at hl 3 rfl) ?_
    refine vp_callSi (va_runS (As := [.int r1]) (rest := [.int (wA r1), .ref r9]) ⟨hx, hb, hml, hown, hw⟩ (c_P_opOf l dC dI r1) (va_cwS 1 hw (gdS (k_241) (k_512) (k_240) (k_2)) rfl rfl rfl (by decide +kernel) ⟨Nat.le_of_ble_eq_true rfl, Nat.le_of_ble_eq_true rfl⟩) ⟨fun _ _ _ _ q => q, fun _ _ _ => ⟨rfl, trivial⟩⟩ rfl rfl hl.1 rfl (lv_room (Nat.le_of_ble_eq_true rfl)) d_C_execute_249 ⟨Nat.le_of_ble_eq_true rfl, Nat.le_of_ble_eq_true rfl⟩).run (fun r23 hr24 => ?_)
    subst hr24
    refine lv_aload_n hx hb d_C_execute_252 rfl (lv_at hl 4 rfl) ?_
    refine va_get (D := (dC, dI)) (ci := 2) (v := .ref r9) (C := "VotedTriple$VotedModule") (T := F_D) (N := 19) hx hb hw in_D hown hK hP 3 rfl rfl 0 (by decide) (hw _ k_70) (fun _ h9 => h9) rfl d_C_execute_253 ?_
    refine lv_iload hx hb d_C_execute_256 (lv_at hl 1 rfl) ?_
    refine va_iald hx hb hK hP 0 0 rfl rfl (reg_in (wB_nI _) (in_ABC hr2 (Or.inr (Or.inr (Or.inl hs14)))).2.1) d_C_execute_258 ?_
    refine lv_aload_n hx hb d_C_execute_259 rfl (lv_at hl 4 rfl) ?_
    refine va_get (D := (dC, dI)) (ci := 2) (v := .ref r9) (C := "VotedTriple$VotedModule") (T := F_D) (N := 19) hx hb hw in_D hown hK hP 3 rfl rfl 0 (by decide) (hw _ k_70) (fun _ h9 => h9) rfl d_C_execute_260 ?_
    refine lv_iload hx hb d_C_execute_263 (lv_at hl 0 rfl) ?_
    refine va_iald hx hb hK hP 0 0 rfl rfl (reg_in (wC_nI _) (in_ABC hr2 (Or.inr (Or.inr (Or.inl hs14)))).2.2) d_C_execute_265 ?_
    refine vp_callSi (va_runS (As := [.int (ush r1 24), .int (rg (Int32.toNatClampNeg (wB r1))), .int (rg (Int32.toNatClampNeg (wC r1)))]) (rest := [.int (wA r1), .ref r9]) ⟨hx, hb, hml, hown, hw⟩ (c_C_reckon l dC dI (ush r1 24) (rg (Int32.toNatClampNeg (wB r1))) (rg (Int32.toNatClampNeg (wC r1))) (rg_at hm.2.2.2.2 (reg_in (wB_nI _) (in_ABC hr2 (Or.inr (Or.inr (Or.inl hs14)))).2.1) (by decide)) (rg_at hm.2.2.2.2 (reg_in (wC_nI _) (in_ABC hr2 (Or.inr (Or.inr (Or.inl hs14)))).2.2) (by decide))) (va_cwS 3 hw (gdS (k_540) (k_538) (k_539) (k_3)) rfl rfl rfl (by decide +kernel) ⟨Nat.le_of_ble_eq_true rfl, Nat.le_of_ble_eq_true rfl⟩) ⟨fun _ _ _ _ q => q, fun _ _ _ => ⟨rfl, trivial⟩⟩ rfl rfl hl.1 rfl (lv_room (Nat.le_of_ble_eq_true rfl)) d_C_execute_266 ⟨Nat.le_of_ble_eq_true rfl, Nat.le_of_ble_eq_true rfl⟩).run (fun r25 hr26 => ?_)
    obtain ⟨hr26, hr26E⟩ := hr26
    refine va_iast hx hb hK hP hD hS 0 0 rfl rfl (reg_in (wA_nI _) (in_ABC hr2 (Or.inr (Or.inr (Or.inl hs14)))).1) d_C_execute_269 (fun H locs hP hD hS => ?_)
    replace hP : va_P (dC, dI) classes [(r9, .inl (cr, 8, .inl (upd rg (Int32.toNatClampNeg (wA r1)) r25))), (k9, .inl (ck, 32, .inl cd)), (q9, .inl (cp, 64, .inl f)), (h0, .inr (2, oD (upc F 1 x15) r9 k9)), (p9, .inr (1, [.ref q9, .int (nI cn)]))] H := hP
    replace hD : va_D A [(r9, .inl (cr, 8, .inl (upd rg (Int32.toNatClampNeg (wA r1)) r25))), (k9, .inl (ck, 32, .inl cd)), (q9, .inl (cp, 64, .inl f)), (h0, .inr (2, oD (upc F 1 x15) r9 k9)), (p9, .inr (1, [.ref q9, .int (nI cn)]))] := hD
    have hP9 := hP.sub (ws' := [(h0, .inr (2, oD (upc F 1 x15) r9 k9)), (r9, .inl (cr, 8, .inl (upd rg (Int32.toNatClampNeg (wA r1)) r25))), (k9, .inl (ck, 32, .inl cd)), (p9, .inr (1, [.ref q9, .int (nI cn)])), (q9, .inl (cp, 64, .inl f))]) [3, 0, 1, 4, 2] rfl
    have hD9 := hD.sub (ws' := [(h0, .inr (2, oD (upc F 1 x15) r9 k9)), (r9, .inl (cr, 8, .inl (upd rg (Int32.toNatClampNeg (wA r1)) r25))), (k9, .inl (ck, 32, .inl cd)), (p9, .inr (1, [.ref q9, .int (nI cn)])), (q9, .inl (cp, 64, .inl f))]) [3, 0, 1, 4, 2] (by decide) rfl
    have hK9 := hK.sub (tys' := [(cr, .int), (ck, .int), (cp, .int)]) [0, 1, 2] rfl
    refine W.widen (k := 0) (n := 0) (Nat.le_of_ble_eq_true rfl) (Nat.le_of_ble_eq_true rfl) ?_
    exact W.vret hx hb hr (fun t ht hW => ⟨⟨(upc F 1 x15, upd rg (Int32.toNatClampNeg (wA r1)) r25, cd), rfl, ⟨(modI_set (modI_1 hm hr4) hr26), (by rw [← hSP, s_C_execute_D]; try (rw [← hr2E, bnd_eq]); try (rw [← hr4E, bnd_eq]); try (rw [if_neg (by rw [hs14]; decide)]); try (rw [if_neg (by rw [hs14]; decide)]); try (rw [if_neg (by rw [hs14]; decide)]); try (rw [if_pos hs14]); try (rw [← hr26E, bnd_eq]); all_goals rfl)⟩, by rw [ht]; exact hP9, va_K.moved hW.alike hK9, hD9⟩, hS.F ht⟩) hS.2.2 d_C_execute_270
  · refine lv_tableIn (off := 208) (tgt := 243) hx hb d_C_execute_35 (by rw [hs14]; decide) (by rw [hs14]; decide) (by rw [hs14]; decide) rfl ?_
    refine lv_aload_n hx hb d_C_execute_243 rfl (lv_at hl 4 rfl) ?_
    refine va_get (D := (dC, dI)) (ci := 2) (v := .ref r9) (C := "VotedTriple$VotedModule") (T := F_D) (N := 19) hx hb hw in_D hown hK hP 3 rfl rfl 0 (by decide) (hw _ k_70) (fun _ h9 => h9) rfl d_C_execute_244 ?_
    refine lv_iload_n hx hb d_C_execute_247 rfl (lv_at hl 2 rfl) ?_
    refine lv_iload_n hx hb d_C_execute_248 rfl (lv_at hl 3 rfl) ?_
    refine vp_callSi (va_runS (As := [.int r1]) (rest := [.int (wA r1), .ref r9]) ⟨hx, hb, hml, hown, hw⟩ (c_P_opOf l dC dI r1) (va_cwS 1 hw (gdS (k_241) (k_512) (k_240) (k_2)) rfl rfl rfl (by decide +kernel) ⟨Nat.le_of_ble_eq_true rfl, Nat.le_of_ble_eq_true rfl⟩) ⟨fun _ _ _ _ q => q, fun _ _ _ => ⟨rfl, trivial⟩⟩ rfl rfl hl.1 rfl (lv_room (Nat.le_of_ble_eq_true rfl)) d_C_execute_249 ⟨Nat.le_of_ble_eq_true rfl, Nat.le_of_ble_eq_true rfl⟩).run (fun r27 hr28 => ?_)
    subst hr28
    refine lv_aload_n hx hb d_C_execute_252 rfl (lv_at hl 4 rfl) ?_
    refine va_get (D := (dC, dI)) (ci := 2) (v := .ref r9) (C := "VotedTriple$VotedModule") (T := F_D) (N := 19) hx hb hw in_D hown hK hP 3 rfl rfl 0 (by decide) (hw _ k_70) (fun _ h9 => h9) rfl d_C_execute_253 ?_
    refine lv_iload hx hb d_C_execute_256 (lv_at hl 1 rfl) ?_
    refine va_iald hx hb hK hP 0 0 rfl rfl (reg_in (wB_nI _) (in_ABC hr2 (Or.inr (Or.inr (Or.inr (hs14))))).2.1) d_C_execute_258 ?_
    refine lv_aload_n hx hb d_C_execute_259 rfl (lv_at hl 4 rfl) ?_
    refine va_get (D := (dC, dI)) (ci := 2) (v := .ref r9) (C := "VotedTriple$VotedModule") (T := F_D) (N := 19) hx hb hw in_D hown hK hP 3 rfl rfl 0 (by decide) (hw _ k_70) (fun _ h9 => h9) rfl d_C_execute_260 ?_
    refine lv_iload hx hb d_C_execute_263 (lv_at hl 0 rfl) ?_
    refine va_iald hx hb hK hP 0 0 rfl rfl (reg_in (wC_nI _) (in_ABC hr2 (Or.inr (Or.inr (Or.inr (hs14))))).2.2) d_C_execute_265 ?_
    refine vp_callSi (va_runS (As := [.int (ush r1 24), .int (rg (Int32.toNatClampNeg (wB r1))), .int (rg (Int32.toNatClampNeg (wC r1)))]) (rest := [.int (wA r1), .ref r9]) ⟨hx, hb, hml, hown, hw⟩ (c_C_reckon l dC dI (ush r1 24) (rg (Int32.toNatClampNeg (wB r1))) (rg (Int32.toNatClampNeg (wC r1))) (rg_at hm.2.2.2.2 (reg_in (wB_nI _) (in_ABC hr2 (Or.inr (Or.inr (Or.inr (hs14))))).2.1) (by decide)) (rg_at hm.2.2.2.2 (reg_in (wC_nI _) (in_ABC hr2 (Or.inr (Or.inr (Or.inr (hs14))))).2.2) (by decide))) (va_cwS 3 hw (gdS (k_540) (k_538) (k_539) (k_3)) rfl rfl rfl (by decide +kernel) ⟨Nat.le_of_ble_eq_true rfl, Nat.le_of_ble_eq_true rfl⟩) ⟨fun _ _ _ _ q => q, fun _ _ _ => ⟨rfl, trivial⟩⟩ rfl rfl hl.1 rfl (lv_room (Nat.le_of_ble_eq_true rfl)) d_C_execute_266 ⟨Nat.le_of_ble_eq_true rfl, Nat.le_of_ble_eq_true rfl⟩).run (fun r29 hr30 => ?_)
    obtain ⟨hr30, hr30E⟩ := hr30
    refine va_iast hx hb hK hP hD hS 0 0 rfl rfl (reg_in (wA_nI _) (in_ABC hr2 (Or.inr (Or.inr (Or.inr (hs14))))).1) d_C_execute_269 (fun H locs hP hD hS => ?_)
    replace hP : va_P (dC, dI) classes [(r9, .inl (cr, 8, .inl (upd rg (Int32.toNatClampNeg (wA r1)) r29))), (k9, .inl (ck, 32, .inl cd)), (q9, .inl (cp, 64, .inl f)), (h0, .inr (2, oD (upc F 1 x15) r9 k9)), (p9, .inr (1, [.ref q9, .int (nI cn)]))] H := hP
    replace hD : va_D A [(r9, .inl (cr, 8, .inl (upd rg (Int32.toNatClampNeg (wA r1)) r29))), (k9, .inl (ck, 32, .inl cd)), (q9, .inl (cp, 64, .inl f)), (h0, .inr (2, oD (upc F 1 x15) r9 k9)), (p9, .inr (1, [.ref q9, .int (nI cn)]))] := hD
    have hP9 := hP.sub (ws' := [(h0, .inr (2, oD (upc F 1 x15) r9 k9)), (r9, .inl (cr, 8, .inl (upd rg (Int32.toNatClampNeg (wA r1)) r29))), (k9, .inl (ck, 32, .inl cd)), (p9, .inr (1, [.ref q9, .int (nI cn)])), (q9, .inl (cp, 64, .inl f))]) [3, 0, 1, 4, 2] rfl
    have hD9 := hD.sub (ws' := [(h0, .inr (2, oD (upc F 1 x15) r9 k9)), (r9, .inl (cr, 8, .inl (upd rg (Int32.toNatClampNeg (wA r1)) r29))), (k9, .inl (ck, 32, .inl cd)), (p9, .inr (1, [.ref q9, .int (nI cn)])), (q9, .inl (cp, 64, .inl f))]) [3, 0, 1, 4, 2] (by decide) rfl
    have hK9 := hK.sub (tys' := [(cr, .int), (ck, .int), (cp, .int)]) [0, 1, 2] rfl
    refine W.widen (k := 0) (n := 0) (Nat.le_of_ble_eq_true rfl) (Nat.le_of_ble_eq_true rfl) ?_
    exact W.vret hx hb hr (fun t ht hW => ⟨⟨(upc F 1 x15, upd rg (Int32.toNatClampNeg (wA r1)) r29, cd), rfl, ⟨(modI_set (modI_1 hm hr4) hr30), (by rw [← hSP, s_C_execute_D]; try (rw [← hr2E, bnd_eq]); try (rw [← hr4E, bnd_eq]); try (rw [if_neg (by rw [hs14]; decide)]); try (rw [if_neg (by rw [hs14]; decide)]); try (rw [if_neg (by rw [hs14]; decide)]); try (rw [if_neg (by rw [hs14]; decide)]); try (rw [if_pos hs14]); try (rw [← hr30E, bnd_eq]); all_goals rfl)⟩, by rw [ht]; exact hP9, va_K.moved hW.alike hK9, hD9⟩, hS.F ht⟩) hS.2.2 d_C_execute_270
  · refine lv_tableIn (off := 75) (tgt := 110) hx hb d_C_execute_35 (by rw [hs14]; decide) (by rw [hs14]; decide) (by rw [hs14]; decide) rfl ?_
    refine lv_aload_n hx hb d_C_execute_110 rfl (lv_at hl 4 rfl) ?_
    refine va_get (D := (dC, dI)) (ci := 2) (v := .ref r9) (C := "VotedTriple$VotedModule") (T := F_D) (N := 19) hx hb hw in_D hown hK hP 3 rfl rfl 0 (by decide) (hw _ k_70) (fun _ h9 => h9) rfl d_C_execute_111 ?_
    refine lv_iload_n hx hb d_C_execute_114 rfl (lv_at hl 2 rfl) ?_
    refine lv_aload_n hx hb d_C_execute_115 rfl (lv_at hl 4 rfl) ?_
    refine lv_aload_n hx hb d_C_execute_116 rfl (lv_at hl 4 rfl) ?_
    refine va_get (D := (dC, dI)) (ci := 2) (v := .ref r9) (C := "VotedTriple$VotedModule") (T := F_D) (N := 19) hx hb hw in_D hown hK hP 3 rfl rfl 0 (by decide) (hw _ k_70) (fun _ h9 => h9) rfl d_C_execute_117 ?_
    refine lv_iload hx hb d_C_execute_120 (lv_at hl 1 rfl) ?_
    refine va_iald hx hb hK hP 0 0 rfl rfl (reg_in (wB_nI _) (in_AB hr2 (Or.inl hs14)).2) d_C_execute_122 ?_
    refine lv_iload hx hb d_C_execute_123 (lv_at hl 0 rfl) ?_
    refine lv_iadd hx hb d_C_execute_125 ?_
    refine lv_bipush (v := 32) hx hb d_C_execute_126 (by decide) ?_
    refine lv_irem hx hb d_C_execute_128 (by decide) ?_
    replace hPc := hP.sub (ws' := [(h0, .inr (2, oD (upc F 1 x15) r9 k9)), (k9, .inl (ck, 32, .inl cd))]) [3, 1] rfl
    replace hKc := hK.sub (tys' := [(ck, .int)]) [1] rfl
    replace hDc := hD.sub (ws' := [(h0, .inr (2, oD (upc F 1 x15) r9 k9)), (k9, .inl (ck, 32, .inl cd))]) [3, 1] (by decide) rfl
    replace hFc := va_free (wc := [(h0, .inr (2, oD (upc F 1 x15) r9 k9)), (k9, .inl (ck, 32, .inl cd))]) hD hS hA [3, 1] rfl
    refine va_calli (va_runU (C := "VotedTriple$VotedModule") (As := [.int (pl32 (rg (Int32.toNatClampNeg (wB r1))) (wC r1))]) (rest := [.int (wA r1), .ref r9]) ⟨hx, hb, hml, hown, hw⟩ (c_D_readWord l dC dI h0 r9 k9 (upc F 1 x15) ck cd (pl32 (rg (Int32.toNatClampNeg (wB r1))) (wC r1)) (pl32_in (rg_at hm.2.2.2.2 (reg_in (wB_nI _) (in_AB hr2 (Or.inl hs14)).2) (by decide)) (wC_nI _)) t9 H.size) (va_cwA (C := "VotedTriple$VotedModule") (owner := "VotedTriple$Processor") (x := ⟨"VotedTriple$Processor", "readWord", "(I)I"⟩) (y := y_D_readWord) 1 hw (gd_l (List.forall_mem_cons.mpr ⟨k_513, List.forall_mem_cons.mpr ⟨k_515, List.forall_mem_cons.mpr ⟨k_519, List.forall_mem_cons.mpr ⟨k_520, List.forall_mem_cons.mpr ⟨k_7, fun _ h => absurd h List.not_mem_nil⟩⟩⟩⟩⟩) (gd (k_521))) rfl rfl rfl (nw_514 hnw) (by decide +kernel) ⟨Nat.le_of_ble_eq_true rfl, Nat.le_of_ble_eq_true rfl⟩) ⟨fun a U g mk q => by obtain ⟨q0, q1, qP, qK, qD, qB⟩ := q; exact ⟨q0, q1, qP, va_K.moved (u := U) (U := U.calling g mk a) (Vm.Alike.refl U.vm) qK, qD, cb_vm (u := U) (U := U.calling g mk a) rfl qB⟩, va_recv hK hP rfl (q0 := 3) rfl, fun U hU hW => ⟨rfl, by rw [hU], by rw [hU]; exact hPc, va_K.moved hW.alike hKc, hDc.weaken (fun _ _ _ _ => trivial), by rw [hU]; exact cb_narrow (cb_warm hW (cb_kept hcb (fun a h1 h2 => hS.2.1 a h1 h2))) hFc⟩⟩ rfl rfl hl.1 rfl (lv_room (Nat.le_of_ble_eq_true rfl)) d_C_execute_129 ⟨Nat.le_of_ble_eq_true rfl, Nat.le_of_ble_eq_true rfl⟩) hS (fun q _ h => hFc q h) hFc (fun r31 u9 t H1 locs ht hvm hr32 hB hz1 hk1 hS => ?_)
    obtain ⟨F233, cd234⟩ := u9
    obtain ⟨hP1, hK1, hD1⟩ := hB
    rw [ht] at hP1
    replace hK1 := va_K.moved hvm.symm hK1
    try dsimp only at hr32 hP1 hK1 hD1
    obtain ⟨hr32, hr32E⟩ := hr32
    obtain ⟨hPz, hDz⟩ := va_join (wr := [(r9, .inl (cr, 8, .inl rg)), (q9, .inl (cp, 64, .inl f)), (p9, .inr (1, [.ref q9, .int (nI cn)]))]) (w1 := [(h0, .inr (2, oD F233 r9 k9)), (k9, .inl (ck, 32, .inl cd234))]) hP hD [3, 1] [0, 2, 4] rfl rfl (by decide) (by decide) hk1 hFc hP1 hD1
    clear hP hD hPc hDc hP1 hD1 hFc
    have hP := hPz
    have hD := hDz
    clear hPz hDz
    replace hK := (hK.sub (tys' := [(cr, .int), (cp, .int)]) [0, 2] rfl).app hK1
    clear hK1 hKc
    generalize H1 = H at hP hS ⊢
    replace hP : va_P (dC, dI) classes [(r9, .inl (cr, 8, .inl rg)), (q9, .inl (cp, 64, .inl f)), (p9, .inr (1, [.ref q9, .int (nI cn)])), (h0, .inr (2, oD F233 r9 k9)), (k9, .inl (ck, 32, .inl cd234))] H := hP
    replace hD : va_D A [(r9, .inl (cr, 8, .inl rg)), (q9, .inl (cp, 64, .inl f)), (p9, .inr (1, [.ref q9, .int (nI cn)])), (h0, .inr (2, oD F233 r9 k9)), (k9, .inl (ck, 32, .inl cd234))] := hD
    replace hK : va_K (dC, dI) classes [(cr, .int), (cp, .int), (ck, .int)] s := hK
    refine W.widen (k := 0) (n := 0) (Nat.le_of_ble_eq_true rfl) (Nat.le_of_ble_eq_true rfl) ?_
    refine va_iast hx hb hK hP hD hS 0 0 rfl rfl (reg_in (wA_nI _) (in_AB hr2 (Or.inl hs14)).1) d_C_execute_132 (fun H locs hP hD hS => ?_)
    replace hP : va_P (dC, dI) classes [(r9, .inl (cr, 8, .inl (upd rg (Int32.toNatClampNeg (wA r1)) r31))), (q9, .inl (cp, 64, .inl f)), (p9, .inr (1, [.ref q9, .int (nI cn)])), (h0, .inr (2, oD F233 r9 k9)), (k9, .inl (ck, 32, .inl cd234))] H := hP
    replace hD : va_D A [(r9, .inl (cr, 8, .inl (upd rg (Int32.toNatClampNeg (wA r1)) r31))), (q9, .inl (cp, 64, .inl f)), (p9, .inr (1, [.ref q9, .int (nI cn)])), (h0, .inr (2, oD F233 r9 k9)), (k9, .inl (ck, 32, .inl cd234))] := hD
    refine lv_goto (tgt := 270) hx hb d_C_execute_133 rfl ?_
    have hP9 := hP.sub (ws' := [(h0, .inr (2, oD F233 r9 k9)), (r9, .inl (cr, 8, .inl (upd rg (Int32.toNatClampNeg (wA r1)) r31))), (k9, .inl (ck, 32, .inl cd234)), (p9, .inr (1, [.ref q9, .int (nI cn)])), (q9, .inl (cp, 64, .inl f))]) [3, 0, 4, 2, 1] rfl
    have hD9 := hD.sub (ws' := [(h0, .inr (2, oD F233 r9 k9)), (r9, .inl (cr, 8, .inl (upd rg (Int32.toNatClampNeg (wA r1)) r31))), (k9, .inl (ck, 32, .inl cd234)), (p9, .inr (1, [.ref q9, .int (nI cn)])), (q9, .inl (cp, 64, .inl f))]) [3, 0, 4, 2, 1] (by decide) rfl
    have hK9 := hK.sub (tys' := [(cr, .int), (ck, .int), (cp, .int)]) [0, 2, 1] rfl
    refine W.widen (k := 0) (n := 0) (Nat.le_of_ble_eq_true rfl) (Nat.le_of_ble_eq_true rfl) ?_
    exact W.vret hx hb hr (fun t ht hW => ⟨⟨(F233, upd rg (Int32.toNatClampNeg (wA r1)) r31, cd234), rfl, ⟨(modI_set (modI_agr (modI_1 hm hr4) hr32.2) hr32.1), (by rw [← hSP, s_C_execute_D]; try (rw [← hr2E, bnd_eq]); try (rw [← hr4E, bnd_eq]); try (rw [if_neg (by rw [hs14]; decide)]); try (rw [if_neg (by rw [hs14]; decide)]); try (rw [if_neg (by rw [hs14]; decide)]); try (rw [if_neg (by rw [hs14]; decide)]); try (rw [if_neg (by rw [hs14]; decide)]); try (rw [if_pos hs14]); try (rw [← hr32E, bnd_eq]); try dsimp only; all_goals rfl)⟩, by rw [ht]; exact hP9, va_K.moved hW.alike hK9, hD9⟩, hS.F ht⟩) hS.2.2 d_C_execute_270
  · refine lv_tableIn (off := 101) (tgt := 136) hx hb d_C_execute_35 (by rw [hs14]; decide) (by rw [hs14]; decide) (by rw [hs14]; decide) rfl ?_
    refine lv_aload_n hx hb d_C_execute_136 rfl (lv_at hl 4 rfl) ?_
    refine lv_aload_n hx hb d_C_execute_137 rfl (lv_at hl 4 rfl) ?_
    refine va_get (D := (dC, dI)) (ci := 2) (v := .ref r9) (C := "VotedTriple$VotedModule") (T := F_D) (N := 19) hx hb hw in_D hown hK hP 3 rfl rfl 0 (by decide) (hw _ k_70) (fun _ h9 => h9) rfl d_C_execute_138 ?_
    refine lv_iload hx hb d_C_execute_141 (lv_at hl 1 rfl) ?_
    refine va_iald hx hb hK hP 0 0 rfl rfl (reg_in (wB_nI _) (in_AB hr2 (Or.inr (hs14))).2) d_C_execute_143 ?_
    refine lv_iload hx hb d_C_execute_144 (lv_at hl 0 rfl) ?_
    refine lv_iadd hx hb d_C_execute_146 ?_
    refine lv_bipush (v := 32) hx hb d_C_execute_147 (by decide) ?_
    refine lv_irem hx hb d_C_execute_149 (by decide) ?_
    refine va_put (D := (dC, dI)) (ci := 2) (v := .int (pl32 (rg (Int32.toNatClampNeg (wB r1))) (wC r1))) (ty := .int) (C := "VotedTriple$VotedModule") (T := F_D) (N := 19) hx hb hw in_D ft_D tyok_D nm_D hown hK hP hD hS 3 rfl rfl 5 (by decide) (hw _ k_91) (fun _ h9 => h9) rfl (by decide +kernel) rfl rfl (Nat.le_of_ble_eq_true rfl) d_C_execute_150 (fun H locs hP hD hS => ?_)
    replace hP : va_P (dC, dI) classes [(r9, .inl (cr, 8, .inl rg)), (k9, .inl (ck, 32, .inl cd)), (q9, .inl (cp, 64, .inl f)), (h0, .inr (2, [.ref r9, .int (upc F 1 x15 1), .int (upc F 1 x15 2), .int (upc F 1 x15 3), .int (upc F 1 x15 4), .int (pl32 (rg (Int32.toNatClampNeg (wB r1))) (wC r1)), .int (upc F 1 x15 6), .ref k9, .int (upc F 1 x15 8), .int (upc F 1 x15 9), .int (upc F 1 x15 10), .int (upc F 1 x15 11), .int (upc F 1 x15 12), .int (upc F 1 x15 13), .int (upc F 1 x15 14), .int (upc F 1 x15 15), .int (upc F 1 x15 16), .int (upc F 1 x15 17), .int (upc F 1 x15 18)])), (p9, .inr (1, [.ref q9, .int (nI cn)]))] H := hP
    replace hD : va_D A [(r9, .inl (cr, 8, .inl rg)), (k9, .inl (ck, 32, .inl cd)), (q9, .inl (cp, 64, .inl f)), (h0, .inr (2, [.ref r9, .int (upc F 1 x15 1), .int (upc F 1 x15 2), .int (upc F 1 x15 3), .int (upc F 1 x15 4), .int (pl32 (rg (Int32.toNatClampNeg (wB r1))) (wC r1)), .int (upc F 1 x15 6), .ref k9, .int (upc F 1 x15 8), .int (upc F 1 x15 9), .int (upc F 1 x15 10), .int (upc F 1 x15 11), .int (upc F 1 x15 12), .int (upc F 1 x15 13), .int (upc F 1 x15 14), .int (upc F 1 x15 15), .int (upc F 1 x15 16), .int (upc F 1 x15 17), .int (upc F 1 x15 18)])), (p9, .inr (1, [.ref q9, .int (nI cn)]))] := hD
    refine lv_aload_n hx hb d_C_execute_153 rfl (lv_at hl 4 rfl) ?_
    refine lv_aload_n hx hb d_C_execute_154 rfl (lv_at hl 4 rfl) ?_
    refine va_get (D := (dC, dI)) (ci := 2) (v := .ref r9) (C := "VotedTriple$VotedModule") (T := F_D) (N := 19) hx hb hw in_D hown hK hP 3 rfl rfl 0 (by decide) (hw _ k_70) (fun _ h9 => h9) rfl d_C_execute_155 ?_
    refine lv_iload_n hx hb d_C_execute_158 rfl (lv_at hl 2 rfl) ?_
    refine va_iald hx hb hK hP 0 0 rfl rfl (reg_in (wA_nI _) (in_AB hr2 (Or.inr (hs14))).1) d_C_execute_159 ?_
    refine va_put (D := (dC, dI)) (ci := 2) (v := .int (rg (Int32.toNatClampNeg (wA r1)))) (ty := .int) (C := "VotedTriple$VotedModule") (T := F_D) (N := 19) hx hb hw in_D ft_D tyok_D nm_D hown hK hP hD hS 3 rfl rfl 6 (by decide) (hw _ k_94) (fun _ h9 => h9) rfl (by decide +kernel) rfl rfl (Nat.le_of_ble_eq_true rfl) d_C_execute_160 (fun H locs hP hD hS => ?_)
    replace hP : va_P (dC, dI) classes [(r9, .inl (cr, 8, .inl rg)), (k9, .inl (ck, 32, .inl cd)), (q9, .inl (cp, 64, .inl f)), (h0, .inr (2, [.ref r9, .int (upc F 1 x15 1), .int (upc F 1 x15 2), .int (upc F 1 x15 3), .int (upc F 1 x15 4), .int (pl32 (rg (Int32.toNatClampNeg (wB r1))) (wC r1)), .int (rg (Int32.toNatClampNeg (wA r1))), .ref k9, .int (upc F 1 x15 8), .int (upc F 1 x15 9), .int (upc F 1 x15 10), .int (upc F 1 x15 11), .int (upc F 1 x15 12), .int (upc F 1 x15 13), .int (upc F 1 x15 14), .int (upc F 1 x15 15), .int (upc F 1 x15 16), .int (upc F 1 x15 17), .int (upc F 1 x15 18)])), (p9, .inr (1, [.ref q9, .int (nI cn)]))] H := hP
    replace hD : va_D A [(r9, .inl (cr, 8, .inl rg)), (k9, .inl (ck, 32, .inl cd)), (q9, .inl (cp, 64, .inl f)), (h0, .inr (2, [.ref r9, .int (upc F 1 x15 1), .int (upc F 1 x15 2), .int (upc F 1 x15 3), .int (upc F 1 x15 4), .int (pl32 (rg (Int32.toNatClampNeg (wB r1))) (wC r1)), .int (rg (Int32.toNatClampNeg (wA r1))), .ref k9, .int (upc F 1 x15 8), .int (upc F 1 x15 9), .int (upc F 1 x15 10), .int (upc F 1 x15 11), .int (upc F 1 x15 12), .int (upc F 1 x15 13), .int (upc F 1 x15 14), .int (upc F 1 x15 15), .int (upc F 1 x15 16), .int (upc F 1 x15 17), .int (upc F 1 x15 18)])), (p9, .inr (1, [.ref q9, .int (nI cn)]))] := hD
    refine lv_aload_n hx hb d_C_execute_163 rfl (lv_at hl 4 rfl) ?_
    refine lv_aload_n hx hb d_C_execute_164 rfl (lv_at hl 4 rfl) ?_
    refine va_get (D := (dC, dI)) (ci := 2) (v := .int (pl32 (rg (Int32.toNatClampNeg (wB r1))) (wC r1))) (C := "VotedTriple$VotedModule") (T := F_D) (N := 19) hx hb hw in_D hown hK hP 3 rfl rfl 5 (by decide) (hw _ k_91) (fun _ h9 => h9) rfl d_C_execute_165 ?_
    refine lv_aload_n hx hb d_C_execute_168 rfl (lv_at hl 4 rfl) ?_
    refine va_get (D := (dC, dI)) (ci := 2) (v := .int (rg (Int32.toNatClampNeg (wA r1)))) (C := "VotedTriple$VotedModule") (T := F_D) (N := 19) hx hb hw in_D hown hK hP 3 rfl rfl 6 (by decide) (hw _ k_94) (fun _ h9 => h9) rfl d_C_execute_169 ?_
    replace hP := hP.sub (ws' := [(r9, .inl (cr, 8, .inl rg)), (k9, .inl (ck, 32, .inl cd)), (q9, .inl (cp, 64, .inl f)), (h0, .inr (2, oD (upc (upc (upc F 1 x15) 5 (pl32 (rg (Int32.toNatClampNeg (wB r1))) (wC r1))) 6 (rg (Int32.toNatClampNeg (wA r1)))) r9 k9)), (p9, .inr (1, [.ref q9, .int (nI cn)]))]) [0, 1, 2, 3, 4] rfl
    replace hD := hD.sub (ws' := [(r9, .inl (cr, 8, .inl rg)), (k9, .inl (ck, 32, .inl cd)), (q9, .inl (cp, 64, .inl f)), (h0, .inr (2, oD (upc (upc (upc F 1 x15) 5 (pl32 (rg (Int32.toNatClampNeg (wB r1))) (wC r1))) 6 (rg (Int32.toNatClampNeg (wA r1)))) r9 k9)), (p9, .inr (1, [.ref q9, .int (nI cn)]))]) [0, 1, 2, 3, 4] (by decide) rfl
    replace hPc := hP.sub (ws' := [(h0, .inr (2, oD (upc (upc (upc F 1 x15) 5 (pl32 (rg (Int32.toNatClampNeg (wB r1))) (wC r1))) 6 (rg (Int32.toNatClampNeg (wA r1)))) r9 k9)), (k9, .inl (ck, 32, .inl cd))]) [3, 1] rfl
    replace hKc := hK.sub (tys' := [(ck, .int)]) [1] rfl
    replace hDc := hD.sub (ws' := [(h0, .inr (2, oD (upc (upc (upc F 1 x15) 5 (pl32 (rg (Int32.toNatClampNeg (wB r1))) (wC r1))) 6 (rg (Int32.toNatClampNeg (wA r1)))) r9 k9)), (k9, .inl (ck, 32, .inl cd))]) [3, 1] (by decide) rfl
    replace hFc := va_free (wc := [(h0, .inr (2, oD (upc (upc (upc F 1 x15) 5 (pl32 (rg (Int32.toNatClampNeg (wB r1))) (wC r1))) 6 (rg (Int32.toNatClampNeg (wA r1)))) r9 k9)), (k9, .inl (ck, 32, .inl cd))]) hD hS hA [3, 1] rfl
    refine va_callv (va_runU (C := "VotedTriple$VotedModule") (As := [.int (pl32 (rg (Int32.toNatClampNeg (wB r1))) (wC r1)), .int (rg (Int32.toNatClampNeg (wA r1)))]) (rest := []) ⟨hx, hb, hml, hown, hw⟩ (c_D_writeWord l dC dI h0 r9 k9 (upc (upc (upc F 1 x15) 5 (pl32 (rg (Int32.toNatClampNeg (wB r1))) (wC r1))) 6 (rg (Int32.toNatClampNeg (wA r1)))) ck cd (pl32 (rg (Int32.toNatClampNeg (wB r1))) (wC r1)) (rg (Int32.toNatClampNeg (wA r1))) (pl32_in (rg_at hm.2.2.2.2 (reg_in (wB_nI _) (in_AB hr2 (Or.inr (hs14))).2) (by decide)) (wC_nI _)) t9 H.size) (va_cwA (C := "VotedTriple$VotedModule") (owner := "VotedTriple$Processor") (x := ⟨"VotedTriple$Processor", "writeWord", "(II)V"⟩) (y := y_D_writeWord) 2 hw (gd_l (List.forall_mem_cons.mpr ⟨k_531, List.forall_mem_cons.mpr ⟨k_533, List.forall_mem_cons.mpr ⟨k_537, List.forall_mem_cons.mpr ⟨k_273, List.forall_mem_cons.mpr ⟨k_7, fun _ h => absurd h List.not_mem_nil⟩⟩⟩⟩⟩) (gd (k_275))) rfl rfl rfl (nw_532 hnw) (by decide +kernel) ⟨Nat.le_of_ble_eq_true rfl, Nat.le_of_ble_eq_true rfl⟩) ⟨fun a U g mk q => by obtain ⟨q0, q1, qP, qK, qD, qB⟩ := q; exact ⟨q0, q1, qP, va_K.moved (u := U) (U := U.calling g mk a) (Vm.Alike.refl U.vm) qK, qD, cb_vm (u := U) (U := U.calling g mk a) rfl qB⟩, va_recv hK hP rfl (q0 := 3) rfl, fun U hU hW => ⟨rfl, by rw [hU], by rw [hU]; exact hPc, va_K.moved hW.alike hKc, hDc.weaken (fun _ _ _ _ => trivial), by rw [hU]; exact cb_narrow (cb_warm hW (cb_kept hcb (fun a h1 h2 => hS.2.1 a h1 h2))) hFc⟩⟩ rfl rfl hl.1 rfl (lv_room (Nat.le_of_ble_eq_true rfl)) d_C_execute_172 ⟨Nat.le_of_ble_eq_true rfl, Nat.le_of_ble_eq_true rfl⟩) hS (fun q _ h => hFc q h) hFc (fun u9 t H1 locs ht hvm hr36 hB hz1 hk1 hS => ?_)
    obtain ⟨cd237, rfl⟩ : ∃ z, z = u9 := ⟨_, rfl⟩
    obtain ⟨hP1, hK1, hD1⟩ := hB
    rw [ht] at hP1
    replace hK1 := va_K.moved hvm.symm hK1
    try dsimp only at hr36 hP1 hK1 hD1
    obtain ⟨hr36, hr36E⟩ := hr36
    obtain ⟨hPz, hDz⟩ := va_join (wr := [(r9, .inl (cr, 8, .inl rg)), (q9, .inl (cp, 64, .inl f)), (p9, .inr (1, [.ref q9, .int (nI cn)]))]) (w1 := [(h0, .inr (2, oD (upc (upc (upc F 1 x15) 5 (pl32 (rg (Int32.toNatClampNeg (wB r1))) (wC r1))) 6 (rg (Int32.toNatClampNeg (wA r1)))) r9 k9)), (k9, .inl (ck, 32, .inl cd237))]) hP hD [3, 1] [0, 2, 4] rfl rfl (by decide) (by decide) hk1 hFc hP1 hD1
    clear hP hD hPc hDc hP1 hD1 hFc
    have hP := hPz
    have hD := hDz
    clear hPz hDz
    replace hK := (hK.sub (tys' := [(cr, .int), (cp, .int)]) [0, 2] rfl).app hK1
    clear hK1 hKc
    generalize H1 = H at hP hS ⊢
    replace hP : va_P (dC, dI) classes [(r9, .inl (cr, 8, .inl rg)), (q9, .inl (cp, 64, .inl f)), (p9, .inr (1, [.ref q9, .int (nI cn)])), (h0, .inr (2, oD (upc (upc (upc F 1 x15) 5 (pl32 (rg (Int32.toNatClampNeg (wB r1))) (wC r1))) 6 (rg (Int32.toNatClampNeg (wA r1)))) r9 k9)), (k9, .inl (ck, 32, .inl cd237))] H := hP
    replace hD : va_D A [(r9, .inl (cr, 8, .inl rg)), (q9, .inl (cp, 64, .inl f)), (p9, .inr (1, [.ref q9, .int (nI cn)])), (h0, .inr (2, oD (upc (upc (upc F 1 x15) 5 (pl32 (rg (Int32.toNatClampNeg (wB r1))) (wC r1))) 6 (rg (Int32.toNatClampNeg (wA r1)))) r9 k9)), (k9, .inl (ck, 32, .inl cd237))] := hD
    replace hK : va_K (dC, dI) classes [(cr, .int), (cp, .int), (ck, .int)] s := hK
    refine W.widen (k := 0) (n := 0) (Nat.le_of_ble_eq_true rfl) (Nat.le_of_ble_eq_true rfl) ?_
    refine lv_goto (tgt := 270) hx hb d_C_execute_175 rfl ?_
    have hP9 := hP.sub (ws' := [(h0, .inr (2, oD (upc (upc (upc F 1 x15) 5 (pl32 (rg (Int32.toNatClampNeg (wB r1))) (wC r1))) 6 (rg (Int32.toNatClampNeg (wA r1)))) r9 k9)), (r9, .inl (cr, 8, .inl rg)), (k9, .inl (ck, 32, .inl cd237)), (p9, .inr (1, [.ref q9, .int (nI cn)])), (q9, .inl (cp, 64, .inl f))]) [3, 0, 4, 2, 1] rfl
    have hD9 := hD.sub (ws' := [(h0, .inr (2, oD (upc (upc (upc F 1 x15) 5 (pl32 (rg (Int32.toNatClampNeg (wB r1))) (wC r1))) 6 (rg (Int32.toNatClampNeg (wA r1)))) r9 k9)), (r9, .inl (cr, 8, .inl rg)), (k9, .inl (ck, 32, .inl cd237)), (p9, .inr (1, [.ref q9, .int (nI cn)])), (q9, .inl (cp, 64, .inl f))]) [3, 0, 4, 2, 1] (by decide) rfl
    have hK9 := hK.sub (tys' := [(cr, .int), (ck, .int), (cp, .int)]) [0, 2, 1] rfl
    refine W.widen (k := 0) (n := 0) (Nat.le_of_ble_eq_true rfl) (Nat.le_of_ble_eq_true rfl) ?_
    exact W.vret hx hb hr (fun t ht hW => ⟨⟨(upc (upc (upc F 1 x15) 5 (pl32 (rg (Int32.toNatClampNeg (wB r1))) (wC r1))) 6 (rg (Int32.toNatClampNeg (wA r1))), rg, cd237), rfl, ⟨(modI_agr (modI_5 (modI_1 hm hr4) (Or.inr (pl32_nI (rg_at hm.2.2.2.2 (reg_in (wB_nI _) (in_AB hr2 (Or.inr (hs14))).2) (by decide)) (wC_nI _)))) ⟨rfl, rfl, rfl, rfl⟩), (by rw [← hSP, s_C_execute_D]; try (rw [← hr2E, bnd_eq]); try (rw [← hr4E, bnd_eq]); try (rw [if_neg (by rw [hs14]; decide)]); try (rw [if_neg (by rw [hs14]; decide)]); try (rw [if_neg (by rw [hs14]; decide)]); try (rw [if_neg (by rw [hs14]; decide)]); try (rw [if_neg (by rw [hs14]; decide)]); try (rw [if_neg (by rw [hs14]; decide)]); try (rw [if_pos hs14]); try (rw [← hr36E, bnd_eq]); all_goals rfl)⟩, by rw [ht]; exact hP9, va_K.moved hW.alike hK9, hD9⟩, hS.F ht⟩) hS.2.2 d_C_execute_270
  · refine lv_tableIn (off := 143) (tgt := 178) hx hb d_C_execute_35 (by rw [hs14]; decide) (by rw [hs14]; decide) (by rw [hs14]; decide) rfl ?_
    refine lv_aload_n hx hb d_C_execute_178 rfl (lv_at hl 4 rfl) ?_
    refine lv_aload_n hx hb d_C_execute_179 rfl (lv_at hl 4 rfl) ?_
    refine va_get (D := (dC, dI)) (ci := 2) (v := .ref r9) (C := "VotedTriple$VotedModule") (T := F_D) (N := 19) hx hb hw in_D hown hK hP 3 rfl rfl 0 (by decide) (hw _ k_70) (fun _ h9 => h9) rfl d_C_execute_180 ?_
    refine lv_iload_n hx hb d_C_execute_183 rfl (lv_at hl 2 rfl) ?_
    refine va_iald hx hb hK hP 0 0 rfl rfl (reg_in (wA_nI _) (in_A hr2 (Or.inr (Or.inl hs14)))) d_C_execute_184 ?_
    refine lv_if_ne (tgt := 193) hx hb d_C_execute_185 rfl (fun hc38 => ?_) (fun hc38 => ?_)
    · --  ¬ (rg (Int32.toNatClampNeg (wA r1))) = 0
      refine lv_aload_n hx hb d_C_execute_193 rfl (lv_at hl 4 rfl) ?_
      refine va_get (D := (dC, dI)) (ci := 2) (v := .int (upc F 1 x15 1)) (C := "VotedTriple$VotedModule") (T := F_D) (N := 19) hx hb hw in_D hown hK hP 3 rfl rfl 1 (by decide) (hw _ k_74) (fun _ h9 => h9) rfl d_C_execute_194 ?_
      refine va_put (D := (dC, dI)) (ci := 2) (v := .int (upc F 1 x15 1)) (ty := .int) (C := "VotedTriple$VotedModule") (T := F_D) (N := 19) hx hb hw in_D ft_D tyok_D nm_D hown hK hP hD hS 3 rfl rfl 1 (by decide) (hw _ k_74) (fun _ h9 => h9) rfl (by decide +kernel) rfl rfl (Nat.le_of_ble_eq_true rfl) d_C_execute_197 (fun H locs hP hD hS => ?_)
      replace hP : va_P (dC, dI) classes [(r9, .inl (cr, 8, .inl rg)), (k9, .inl (ck, 32, .inl cd)), (q9, .inl (cp, 64, .inl f)), (h0, .inr (2, oD (upc F 1 x15) r9 k9)), (p9, .inr (1, [.ref q9, .int (nI cn)]))] H := hP
      replace hD : va_D A [(r9, .inl (cr, 8, .inl rg)), (k9, .inl (ck, 32, .inl cd)), (q9, .inl (cp, 64, .inl f)), (h0, .inr (2, oD (upc F 1 x15) r9 k9)), (p9, .inr (1, [.ref q9, .int (nI cn)]))] := hD
      refine lv_goto (tgt := 270) hx hb d_C_execute_200 rfl ?_
      have hP9 := hP.sub (ws' := [(h0, .inr (2, oD (upc F 1 x15) r9 k9)), (r9, .inl (cr, 8, .inl rg)), (k9, .inl (ck, 32, .inl cd)), (p9, .inr (1, [.ref q9, .int (nI cn)])), (q9, .inl (cp, 64, .inl f))]) [3, 0, 1, 4, 2] rfl
      have hD9 := hD.sub (ws' := [(h0, .inr (2, oD (upc F 1 x15) r9 k9)), (r9, .inl (cr, 8, .inl rg)), (k9, .inl (ck, 32, .inl cd)), (p9, .inr (1, [.ref q9, .int (nI cn)])), (q9, .inl (cp, 64, .inl f))]) [3, 0, 1, 4, 2] (by decide) rfl
      have hK9 := hK.sub (tys' := [(cr, .int), (ck, .int), (cp, .int)]) [0, 1, 2] rfl
      refine W.widen (k := 0) (n := 0) (Nat.le_of_ble_eq_true rfl) (Nat.le_of_ble_eq_true rfl) ?_
      exact W.vret hx hb hr (fun t ht hW => ⟨⟨(upc F 1 x15, rg, cd), rfl, ⟨(modI_1 hm hr4), (by rw [← hSP, s_C_execute_D]; try (rw [← hr2E, bnd_eq]); try (rw [← hr4E, bnd_eq]); try (rw [if_neg (by rw [hs14]; decide)]); try (rw [if_neg (by rw [hs14]; decide)]); try (rw [if_neg (by rw [hs14]; decide)]); try (rw [if_neg (by rw [hs14]; decide)]); try (rw [if_neg (by rw [hs14]; decide)]); try (rw [if_neg (by rw [hs14]; decide)]); try (rw [if_neg (by rw [hs14]; decide)]); try (rw [if_pos hs14]); try (rw [if_neg hc38]); all_goals rfl)⟩, by rw [ht]; exact hP9, va_K.moved hW.alike hK9, hD9⟩, hS.F ht⟩) hS.2.2 d_C_execute_270
    · --  (rg (Int32.toNatClampNeg (wA r1))) = 0
      refine lv_iload hx hb d_C_execute_188 (lv_at hl 1 rfl) ?_
      refine lv_goto (tgt := 197) hx hb d_C_execute_190 rfl ?_
      refine va_put (D := (dC, dI)) (ci := 2) (v := .int (wB r1)) (ty := .int) (C := "VotedTriple$VotedModule") (T := F_D) (N := 19) hx hb hw in_D ft_D tyok_D nm_D hown hK hP hD hS 3 rfl rfl 1 (by decide) (hw _ k_74) (fun _ h9 => h9) rfl (by decide +kernel) rfl rfl (Nat.le_of_ble_eq_true rfl) d_C_execute_197 (fun H locs hP hD hS => ?_)
      replace hP : va_P (dC, dI) classes [(r9, .inl (cr, 8, .inl rg)), (k9, .inl (ck, 32, .inl cd)), (q9, .inl (cp, 64, .inl f)), (h0, .inr (2, [.ref r9, .int (wB r1), .int (upc F 1 x15 2), .int (upc F 1 x15 3), .int (upc F 1 x15 4), .int (upc F 1 x15 5), .int (upc F 1 x15 6), .ref k9, .int (upc F 1 x15 8), .int (upc F 1 x15 9), .int (upc F 1 x15 10), .int (upc F 1 x15 11), .int (upc F 1 x15 12), .int (upc F 1 x15 13), .int (upc F 1 x15 14), .int (upc F 1 x15 15), .int (upc F 1 x15 16), .int (upc F 1 x15 17), .int (upc F 1 x15 18)])), (p9, .inr (1, [.ref q9, .int (nI cn)]))] H := hP
      replace hD : va_D A [(r9, .inl (cr, 8, .inl rg)), (k9, .inl (ck, 32, .inl cd)), (q9, .inl (cp, 64, .inl f)), (h0, .inr (2, [.ref r9, .int (wB r1), .int (upc F 1 x15 2), .int (upc F 1 x15 3), .int (upc F 1 x15 4), .int (upc F 1 x15 5), .int (upc F 1 x15 6), .ref k9, .int (upc F 1 x15 8), .int (upc F 1 x15 9), .int (upc F 1 x15 10), .int (upc F 1 x15 11), .int (upc F 1 x15 12), .int (upc F 1 x15 13), .int (upc F 1 x15 14), .int (upc F 1 x15 15), .int (upc F 1 x15 16), .int (upc F 1 x15 17), .int (upc F 1 x15 18)])), (p9, .inr (1, [.ref q9, .int (nI cn)]))] := hD
      refine lv_goto (tgt := 270) hx hb d_C_execute_200 rfl ?_
      have hP9 := hP.sub (ws' := [(h0, .inr (2, oD (upc (upc F 1 x15) 1 (wB r1)) r9 k9)), (r9, .inl (cr, 8, .inl rg)), (k9, .inl (ck, 32, .inl cd)), (p9, .inr (1, [.ref q9, .int (nI cn)])), (q9, .inl (cp, 64, .inl f))]) [3, 0, 1, 4, 2] rfl
      have hD9 := hD.sub (ws' := [(h0, .inr (2, oD (upc (upc F 1 x15) 1 (wB r1)) r9 k9)), (r9, .inl (cr, 8, .inl rg)), (k9, .inl (ck, 32, .inl cd)), (p9, .inr (1, [.ref q9, .int (nI cn)])), (q9, .inl (cp, 64, .inl f))]) [3, 0, 1, 4, 2] (by decide) rfl
      have hK9 := hK.sub (tys' := [(cr, .int), (ck, .int), (cp, .int)]) [0, 1, 2] rfl
      refine W.widen (k := 0) (n := 0) (Nat.le_of_ble_eq_true rfl) (Nat.le_of_ble_eq_true rfl) ?_
      exact W.vret hx hb hr (fun t ht hW => ⟨⟨(upc (upc F 1 x15) 1 (wB r1), rg, cd), rfl, ⟨(modI_1 (modI_1 hm hr4) (wB_nI _)), (by rw [← hSP, s_C_execute_D]; try (rw [← hr2E, bnd_eq]); try (rw [← hr4E, bnd_eq]); try (rw [if_neg (by rw [hs14]; decide)]); try (rw [if_neg (by rw [hs14]; decide)]); try (rw [if_neg (by rw [hs14]; decide)]); try (rw [if_neg (by rw [hs14]; decide)]); try (rw [if_neg (by rw [hs14]; decide)]); try (rw [if_neg (by rw [hs14]; decide)]); try (rw [if_neg (by rw [hs14]; decide)]); try (rw [if_pos hs14]); try (rw [if_pos hc38]); all_goals rfl)⟩, by rw [ht]; exact hP9, va_K.moved hW.alike hK9, hD9⟩, hS.F ht⟩) hS.2.2 d_C_execute_270
  · refine lv_tableIn (off := 168) (tgt := 203) hx hb d_C_execute_35 (by rw [hs14]; decide) (by rw [hs14]; decide) (by rw [hs14]; decide) rfl ?_
    refine lv_aload_n hx hb d_C_execute_203 rfl (lv_at hl 4 rfl) ?_
    refine lv_iload hx hb d_C_execute_204 (lv_at hl 1 rfl) ?_
    refine va_put (D := (dC, dI)) (ci := 2) (v := .int (wB r1)) (ty := .int) (C := "VotedTriple$VotedModule") (T := F_D) (N := 19) hx hb hw in_D ft_D tyok_D nm_D hown hK hP hD hS 3 rfl rfl 1 (by decide) (hw _ k_74) (fun _ h9 => h9) rfl (by decide +kernel) rfl rfl (Nat.le_of_ble_eq_true rfl) d_C_execute_206 (fun H locs hP hD hS => ?_)
    replace hP : va_P (dC, dI) classes [(r9, .inl (cr, 8, .inl rg)), (k9, .inl (ck, 32, .inl cd)), (q9, .inl (cp, 64, .inl f)), (h0, .inr (2, [.ref r9, .int (wB r1), .int (upc F 1 x15 2), .int (upc F 1 x15 3), .int (upc F 1 x15 4), .int (upc F 1 x15 5), .int (upc F 1 x15 6), .ref k9, .int (upc F 1 x15 8), .int (upc F 1 x15 9), .int (upc F 1 x15 10), .int (upc F 1 x15 11), .int (upc F 1 x15 12), .int (upc F 1 x15 13), .int (upc F 1 x15 14), .int (upc F 1 x15 15), .int (upc F 1 x15 16), .int (upc F 1 x15 17), .int (upc F 1 x15 18)])), (p9, .inr (1, [.ref q9, .int (nI cn)]))] H := hP
    replace hD : va_D A [(r9, .inl (cr, 8, .inl rg)), (k9, .inl (ck, 32, .inl cd)), (q9, .inl (cp, 64, .inl f)), (h0, .inr (2, [.ref r9, .int (wB r1), .int (upc F 1 x15 2), .int (upc F 1 x15 3), .int (upc F 1 x15 4), .int (upc F 1 x15 5), .int (upc F 1 x15 6), .ref k9, .int (upc F 1 x15 8), .int (upc F 1 x15 9), .int (upc F 1 x15 10), .int (upc F 1 x15 11), .int (upc F 1 x15 12), .int (upc F 1 x15 13), .int (upc F 1 x15 14), .int (upc F 1 x15 15), .int (upc F 1 x15 16), .int (upc F 1 x15 17), .int (upc F 1 x15 18)])), (p9, .inr (1, [.ref q9, .int (nI cn)]))] := hD
    refine lv_goto (tgt := 270) hx hb d_C_execute_209 rfl ?_
    have hP9 := hP.sub (ws' := [(h0, .inr (2, oD (upc (upc F 1 x15) 1 (wB r1)) r9 k9)), (r9, .inl (cr, 8, .inl rg)), (k9, .inl (ck, 32, .inl cd)), (p9, .inr (1, [.ref q9, .int (nI cn)])), (q9, .inl (cp, 64, .inl f))]) [3, 0, 1, 4, 2] rfl
    have hD9 := hD.sub (ws' := [(h0, .inr (2, oD (upc (upc F 1 x15) 1 (wB r1)) r9 k9)), (r9, .inl (cr, 8, .inl rg)), (k9, .inl (ck, 32, .inl cd)), (p9, .inr (1, [.ref q9, .int (nI cn)])), (q9, .inl (cp, 64, .inl f))]) [3, 0, 1, 4, 2] (by decide) rfl
    have hK9 := hK.sub (tys' := [(cr, .int), (ck, .int), (cp, .int)]) [0, 1, 2] rfl
    refine W.widen (k := 0) (n := 0) (Nat.le_of_ble_eq_true rfl) (Nat.le_of_ble_eq_true rfl) ?_
    exact W.vret hx hb hr (fun t ht hW => ⟨⟨(upc (upc F 1 x15) 1 (wB r1), rg, cd), rfl, ⟨(modI_1 (modI_1 hm hr4) (wB_nI _)), (by rw [← hSP, s_C_execute_D]; try (rw [← hr2E, bnd_eq]); try (rw [← hr4E, bnd_eq]); try (rw [if_neg (by rw [hs14]; decide)]); try (rw [if_neg (by rw [hs14]; decide)]); try (rw [if_neg (by rw [hs14]; decide)]); try (rw [if_neg (by rw [hs14]; decide)]); try (rw [if_neg (by rw [hs14]; decide)]); try (rw [if_neg (by rw [hs14]; decide)]); try (rw [if_neg (by rw [hs14]; decide)]); try (rw [if_neg (by rw [hs14]; decide)]); try (rw [if_pos hs14]); all_goals rfl)⟩, by rw [ht]; exact hP9, va_K.moved hW.alike hK9, hD9⟩, hS.F ht⟩) hS.2.2 d_C_execute_270
  · refine lv_tableIn (off := 177) (tgt := 212) hx hb d_C_execute_35 (by rw [hs14]; decide) (by rw [hs14]; decide) (by rw [hs14]; decide) rfl ?_
    refine lv_aload_n hx hb d_C_execute_212 rfl (lv_at hl 4 rfl) ?_
    refine lv_iconst (v := 1) hx hb d_C_execute_213 (by decide) ?_
    refine va_put (D := (dC, dI)) (ci := 2) (v := .int 1) (ty := .int) (C := "VotedTriple$VotedModule") (T := F_D) (N := 19) hx hb hw in_D ft_D tyok_D nm_D hown hK hP hD hS 3 rfl rfl 2 (by decide) (hw _ k_82) (fun _ h9 => h9) rfl (by decide +kernel) rfl rfl (Nat.le_of_ble_eq_true rfl) d_C_execute_214 (fun H locs hP hD hS => ?_)
    replace hP : va_P (dC, dI) classes [(r9, .inl (cr, 8, .inl rg)), (k9, .inl (ck, 32, .inl cd)), (q9, .inl (cp, 64, .inl f)), (h0, .inr (2, [.ref r9, .int (upc F 1 x15 1), .int 1, .int (upc F 1 x15 3), .int (upc F 1 x15 4), .int (upc F 1 x15 5), .int (upc F 1 x15 6), .ref k9, .int (upc F 1 x15 8), .int (upc F 1 x15 9), .int (upc F 1 x15 10), .int (upc F 1 x15 11), .int (upc F 1 x15 12), .int (upc F 1 x15 13), .int (upc F 1 x15 14), .int (upc F 1 x15 15), .int (upc F 1 x15 16), .int (upc F 1 x15 17), .int (upc F 1 x15 18)])), (p9, .inr (1, [.ref q9, .int (nI cn)]))] H := hP
    replace hD : va_D A [(r9, .inl (cr, 8, .inl rg)), (k9, .inl (ck, 32, .inl cd)), (q9, .inl (cp, 64, .inl f)), (h0, .inr (2, [.ref r9, .int (upc F 1 x15 1), .int 1, .int (upc F 1 x15 3), .int (upc F 1 x15 4), .int (upc F 1 x15 5), .int (upc F 1 x15 6), .ref k9, .int (upc F 1 x15 8), .int (upc F 1 x15 9), .int (upc F 1 x15 10), .int (upc F 1 x15 11), .int (upc F 1 x15 12), .int (upc F 1 x15 13), .int (upc F 1 x15 14), .int (upc F 1 x15 15), .int (upc F 1 x15 16), .int (upc F 1 x15 17), .int (upc F 1 x15 18)])), (p9, .inr (1, [.ref q9, .int (nI cn)]))] := hD
    refine lv_aload_n hx hb d_C_execute_217 rfl (lv_at hl 4 rfl) ?_
    refine lv_iload_n hx hb d_C_execute_218 rfl (lv_at hl 2 rfl) ?_
    refine va_put (D := (dC, dI)) (ci := 2) (v := .int (wA r1)) (ty := .int) (C := "VotedTriple$VotedModule") (T := F_D) (N := 19) hx hb hw in_D ft_D tyok_D nm_D hown hK hP hD hS 3 rfl rfl 4 (by decide) (hw _ k_90) (fun _ h9 => h9) rfl (by decide +kernel) rfl rfl (Nat.le_of_ble_eq_true rfl) d_C_execute_219 (fun H locs hP hD hS => ?_)
    replace hP : va_P (dC, dI) classes [(r9, .inl (cr, 8, .inl rg)), (k9, .inl (ck, 32, .inl cd)), (q9, .inl (cp, 64, .inl f)), (h0, .inr (2, [.ref r9, .int (upc F 1 x15 1), .int 1, .int (upc F 1 x15 3), .int (wA r1), .int (upc F 1 x15 5), .int (upc F 1 x15 6), .ref k9, .int (upc F 1 x15 8), .int (upc F 1 x15 9), .int (upc F 1 x15 10), .int (upc F 1 x15 11), .int (upc F 1 x15 12), .int (upc F 1 x15 13), .int (upc F 1 x15 14), .int (upc F 1 x15 15), .int (upc F 1 x15 16), .int (upc F 1 x15 17), .int (upc F 1 x15 18)])), (p9, .inr (1, [.ref q9, .int (nI cn)]))] H := hP
    replace hD : va_D A [(r9, .inl (cr, 8, .inl rg)), (k9, .inl (ck, 32, .inl cd)), (q9, .inl (cp, 64, .inl f)), (h0, .inr (2, [.ref r9, .int (upc F 1 x15 1), .int 1, .int (upc F 1 x15 3), .int (wA r1), .int (upc F 1 x15 5), .int (upc F 1 x15 6), .ref k9, .int (upc F 1 x15 8), .int (upc F 1 x15 9), .int (upc F 1 x15 10), .int (upc F 1 x15 11), .int (upc F 1 x15 12), .int (upc F 1 x15 13), .int (upc F 1 x15 14), .int (upc F 1 x15 15), .int (upc F 1 x15 16), .int (upc F 1 x15 17), .int (upc F 1 x15 18)])), (p9, .inr (1, [.ref q9, .int (nI cn)]))] := hD
    refine lv_goto (tgt := 270) hx hb d_C_execute_222 rfl ?_
    have hP9 := hP.sub (ws' := [(h0, .inr (2, oD (upc (upc (upc F 1 x15) 2 (1 : Int32)) 4 (wA r1)) r9 k9)), (r9, .inl (cr, 8, .inl rg)), (k9, .inl (ck, 32, .inl cd)), (p9, .inr (1, [.ref q9, .int (nI cn)])), (q9, .inl (cp, 64, .inl f))]) [3, 0, 1, 4, 2] rfl
    have hD9 := hD.sub (ws' := [(h0, .inr (2, oD (upc (upc (upc F 1 x15) 2 (1 : Int32)) 4 (wA r1)) r9 k9)), (r9, .inl (cr, 8, .inl rg)), (k9, .inl (ck, 32, .inl cd)), (p9, .inr (1, [.ref q9, .int (nI cn)])), (q9, .inl (cp, 64, .inl f))]) [3, 0, 1, 4, 2] (by decide) rfl
    have hK9 := hK.sub (tys' := [(cr, .int), (ck, .int), (cp, .int)]) [0, 1, 2] rfl
    refine W.widen (k := 0) (n := 0) (Nat.le_of_ble_eq_true rfl) (Nat.le_of_ble_eq_true rfl) ?_
    exact W.vret hx hb hr (fun t ht hW => ⟨⟨(upc (upc (upc F 1 x15) 2 (1 : Int32)) 4 (wA r1), rg, cd), rfl, ⟨(modI_4 (modI_agr (modI_1 hm hr4) ⟨rfl, rfl, rfl, rfl⟩) (Or.inr (reg_nI (wA_nI _) (in_A hr2 (Or.inr (Or.inr (Or.inl hs14))))))), (by rw [← hSP, s_C_execute_D]; try (rw [← hr2E, bnd_eq]); try (rw [← hr4E, bnd_eq]); try (rw [if_neg (by rw [hs14]; decide)]); try (rw [if_neg (by rw [hs14]; decide)]); try (rw [if_neg (by rw [hs14]; decide)]); try (rw [if_neg (by rw [hs14]; decide)]); try (rw [if_neg (by rw [hs14]; decide)]); try (rw [if_neg (by rw [hs14]; decide)]); try (rw [if_neg (by rw [hs14]; decide)]); try (rw [if_neg (by rw [hs14]; decide)]); try (rw [if_neg (by rw [hs14]; decide)]); try (rw [if_pos hs14]); all_goals rfl)⟩, by rw [ht]; exact hP9, va_K.moved hW.alike hK9, hD9⟩, hS.F ht⟩) hS.2.2 d_C_execute_270
  · refine lv_tableIn (off := 190) (tgt := 225) hx hb d_C_execute_35 (by rw [hs14]; decide) (by rw [hs14]; decide) (by rw [hs14]; decide) rfl ?_
    refine lv_aload_n hx hb d_C_execute_225 rfl (lv_at hl 4 rfl) ?_
    refine lv_iconst (v := 2) hx hb d_C_execute_226 (by decide) ?_
    refine va_put (D := (dC, dI)) (ci := 2) (v := .int 2) (ty := .int) (C := "VotedTriple$VotedModule") (T := F_D) (N := 19) hx hb hw in_D ft_D tyok_D nm_D hown hK hP hD hS 3 rfl rfl 2 (by decide) (hw _ k_82) (fun _ h9 => h9) rfl (by decide +kernel) rfl rfl (Nat.le_of_ble_eq_true rfl) d_C_execute_227 (fun H locs hP hD hS => ?_)
    replace hP : va_P (dC, dI) classes [(r9, .inl (cr, 8, .inl rg)), (k9, .inl (ck, 32, .inl cd)), (q9, .inl (cp, 64, .inl f)), (h0, .inr (2, [.ref r9, .int (upc F 1 x15 1), .int 2, .int (upc F 1 x15 3), .int (upc F 1 x15 4), .int (upc F 1 x15 5), .int (upc F 1 x15 6), .ref k9, .int (upc F 1 x15 8), .int (upc F 1 x15 9), .int (upc F 1 x15 10), .int (upc F 1 x15 11), .int (upc F 1 x15 12), .int (upc F 1 x15 13), .int (upc F 1 x15 14), .int (upc F 1 x15 15), .int (upc F 1 x15 16), .int (upc F 1 x15 17), .int (upc F 1 x15 18)])), (p9, .inr (1, [.ref q9, .int (nI cn)]))] H := hP
    replace hD : va_D A [(r9, .inl (cr, 8, .inl rg)), (k9, .inl (ck, 32, .inl cd)), (q9, .inl (cp, 64, .inl f)), (h0, .inr (2, [.ref r9, .int (upc F 1 x15 1), .int 2, .int (upc F 1 x15 3), .int (upc F 1 x15 4), .int (upc F 1 x15 5), .int (upc F 1 x15 6), .ref k9, .int (upc F 1 x15 8), .int (upc F 1 x15 9), .int (upc F 1 x15 10), .int (upc F 1 x15 11), .int (upc F 1 x15 12), .int (upc F 1 x15 13), .int (upc F 1 x15 14), .int (upc F 1 x15 15), .int (upc F 1 x15 16), .int (upc F 1 x15 17), .int (upc F 1 x15 18)])), (p9, .inr (1, [.ref q9, .int (nI cn)]))] := hD
    refine lv_aload_n hx hb d_C_execute_230 rfl (lv_at hl 4 rfl) ?_
    refine lv_aload_n hx hb d_C_execute_231 rfl (lv_at hl 4 rfl) ?_
    refine va_get (D := (dC, dI)) (ci := 2) (v := .ref r9) (C := "VotedTriple$VotedModule") (T := F_D) (N := 19) hx hb hw in_D hown hK hP 3 rfl rfl 0 (by decide) (hw _ k_70) (fun _ h9 => h9) rfl d_C_execute_232 ?_
    refine lv_iload_n hx hb d_C_execute_235 rfl (lv_at hl 2 rfl) ?_
    refine va_iald hx hb hK hP 0 0 rfl rfl (reg_in (wA_nI _) (in_A hr2 (Or.inr (Or.inr (Or.inr (hs14)))))) d_C_execute_236 ?_
    refine va_put (D := (dC, dI)) (ci := 2) (v := .int (rg (Int32.toNatClampNeg (wA r1)))) (ty := .int) (C := "VotedTriple$VotedModule") (T := F_D) (N := 19) hx hb hw in_D ft_D tyok_D nm_D hown hK hP hD hS 3 rfl rfl 3 (by decide) (hw _ k_86) (fun _ h9 => h9) rfl (by decide +kernel) rfl rfl (Nat.le_of_ble_eq_true rfl) d_C_execute_237 (fun H locs hP hD hS => ?_)
    replace hP : va_P (dC, dI) classes [(r9, .inl (cr, 8, .inl rg)), (k9, .inl (ck, 32, .inl cd)), (q9, .inl (cp, 64, .inl f)), (h0, .inr (2, [.ref r9, .int (upc F 1 x15 1), .int 2, .int (rg (Int32.toNatClampNeg (wA r1))), .int (upc F 1 x15 4), .int (upc F 1 x15 5), .int (upc F 1 x15 6), .ref k9, .int (upc F 1 x15 8), .int (upc F 1 x15 9), .int (upc F 1 x15 10), .int (upc F 1 x15 11), .int (upc F 1 x15 12), .int (upc F 1 x15 13), .int (upc F 1 x15 14), .int (upc F 1 x15 15), .int (upc F 1 x15 16), .int (upc F 1 x15 17), .int (upc F 1 x15 18)])), (p9, .inr (1, [.ref q9, .int (nI cn)]))] H := hP
    replace hD : va_D A [(r9, .inl (cr, 8, .inl rg)), (k9, .inl (ck, 32, .inl cd)), (q9, .inl (cp, 64, .inl f)), (h0, .inr (2, [.ref r9, .int (upc F 1 x15 1), .int 2, .int (rg (Int32.toNatClampNeg (wA r1))), .int (upc F 1 x15 4), .int (upc F 1 x15 5), .int (upc F 1 x15 6), .ref k9, .int (upc F 1 x15 8), .int (upc F 1 x15 9), .int (upc F 1 x15 10), .int (upc F 1 x15 11), .int (upc F 1 x15 12), .int (upc F 1 x15 13), .int (upc F 1 x15 14), .int (upc F 1 x15 15), .int (upc F 1 x15 16), .int (upc F 1 x15 17), .int (upc F 1 x15 18)])), (p9, .inr (1, [.ref q9, .int (nI cn)]))] := hD
    refine lv_goto (tgt := 270) hx hb d_C_execute_240 rfl ?_
    have hP9 := hP.sub (ws' := [(h0, .inr (2, oD (upc (upc (upc F 1 x15) 2 (2 : Int32)) 3 (rg (Int32.toNatClampNeg (wA r1)))) r9 k9)), (r9, .inl (cr, 8, .inl rg)), (k9, .inl (ck, 32, .inl cd)), (p9, .inr (1, [.ref q9, .int (nI cn)])), (q9, .inl (cp, 64, .inl f))]) [3, 0, 1, 4, 2] rfl
    have hD9 := hD.sub (ws' := [(h0, .inr (2, oD (upc (upc (upc F 1 x15) 2 (2 : Int32)) 3 (rg (Int32.toNatClampNeg (wA r1)))) r9 k9)), (r9, .inl (cr, 8, .inl rg)), (k9, .inl (ck, 32, .inl cd)), (p9, .inr (1, [.ref q9, .int (nI cn)])), (q9, .inl (cp, 64, .inl f))]) [3, 0, 1, 4, 2] (by decide) rfl
    have hK9 := hK.sub (tys' := [(cr, .int), (ck, .int), (cp, .int)]) [0, 1, 2] rfl
    refine W.widen (k := 0) (n := 0) (Nat.le_of_ble_eq_true rfl) (Nat.le_of_ble_eq_true rfl) ?_
    exact W.vret hx hb hr (fun t ht hW => ⟨⟨(upc (upc (upc F 1 x15) 2 (2 : Int32)) 3 (rg (Int32.toNatClampNeg (wA r1))), rg, cd), rfl, ⟨(modI_agr (modI_1 hm hr4) ⟨rfl, rfl, rfl, rfl⟩), (by rw [← hSP, s_C_execute_D]; try (rw [← hr2E, bnd_eq]); try (rw [← hr4E, bnd_eq]); try (rw [if_neg (by rw [hs14]; decide)]); try (rw [if_neg (by rw [hs14]; decide)]); try (rw [if_neg (by rw [hs14]; decide)]); try (rw [if_neg (by rw [hs14]; decide)]); try (rw [if_neg (by rw [hs14]; decide)]); try (rw [if_neg (by rw [hs14]; decide)]); try (rw [if_neg (by rw [hs14]; decide)]); try (rw [if_neg (by rw [hs14]; decide)]); try (rw [if_neg (by rw [hs14]; decide)]); try (rw [if_neg (by rw [hs14]; decide)]); try (rw [if_pos hs14]); all_goals rfl)⟩, by rw [ht]; exact hP9, va_K.moved hW.alike hK9, hD9⟩, hS.F ht⟩) hS.2.2 d_C_execute_270
  · exact absurd (isIn_out hs14) (by rw [hr2]; decide)
