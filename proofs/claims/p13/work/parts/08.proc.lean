set_option maxHeartbeats 4000000 in
set_option maxRecDepth 100000 in
theorem c_C_wishNothing_D (l : Launch) (dC : Nat → ClassId) (dI : Nat → Nat → Nat) (h0 r9 k9 : Nat) (F : Nat → Int32) (sz : Nat) : Met l y_C_wishNothing (tbw y_C_wishNothing b_C_wishNothing 1 none) ({ frames := 0, cells := 0, slots := 0, locals := 0 }) (va_Pc [.ref h0] (fun U => U.heap.size = sz ∧ va_P (dC, dI) classes [(h0, .inr (2, oD F r9 k9))] U.heap ∧ va_K (dC, dI) classes [] U ∧ va_D (fun _ => True) [(h0, .inr (2, oD F r9 k9))])) (va_Qv (fun (u9 : Unit) => match u9 with | _ => True) (fun (u9 : Unit) t => match u9 with | _ => va_P (dC, dI) classes [(h0, .inr (2, oD (clW F) r9 k9))] t.heap ∧ va_K (dC, dI) classes [] t ∧ va_D (va_A [(h0, .inr (2, oD F r9 k9))] sz) [(h0, .inr (2, oD (clW F) r9 k9))]) (va_A [(h0, .inr (2, oD F r9 k9))] sz)) 0 0 (va_A [(h0, .inr (2, oD F r9 k9))] sz) := by
  refine Met.ofW (cc := b_C_wishNothing) (maxL := 1) (ret := none) (by decide) rfl ?_
  intro p e s m args below meth c s₁ B hml hv
  obtain ⟨rfl, hsz, hP, hK, hD0⟩ := hv
  have hx := B.exec
  have hb := B.bytes
  have hr := B.returns
  have hts := atoms_spec (ws := (tbw y_C_wishNothing b_C_wishNothing 1 none)) B.pre
  have hw : ∀ z9 ∈ tb, z9.before ([.ref h0] : List Value).toArray s = true := fun z9 h => hts z9 (List.mem_cons_of_mem _ h)
  have hown : s.vm.findClass "VotedTriple$Processor" = some m.cls := findClass_of_methodNamed B.named
  have hlocks := B.notSynchronized
  subst hsz
  replace hD := hD0.self (sz := s.heap.size)
  generalize hAe : va_A [(h0, .inr (2, oD F r9 k9))] s.heap.size = A at hD ⊢
  have hA : ∀ q : Nat, s.heap.size ≤ q → A q := fun q h => by rw [← hAe]; exact Or.inr h
  have hS : va_S A s.heap s.heap [] := va_S.rf
  replace hl := lv_entry ([.ref h0]) (n := 1) (Nat.le_of_ble_eq_true rfl)
  rw [lg_entry_eq]
  generalize (lg_sl ([.ref h0]) ++ List.replicate (1 - (lg_sl ([.ref h0])).length) Slot.unset).toArray = ls at hl ⊢
  replace hl : lv_has ls 1 [(0, .ref h0)] := hl
  refine lv_aload_n hx hb d_C_wishNothing_0 rfl (lv_at hl 0 rfl) ?_
  refine lv_iconst (v := 0) hx hb d_C_wishNothing_1 (by decide) ?_
  refine va_put (D := (dC, dI)) (ci := 2) (v := .int 0) (ty := .int) (C := "VotedTriple$VotedModule") (T := F_D) (N := 19) hx hb hw in_D ft_D tyok_D nm_D hown hK hP hD hS 0 rfl rfl 2 (by decide) (hw _ k_82) (fun _ h9 => h9) rfl (by decide +kernel) rfl rfl (Nat.le_of_ble_eq_true rfl) d_C_wishNothing_2 (fun H locs hP hD hS => ?_)
  replace hP : va_P (dC, dI) classes [(h0, .inr (2, [.ref r9, .int (F 1), .int 0, .int (F 3), .int (F 4), .int (F 5), .int (F 6), .ref k9, .int (F 8), .int (F 9), .int (F 10), .int (F 11), .int (F 12), .int (F 13), .int (F 14), .int (F 15), .int (F 16), .int (F 17), .int (F 18)]))] H := hP
  replace hD : va_D A [(h0, .inr (2, [.ref r9, .int (F 1), .int 0, .int (F 3), .int (F 4), .int (F 5), .int (F 6), .ref k9, .int (F 8), .int (F 9), .int (F 10), .int (F 11), .int (F 12), .int (F 13), .int (F 14), .int (F 15), .int (F 16), .int (F 17), .int (F 18)]))] := hD
  refine lv_aload_n hx hb d_C_wishNothing_5 rfl (lv_at hl 0 rfl) ?_
  refine lv_iconst (v := 0) hx hb d_C_wishNothing_6 (by decide) ?_
  refine va_put (D := (dC, dI)) (ci := 2) (v := .int 0) (ty := .int) (C := "VotedTriple$VotedModule") (T := F_D) (N := 19) hx hb hw in_D ft_D tyok_D nm_D hown hK hP hD hS 0 rfl rfl 3 (by decide) (hw _ k_86) (fun _ h9 => h9) rfl (by decide +kernel) rfl rfl (Nat.le_of_ble_eq_true rfl) d_C_wishNothing_7 (fun H locs hP hD hS => ?_)
  replace hP : va_P (dC, dI) classes [(h0, .inr (2, [.ref r9, .int (F 1), .int 0, .int 0, .int (F 4), .int (F 5), .int (F 6), .ref k9, .int (F 8), .int (F 9), .int (F 10), .int (F 11), .int (F 12), .int (F 13), .int (F 14), .int (F 15), .int (F 16), .int (F 17), .int (F 18)]))] H := hP
  replace hD : va_D A [(h0, .inr (2, [.ref r9, .int (F 1), .int 0, .int 0, .int (F 4), .int (F 5), .int (F 6), .ref k9, .int (F 8), .int (F 9), .int (F 10), .int (F 11), .int (F 12), .int (F 13), .int (F 14), .int (F 15), .int (F 16), .int (F 17), .int (F 18)]))] := hD
  have hP9 := hP.sub (ws' := [(h0, .inr (2, oD (clW F) r9 k9))]) [0] rfl
  have hD9 := hD.sub (ws' := [(h0, .inr (2, oD (clW F) r9 k9))]) [0] (by decide) rfl
  have hK9 := hK.sub (tys' := []) [] rfl
  refine W.widen (k := 0) (n := 0) (Nat.le_of_ble_eq_true rfl) (Nat.le_of_ble_eq_true rfl) ?_
  exact W.vret hx hb hr (fun t ht hW => ⟨⟨(), rfl, trivial, by rw [ht]; exact hP9, va_K.moved hW.alike hK9, hD9⟩, hS.F ht⟩) hS.2.2 d_C_wishNothing_10

set_option maxHeartbeats 4000000 in
set_option maxRecDepth 100000 in
theorem c_C_clearEffects_D (l : Launch) (dC : Nat → ClassId) (dI : Nat → Nat → Nat) (h0 r9 k9 : Nat) (F : Nat → Int32) (sz : Nat) : Met l y_C_clearEffects (tbw y_C_clearEffects b_C_clearEffects 1 none) ({ frames := 1, cells := 0, slots := 0, locals := 20 }) (va_Pc [.ref h0] (fun U => U.heap.size = sz ∧ va_P (dC, dI) classes [(h0, .inr (2, oD F r9 k9))] U.heap ∧ va_K (dC, dI) classes [] U ∧ va_D (fun _ => True) [(h0, .inr (2, oD F r9 k9))])) (va_Qv (fun (u9 : Unit) => match u9 with | _ => True) (fun (u9 : Unit) t => match u9 with | _ => va_P (dC, dI) classes [(h0, .inr (2, oD (clE F) r9 k9))] t.heap ∧ va_K (dC, dI) classes [] t ∧ va_D (va_A [(h0, .inr (2, oD F r9 k9))] sz) [(h0, .inr (2, oD (clE F) r9 k9))]) (va_A [(h0, .inr (2, oD F r9 k9))] sz)) 0 0 (va_A [(h0, .inr (2, oD F r9 k9))] sz) := by
  refine Met.ofW (cc := b_C_clearEffects) (maxL := 1) (ret := none) (by decide) rfl ?_
  intro p e s m args below meth c s₁ B hml hv
  obtain ⟨rfl, hsz, hP, hK, hD0⟩ := hv
  have hx := B.exec
  have hb := B.bytes
  have hr := B.returns
  have hts := atoms_spec (ws := (tbw y_C_clearEffects b_C_clearEffects 1 none)) B.pre
  have hw : ∀ z9 ∈ tb, z9.before ([.ref h0] : List Value).toArray s = true := fun z9 h => hts z9 (List.mem_cons_of_mem _ h)
  have hown : s.vm.findClass "VotedTriple$Processor" = some m.cls := findClass_of_methodNamed B.named
  have hlocks := B.notSynchronized
  subst hsz
  replace hD := hD0.self (sz := s.heap.size)
  generalize hAe : va_A [(h0, .inr (2, oD F r9 k9))] s.heap.size = A at hD ⊢
  have hA : ∀ q : Nat, s.heap.size ≤ q → A q := fun q h => by rw [← hAe]; exact Or.inr h
  have hS : va_S A s.heap s.heap [] := va_S.rf
  replace hl := lv_entry ([.ref h0]) (n := 1) (Nat.le_of_ble_eq_true rfl)
  rw [lg_entry_eq]
  generalize (lg_sl ([.ref h0]) ++ List.replicate (1 - (lg_sl ([.ref h0])).length) Slot.unset).toArray = ls at hl ⊢
  replace hl : lv_has ls 1 [(0, .ref h0)] := hl
  refine lv_aload_n hx hb d_C_clearEffects_0 rfl (lv_at hl 0 rfl) ?_
  replace hPc := hP.sub (ws' := [(h0, .inr (2, oD F r9 k9))]) [0] rfl
  replace hKc := hK.sub (tys' := []) [] rfl
  replace hDc := hD.sub (ws' := [(h0, .inr (2, oD F r9 k9))]) [0] (by decide) rfl
  replace hFc := va_free (wc := [(h0, .inr (2, oD F r9 k9))]) hD hS hA [0] rfl
  refine va_callv (va_runU (C := "VotedTriple$VotedModule") (As := []) (rest := []) ⟨hx, hb, hml, hown, hw⟩ (c_C_wishNothing_D l dC dI h0 r9 k9 F s.heap.size) (va_cwU (C := "VotedTriple$VotedModule") (owner := "VotedTriple$Processor") (x := ⟨"VotedTriple$Processor", "wishNothing", "()V"⟩) (y := y_C_wishNothing) 0 hw (gd_l (List.forall_mem_cons.mpr ⟨k_301, List.forall_mem_cons.mpr ⟨k_303, List.forall_mem_cons.mpr ⟨k_305, List.forall_mem_cons.mpr ⟨k_302, List.forall_mem_cons.mpr ⟨k_3, fun _ h => absurd h List.not_mem_nil⟩⟩⟩⟩⟩) (gd (k_306))) rfl rfl rfl rfl (by decide +kernel) ⟨Nat.le_of_ble_eq_true rfl, Nat.le_of_ble_eq_true rfl⟩) ⟨fun a U g mk q => by obtain ⟨q0, q1, qP, qK, qD⟩ := q; exact ⟨q0, q1, qP, va_K.moved (u := U) (U := U.calling g mk a) (Vm.Alike.refl U.vm) qK, qD⟩, va_recv hK hP rfl (q0 := 0) rfl, fun U hU hW => ⟨rfl, by rw [hU], by rw [hU]; exact hPc, va_K.moved hW.alike hKc, hDc.weaken (fun _ _ _ _ => trivial)⟩⟩ rfl rfl hl.1 rfl (lv_room (Nat.le_of_ble_eq_true rfl)) d_C_clearEffects_1 ⟨Nat.le_of_ble_eq_true rfl, Nat.le_of_ble_eq_true rfl⟩) hS (fun q _ h => hFc q h) hFc (fun u9 t H1 locs ht hvm hr2 hB hz1 hk1 hS => ?_)
  obtain ⟨hP1, hK1, hD1⟩ := hB
  rw [ht] at hP1
  replace hK1 := va_K.moved hvm.symm hK1
  try dsimp only at hr2 hP1 hK1 hD1
  obtain ⟨hPz, hDz⟩ := va_join (wr := []) (w1 := [(h0, .inr (2, oD (clW F) r9 k9))]) hP hD [0] [] rfl rfl (by decide) (by decide) hk1 hFc hP1 hD1
  clear hP hD hPc hDc hP1 hD1 hFc
  have hP := hPz
  have hD := hDz
  clear hPz hDz
  replace hK := (hK.sub (tys' := []) [] rfl).app hK1
  clear hK1 hKc
  generalize H1 = H at hP hS ⊢
  replace hP : va_P (dC, dI) classes [(h0, .inr (2, oD (clW F) r9 k9))] H := hP
  replace hD : va_D A [(h0, .inr (2, oD (clW F) r9 k9))] := hD
  replace hK : va_K (dC, dI) classes [] s := hK
  refine W.widen (k := 0) (n := 0) (Nat.le_of_ble_eq_true rfl) (Nat.le_of_ble_eq_true rfl) ?_
  refine lv_aload_n hx hb d_C_clearEffects_4 rfl (lv_at hl 0 rfl) ?_
  refine lv_iconst (v := (-1)) hx hb d_C_clearEffects_5 (by decide) ?_
  refine va_put (D := (dC, dI)) (ci := 2) (v := .int (-1)) (ty := .int) (C := "VotedTriple$VotedModule") (T := F_D) (N := 19) hx hb hw in_D ft_D tyok_D nm_D hown hK hP hD hS 0 rfl rfl 4 (by decide) (hw _ k_90) (fun _ h9 => h9) rfl (by decide +kernel) rfl rfl (Nat.le_of_ble_eq_true rfl) d_C_clearEffects_6 (fun H locs hP hD hS => ?_)
  replace hP : va_P (dC, dI) classes [(h0, .inr (2, [.ref r9, .int (clW F 1), .int (clW F 2), .int (clW F 3), .int (-1), .int (clW F 5), .int (clW F 6), .ref k9, .int (clW F 8), .int (clW F 9), .int (clW F 10), .int (clW F 11), .int (clW F 12), .int (clW F 13), .int (clW F 14), .int (clW F 15), .int (clW F 16), .int (clW F 17), .int (clW F 18)]))] H := hP
  replace hD : va_D A [(h0, .inr (2, [.ref r9, .int (clW F 1), .int (clW F 2), .int (clW F 3), .int (-1), .int (clW F 5), .int (clW F 6), .ref k9, .int (clW F 8), .int (clW F 9), .int (clW F 10), .int (clW F 11), .int (clW F 12), .int (clW F 13), .int (clW F 14), .int (clW F 15), .int (clW F 16), .int (clW F 17), .int (clW F 18)]))] := hD
  refine lv_aload_n hx hb d_C_clearEffects_9 rfl (lv_at hl 0 rfl) ?_
  refine lv_iconst (v := (-1)) hx hb d_C_clearEffects_10 (by decide) ?_
  refine va_put (D := (dC, dI)) (ci := 2) (v := .int (-1)) (ty := .int) (C := "VotedTriple$VotedModule") (T := F_D) (N := 19) hx hb hw in_D ft_D tyok_D nm_D hown hK hP hD hS 0 rfl rfl 5 (by decide) (hw _ k_91) (fun _ h9 => h9) rfl (by decide +kernel) rfl rfl (Nat.le_of_ble_eq_true rfl) d_C_clearEffects_11 (fun H locs hP hD hS => ?_)
  replace hP : va_P (dC, dI) classes [(h0, .inr (2, [.ref r9, .int (clW F 1), .int (clW F 2), .int (clW F 3), .int (-1), .int (-1), .int (clW F 6), .ref k9, .int (clW F 8), .int (clW F 9), .int (clW F 10), .int (clW F 11), .int (clW F 12), .int (clW F 13), .int (clW F 14), .int (clW F 15), .int (clW F 16), .int (clW F 17), .int (clW F 18)]))] H := hP
  replace hD : va_D A [(h0, .inr (2, [.ref r9, .int (clW F 1), .int (clW F 2), .int (clW F 3), .int (-1), .int (-1), .int (clW F 6), .ref k9, .int (clW F 8), .int (clW F 9), .int (clW F 10), .int (clW F 11), .int (clW F 12), .int (clW F 13), .int (clW F 14), .int (clW F 15), .int (clW F 16), .int (clW F 17), .int (clW F 18)]))] := hD
  have hP9 := hP.sub (ws' := [(h0, .inr (2, oD (clE F) r9 k9))]) [0] rfl
  have hD9 := hD.sub (ws' := [(h0, .inr (2, oD (clE F) r9 k9))]) [0] (by decide) rfl
  have hK9 := hK.sub (tys' := []) [] rfl
  refine W.widen (k := 0) (n := 0) (Nat.le_of_ble_eq_true rfl) (Nat.le_of_ble_eq_true rfl) ?_
  exact W.vret hx hb hr (fun t ht hW => ⟨⟨(), rfl, trivial, by rw [ht]; exact hP9, va_K.moved hW.alike hK9, hD9⟩, hS.F ht⟩) hS.2.2 d_C_clearEffects_14

set_option maxHeartbeats 4000000 in
set_option maxRecDepth 100000 in
theorem c_C_wishNothing_E (l : Launch) (dC : Nat → ClassId) (dI : Nat → Nat → Nat) (h0 r9 o9 w9 : Nat) (F : Nat → Int32) (sz : Nat) : Met l y_C_wishNothing (tbw y_C_wishNothing b_C_wishNothing 1 none) ({ frames := 0, cells := 0, slots := 0, locals := 0 }) (va_Pc [.ref h0] (fun U => U.heap.size = sz ∧ va_P (dC, dI) classes [(h0, .inr (3, oE F r9 o9 w9))] U.heap ∧ va_K (dC, dI) classes [] U ∧ va_D (fun _ => True) [(h0, .inr (3, oE F r9 o9 w9))])) (va_Qv (fun (u9 : Unit) => match u9 with | _ => True) (fun (u9 : Unit) t => match u9 with | _ => va_P (dC, dI) classes [(h0, .inr (3, oE (clW F) r9 o9 w9))] t.heap ∧ va_K (dC, dI) classes [] t ∧ va_D (va_A [(h0, .inr (3, oE F r9 o9 w9))] sz) [(h0, .inr (3, oE (clW F) r9 o9 w9))]) (va_A [(h0, .inr (3, oE F r9 o9 w9))] sz)) 0 0 (va_A [(h0, .inr (3, oE F r9 o9 w9))] sz) := by
  refine Met.ofW (cc := b_C_wishNothing) (maxL := 1) (ret := none) (by decide) rfl ?_
  intro p e s m args below meth c s₁ B hml hv
  obtain ⟨rfl, hsz, hP, hK, hD0⟩ := hv
  have hx := B.exec
  have hb := B.bytes
  have hr := B.returns
  have hts := atoms_spec (ws := (tbw y_C_wishNothing b_C_wishNothing 1 none)) B.pre
  have hw : ∀ z9 ∈ tb, z9.before ([.ref h0] : List Value).toArray s = true := fun z9 h => hts z9 (List.mem_cons_of_mem _ h)
  have hown : s.vm.findClass "VotedTriple$Processor" = some m.cls := findClass_of_methodNamed B.named
  have hlocks := B.notSynchronized
  subst hsz
  replace hD := hD0.self (sz := s.heap.size)
  generalize hAe : va_A [(h0, .inr (3, oE F r9 o9 w9))] s.heap.size = A at hD ⊢
  have hA : ∀ q : Nat, s.heap.size ≤ q → A q := fun q h => by rw [← hAe]; exact Or.inr h
  have hS : va_S A s.heap s.heap [] := va_S.rf
  replace hl := lv_entry ([.ref h0]) (n := 1) (Nat.le_of_ble_eq_true rfl)
  rw [lg_entry_eq]
  generalize (lg_sl ([.ref h0]) ++ List.replicate (1 - (lg_sl ([.ref h0])).length) Slot.unset).toArray = ls at hl ⊢
  replace hl : lv_has ls 1 [(0, .ref h0)] := hl
  refine lv_aload_n hx hb d_C_wishNothing_0 rfl (lv_at hl 0 rfl) ?_
  refine lv_iconst (v := 0) hx hb d_C_wishNothing_1 (by decide) ?_
  refine va_put (D := (dC, dI)) (ci := 3) (v := .int 0) (ty := .int) (C := "VotedTriple$PerfectOne") (T := F_E) (N := 10) hx hb hw in_E ft_E tyok_E nm_E hown hK hP hD hS 0 rfl rfl 2 (by decide) (hw _ k_82) (fun _ h9 => h9) rfl (by decide +kernel) rfl rfl (Nat.le_of_ble_eq_true rfl) d_C_wishNothing_2 (fun H locs hP hD hS => ?_)
  replace hP : va_P (dC, dI) classes [(h0, .inr (3, [.ref r9, .int (F 1), .int 0, .int (F 3), .int (F 4), .int (F 5), .int (F 6), .ref o9, .ref w9, .int (F 9)]))] H := hP
  replace hD : va_D A [(h0, .inr (3, [.ref r9, .int (F 1), .int 0, .int (F 3), .int (F 4), .int (F 5), .int (F 6), .ref o9, .ref w9, .int (F 9)]))] := hD
  refine lv_aload_n hx hb d_C_wishNothing_5 rfl (lv_at hl 0 rfl) ?_
  refine lv_iconst (v := 0) hx hb d_C_wishNothing_6 (by decide) ?_
  refine va_put (D := (dC, dI)) (ci := 3) (v := .int 0) (ty := .int) (C := "VotedTriple$PerfectOne") (T := F_E) (N := 10) hx hb hw in_E ft_E tyok_E nm_E hown hK hP hD hS 0 rfl rfl 3 (by decide) (hw _ k_86) (fun _ h9 => h9) rfl (by decide +kernel) rfl rfl (Nat.le_of_ble_eq_true rfl) d_C_wishNothing_7 (fun H locs hP hD hS => ?_)
  replace hP : va_P (dC, dI) classes [(h0, .inr (3, [.ref r9, .int (F 1), .int 0, .int 0, .int (F 4), .int (F 5), .int (F 6), .ref o9, .ref w9, .int (F 9)]))] H := hP
  replace hD : va_D A [(h0, .inr (3, [.ref r9, .int (F 1), .int 0, .int 0, .int (F 4), .int (F 5), .int (F 6), .ref o9, .ref w9, .int (F 9)]))] := hD
  have hP9 := hP.sub (ws' := [(h0, .inr (3, oE (clW F) r9 o9 w9))]) [0] rfl
  have hD9 := hD.sub (ws' := [(h0, .inr (3, oE (clW F) r9 o9 w9))]) [0] (by decide) rfl
  have hK9 := hK.sub (tys' := []) [] rfl
  refine W.widen (k := 0) (n := 0) (Nat.le_of_ble_eq_true rfl) (Nat.le_of_ble_eq_true rfl) ?_
  exact W.vret hx hb hr (fun t ht hW => ⟨⟨(), rfl, trivial, by rw [ht]; exact hP9, va_K.moved hW.alike hK9, hD9⟩, hS.F ht⟩) hS.2.2 d_C_wishNothing_10

set_option maxHeartbeats 4000000 in
set_option maxRecDepth 100000 in
theorem c_C_clearEffects_E (l : Launch) (dC : Nat → ClassId) (dI : Nat → Nat → Nat) (h0 r9 o9 w9 : Nat) (F : Nat → Int32) (sz : Nat) : Met l y_C_clearEffects (tbw y_C_clearEffects b_C_clearEffects 1 none) ({ frames := 1, cells := 0, slots := 0, locals := 20 }) (va_Pc [.ref h0] (fun U => U.heap.size = sz ∧ va_P (dC, dI) classes [(h0, .inr (3, oE F r9 o9 w9))] U.heap ∧ va_K (dC, dI) classes [] U ∧ va_D (fun _ => True) [(h0, .inr (3, oE F r9 o9 w9))])) (va_Qv (fun (u9 : Unit) => match u9 with | _ => True) (fun (u9 : Unit) t => match u9 with | _ => va_P (dC, dI) classes [(h0, .inr (3, oE (clE F) r9 o9 w9))] t.heap ∧ va_K (dC, dI) classes [] t ∧ va_D (va_A [(h0, .inr (3, oE F r9 o9 w9))] sz) [(h0, .inr (3, oE (clE F) r9 o9 w9))]) (va_A [(h0, .inr (3, oE F r9 o9 w9))] sz)) 0 0 (va_A [(h0, .inr (3, oE F r9 o9 w9))] sz) := by
  refine Met.ofW (cc := b_C_clearEffects) (maxL := 1) (ret := none) (by decide) rfl ?_
  intro p e s m args below meth c s₁ B hml hv
  obtain ⟨rfl, hsz, hP, hK, hD0⟩ := hv
  have hx := B.exec
  have hb := B.bytes
  have hr := B.returns
  have hts := atoms_spec (ws := (tbw y_C_clearEffects b_C_clearEffects 1 none)) B.pre
  have hw : ∀ z9 ∈ tb, z9.before ([.ref h0] : List Value).toArray s = true := fun z9 h => hts z9 (List.mem_cons_of_mem _ h)
  have hown : s.vm.findClass "VotedTriple$Processor" = some m.cls := findClass_of_methodNamed B.named
  have hlocks := B.notSynchronized
  subst hsz
  replace hD := hD0.self (sz := s.heap.size)
  generalize hAe : va_A [(h0, .inr (3, oE F r9 o9 w9))] s.heap.size = A at hD ⊢
  have hA : ∀ q : Nat, s.heap.size ≤ q → A q := fun q h => by rw [← hAe]; exact Or.inr h
  have hS : va_S A s.heap s.heap [] := va_S.rf
  replace hl := lv_entry ([.ref h0]) (n := 1) (Nat.le_of_ble_eq_true rfl)
  rw [lg_entry_eq]
  generalize (lg_sl ([.ref h0]) ++ List.replicate (1 - (lg_sl ([.ref h0])).length) Slot.unset).toArray = ls at hl ⊢
  replace hl : lv_has ls 1 [(0, .ref h0)] := hl
  refine lv_aload_n hx hb d_C_clearEffects_0 rfl (lv_at hl 0 rfl) ?_
  replace hPc := hP.sub (ws' := [(h0, .inr (3, oE F r9 o9 w9))]) [0] rfl
  replace hKc := hK.sub (tys' := []) [] rfl
  replace hDc := hD.sub (ws' := [(h0, .inr (3, oE F r9 o9 w9))]) [0] (by decide) rfl
  replace hFc := va_free (wc := [(h0, .inr (3, oE F r9 o9 w9))]) hD hS hA [0] rfl
  refine va_callv (va_runU (C := "VotedTriple$PerfectOne") (As := []) (rest := []) ⟨hx, hb, hml, hown, hw⟩ (c_C_wishNothing_E l dC dI h0 r9 o9 w9 F s.heap.size) (va_cwU (C := "VotedTriple$PerfectOne") (owner := "VotedTriple$Processor") (x := ⟨"VotedTriple$Processor", "wishNothing", "()V"⟩) (y := y_C_wishNothing) 0 hw (gd_l (List.forall_mem_cons.mpr ⟨k_301, List.forall_mem_cons.mpr ⟨k_303, List.forall_mem_cons.mpr ⟨k_304, List.forall_mem_cons.mpr ⟨k_302, List.forall_mem_cons.mpr ⟨k_3, fun _ h => absurd h List.not_mem_nil⟩⟩⟩⟩⟩) (gd (k_306))) rfl rfl rfl rfl (by decide +kernel) ⟨Nat.le_of_ble_eq_true rfl, Nat.le_of_ble_eq_true rfl⟩) ⟨fun a U g mk q => by obtain ⟨q0, q1, qP, qK, qD⟩ := q; exact ⟨q0, q1, qP, va_K.moved (u := U) (U := U.calling g mk a) (Vm.Alike.refl U.vm) qK, qD⟩, va_recv hK hP rfl (q0 := 0) rfl, fun U hU hW => ⟨rfl, by rw [hU], by rw [hU]; exact hPc, va_K.moved hW.alike hKc, hDc.weaken (fun _ _ _ _ => trivial)⟩⟩ rfl rfl hl.1 rfl (lv_room (Nat.le_of_ble_eq_true rfl)) d_C_clearEffects_1 ⟨Nat.le_of_ble_eq_true rfl, Nat.le_of_ble_eq_true rfl⟩) hS (fun q _ h => hFc q h) hFc (fun u9 t H1 locs ht hvm hr2 hB hz1 hk1 hS => ?_)
  obtain ⟨hP1, hK1, hD1⟩ := hB
  rw [ht] at hP1
  replace hK1 := va_K.moved hvm.symm hK1
  try dsimp only at hr2 hP1 hK1 hD1
  obtain ⟨hPz, hDz⟩ := va_join (wr := []) (w1 := [(h0, .inr (3, oE (clW F) r9 o9 w9))]) hP hD [0] [] rfl rfl (by decide) (by decide) hk1 hFc hP1 hD1
  clear hP hD hPc hDc hP1 hD1 hFc
  have hP := hPz
  have hD := hDz
  clear hPz hDz
  replace hK := (hK.sub (tys' := []) [] rfl).app hK1
  clear hK1 hKc
  generalize H1 = H at hP hS ⊢
  replace hP : va_P (dC, dI) classes [(h0, .inr (3, oE (clW F) r9 o9 w9))] H := hP
  replace hD : va_D A [(h0, .inr (3, oE (clW F) r9 o9 w9))] := hD
  replace hK : va_K (dC, dI) classes [] s := hK
  refine W.widen (k := 0) (n := 0) (Nat.le_of_ble_eq_true rfl) (Nat.le_of_ble_eq_true rfl) ?_
  refine lv_aload_n hx hb d_C_clearEffects_4 rfl (lv_at hl 0 rfl) ?_
  refine lv_iconst (v := (-1)) hx hb d_C_clearEffects_5 (by decide) ?_
  refine va_put (D := (dC, dI)) (ci := 3) (v := .int (-1)) (ty := .int) (C := "VotedTriple$PerfectOne") (T := F_E) (N := 10) hx hb hw in_E ft_E tyok_E nm_E hown hK hP hD hS 0 rfl rfl 4 (by decide) (hw _ k_90) (fun _ h9 => h9) rfl (by decide +kernel) rfl rfl (Nat.le_of_ble_eq_true rfl) d_C_clearEffects_6 (fun H locs hP hD hS => ?_)
  replace hP : va_P (dC, dI) classes [(h0, .inr (3, [.ref r9, .int (clW F 1), .int (clW F 2), .int (clW F 3), .int (-1), .int (clW F 5), .int (clW F 6), .ref o9, .ref w9, .int (clW F 9)]))] H := hP
  replace hD : va_D A [(h0, .inr (3, [.ref r9, .int (clW F 1), .int (clW F 2), .int (clW F 3), .int (-1), .int (clW F 5), .int (clW F 6), .ref o9, .ref w9, .int (clW F 9)]))] := hD
  refine lv_aload_n hx hb d_C_clearEffects_9 rfl (lv_at hl 0 rfl) ?_
  refine lv_iconst (v := (-1)) hx hb d_C_clearEffects_10 (by decide) ?_
  refine va_put (D := (dC, dI)) (ci := 3) (v := .int (-1)) (ty := .int) (C := "VotedTriple$PerfectOne") (T := F_E) (N := 10) hx hb hw in_E ft_E tyok_E nm_E hown hK hP hD hS 0 rfl rfl 5 (by decide) (hw _ k_91) (fun _ h9 => h9) rfl (by decide +kernel) rfl rfl (Nat.le_of_ble_eq_true rfl) d_C_clearEffects_11 (fun H locs hP hD hS => ?_)
  replace hP : va_P (dC, dI) classes [(h0, .inr (3, [.ref r9, .int (clW F 1), .int (clW F 2), .int (clW F 3), .int (-1), .int (-1), .int (clW F 6), .ref o9, .ref w9, .int (clW F 9)]))] H := hP
  replace hD : va_D A [(h0, .inr (3, [.ref r9, .int (clW F 1), .int (clW F 2), .int (clW F 3), .int (-1), .int (-1), .int (clW F 6), .ref o9, .ref w9, .int (clW F 9)]))] := hD
  have hP9 := hP.sub (ws' := [(h0, .inr (3, oE (clE F) r9 o9 w9))]) [0] rfl
  have hD9 := hD.sub (ws' := [(h0, .inr (3, oE (clE F) r9 o9 w9))]) [0] (by decide) rfl
  have hK9 := hK.sub (tys' := []) [] rfl
  refine W.widen (k := 0) (n := 0) (Nat.le_of_ble_eq_true rfl) (Nat.le_of_ble_eq_true rfl) ?_
  exact W.vret hx hb hr (fun t ht hW => ⟨⟨(), rfl, trivial, by rw [ht]; exact hP9, va_K.moved hW.alike hK9, hD9⟩, hS.F ht⟩) hS.2.2 d_C_clearEffects_14

set_option maxHeartbeats 4000000 in
set_option maxRecDepth 100000 in
theorem c_C_clearProcessor_D (l : Launch) (dC : Nat → ClassId) (dI : Nat → Nat → Nat) (h0 r9 k9 : Nat) (F : Nat → Int32) (cr : ClassId) (rg : Nat → Int32) (hg : wdI 8 rg) (sz : Nat) : Met l y_C_clearProcessor (tbw y_C_clearProcessor b_C_clearProcessor 2 none) ({ frames := 0, cells := 0, slots := 0, locals := 0 }) (va_Pc [.ref h0] (fun U => U.heap.size = sz ∧ va_P (dC, dI) classes [(h0, .inr (2, oD F r9 k9)), (r9, .inl (cr, 8, .inl rg))] U.heap ∧ va_K (dC, dI) classes [(cr, .int)] U ∧ va_D (fun _ => True) [(h0, .inr (2, oD F r9 k9)), (r9, .inl (cr, 8, .inl rg))])) (va_Qv (fun (u9 : (Nat → Int32)) => match u9 with | g => (wdI 8 g) ∧ (g) = s_C_clearProcessor_D rg) (fun (u9 : (Nat → Int32)) t => match u9 with | g => va_P (dC, dI) classes [(h0, .inr (2, oD (upc F 1 0) r9 k9)), (r9, .inl (cr, 8, .inl g))] t.heap ∧ va_K (dC, dI) classes [(cr, .int)] t ∧ va_D (va_A [(h0, .inr (2, oD F r9 k9)), (r9, .inl (cr, 8, .inl rg))] sz) [(h0, .inr (2, oD (upc F 1 0) r9 k9)), (r9, .inl (cr, 8, .inl g))]) (va_A [(h0, .inr (2, oD F r9 k9)), (r9, .inl (cr, 8, .inl rg))] sz)) 0 0 (va_A [(h0, .inr (2, oD F r9 k9)), (r9, .inl (cr, 8, .inl rg))] sz) := by
  refine Met.ofW (cc := b_C_clearProcessor) (maxL := 2) (ret := none) (by decide) rfl ?_
  intro p e s m args below meth c s₁ B hml hv
  obtain ⟨rfl, hsz, hP, hK, hD0⟩ := hv
  have hx := B.exec
  have hb := B.bytes
  have hr := B.returns
  have hts := atoms_spec (ws := (tbw y_C_clearProcessor b_C_clearProcessor 2 none)) B.pre
  have hw : ∀ z9 ∈ tb, z9.before ([.ref h0] : List Value).toArray s = true := fun z9 h => hts z9 (List.mem_cons_of_mem _ h)
  have hown : s.vm.findClass "VotedTriple$Processor" = some m.cls := findClass_of_methodNamed B.named
  have hlocks := B.notSynchronized
  subst hsz
  replace hD := hD0.self (sz := s.heap.size)
  generalize hAe : va_A [(h0, .inr (2, oD F r9 k9)), (r9, .inl (cr, 8, .inl rg))] s.heap.size = A at hD ⊢
  have hA : ∀ q : Nat, s.heap.size ≤ q → A q := fun q h => by rw [← hAe]; exact Or.inr h
  have hS : va_S A s.heap s.heap [] := va_S.rf
  replace hl := lv_entry ([.ref h0]) (n := 2) (Nat.le_of_ble_eq_true rfl)
  rw [lg_entry_eq]
  generalize (lg_sl ([.ref h0]) ++ List.replicate (2 - (lg_sl ([.ref h0])).length) Slot.unset).toArray = ls at hl ⊢
  replace hl : lv_has ls 2 [(0, .ref h0)] := hl
  generalize hSP : s_C_clearProcessor_D rg = SP
  have cut8 : ∀ (g : Nat → Int32) (ls : Array Slot) (H : Heap) (locs : List Loc), wdI 8 g → SP = s_C_clearProcessor_D_cut8 g →  lv_has ls 2 [(0, .ref h0), (1, .int 8)] → va_P (dC, dI) classes [(h0, .inr (2, oD F r9 k9)), (r9, .inl (cr, 8, .inl g))] H → va_D A [(h0, .inr (2, oD F r9 k9)), (r9, .inl (cr, 8, .inl g))] → va_S A s.heap H locs → W p l e (headSpec (tbw y_C_clearProcessor b_C_clearProcessor 2 none) ({ frames := 0, cells := 0, slots := 0, locals := 0 })).room s m ([.ref h0] : List Value).toArray below meth c H locs 0 0 (MQ below (va_Qv (fun (u9 : (Nat → Int32)) => match u9 with | g => (wdI 8 g) ∧ (g) = SP) (fun (u9 : (Nat → Int32)) t => match u9 with | g => va_P (dC, dI) classes [(h0, .inr (2, oD (upc F 1 0) r9 k9)), (r9, .inl (cr, 8, .inl g))] t.heap ∧ va_K (dC, dI) classes [(cr, .int)] t ∧ va_D A [(h0, .inr (2, oD (upc F 1 0) r9 k9)), (r9, .inl (cr, 8, .inl g))]) A) ([.ref h0] : List Value).toArray s 0 0 A) (F0 m 2 ls []) := by
    intro g ls H locs hg hSq0 hl hP hD hS
    refine lv_iload_n hx hb d_C_clearProcessor_2 rfl (lv_at hl 1 rfl) ?_
    refine lv_bipush (v := 8) hx hb d_C_clearProcessor_3 (by decide) ?_
    refine lv_icmp_ge (tgt := 21) hx hb d_C_clearProcessor_5 rfl (fun hc1 => ?_) (fun hc1 => by first | exact absurd (by decide) hc1 | exact absurd hc1 (by decide))
    refine lv_aload_n hx hb d_C_clearProcessor_21 rfl (lv_at hl 0 rfl) ?_
    refine lv_iconst (v := 0) hx hb d_C_clearProcessor_22 (by decide) ?_
    refine va_put (D := (dC, dI)) (ci := 2) (v := .int 0) (ty := .int) (C := "VotedTriple$VotedModule") (T := F_D) (N := 19) hx hb hw in_D ft_D tyok_D nm_D hown hK hP hD hS 0 rfl rfl 1 (by decide) (hw _ k_74) (fun _ h9 => h9) rfl (by decide +kernel) rfl rfl (Nat.le_of_ble_eq_true rfl) d_C_clearProcessor_23 (fun H locs hP hD hS => ?_)
    replace hP : va_P (dC, dI) classes [(h0, .inr (2, [.ref r9, .int 0, .int (F 2), .int (F 3), .int (F 4), .int (F 5), .int (F 6), .ref k9, .int (F 8), .int (F 9), .int (F 10), .int (F 11), .int (F 12), .int (F 13), .int (F 14), .int (F 15), .int (F 16), .int (F 17), .int (F 18)])), (r9, .inl (cr, 8, .inl g))] H := hP
    replace hD : va_D A [(h0, .inr (2, [.ref r9, .int 0, .int (F 2), .int (F 3), .int (F 4), .int (F 5), .int (F 6), .ref k9, .int (F 8), .int (F 9), .int (F 10), .int (F 11), .int (F 12), .int (F 13), .int (F 14), .int (F 15), .int (F 16), .int (F 17), .int (F 18)])), (r9, .inl (cr, 8, .inl g))] := hD
    have hP9 := hP.sub (ws' := [(h0, .inr (2, oD (upc F 1 0) r9 k9)), (r9, .inl (cr, 8, .inl g))]) [0, 1] rfl
    have hD9 := hD.sub (ws' := [(h0, .inr (2, oD (upc F 1 0) r9 k9)), (r9, .inl (cr, 8, .inl g))]) [0, 1] (by decide) rfl
    have hK9 := hK.sub (tys' := [(cr, .int)]) [0] rfl
    refine W.widen (k := 0) (n := 0) (Nat.le_of_ble_eq_true rfl) (Nat.le_of_ble_eq_true rfl) ?_
    exact W.vret hx hb hr (fun t ht hW => ⟨⟨(g), rfl, ⟨hg, (by rw [hSq0, s_C_clearProcessor_D_cut8]; all_goals rfl)⟩, by rw [ht]; exact hP9, va_K.moved hW.alike hK9, hD9⟩, hS.F ht⟩) hS.2.2 d_C_clearProcessor_26
  have cut7 : ∀ (g : Nat → Int32) (ls : Array Slot) (H : Heap) (locs : List Loc), wdI 8 g → SP = s_C_clearProcessor_D_cut7 g →  lv_has ls 2 [(0, .ref h0), (1, .int 7)] → va_P (dC, dI) classes [(h0, .inr (2, oD F r9 k9)), (r9, .inl (cr, 8, .inl g))] H → va_D A [(h0, .inr (2, oD F r9 k9)), (r9, .inl (cr, 8, .inl g))] → va_S A s.heap H locs → W p l e (headSpec (tbw y_C_clearProcessor b_C_clearProcessor 2 none) ({ frames := 0, cells := 0, slots := 0, locals := 0 })).room s m ([.ref h0] : List Value).toArray below meth c H locs 0 0 (MQ below (va_Qv (fun (u9 : (Nat → Int32)) => match u9 with | g => (wdI 8 g) ∧ (g) = SP) (fun (u9 : (Nat → Int32)) t => match u9 with | g => va_P (dC, dI) classes [(h0, .inr (2, oD (upc F 1 0) r9 k9)), (r9, .inl (cr, 8, .inl g))] t.heap ∧ va_K (dC, dI) classes [(cr, .int)] t ∧ va_D A [(h0, .inr (2, oD (upc F 1 0) r9 k9)), (r9, .inl (cr, 8, .inl g))]) A) ([.ref h0] : List Value).toArray s 0 0 A) (F0 m 2 ls []) := by
    intro g ls H locs hg hSq0 hl hP hD hS
    refine lv_iload_n hx hb d_C_clearProcessor_2 rfl (lv_at hl 1 rfl) ?_
    refine lv_bipush (v := 8) hx hb d_C_clearProcessor_3 (by decide) ?_
    refine lv_icmp_ge (tgt := 21) hx hb d_C_clearProcessor_5 rfl (fun hc2 => by first | exact absurd hc2 (by decide) | exact absurd (by decide) hc2) (fun hc2 => ?_)
    refine lv_aload_n hx hb d_C_clearProcessor_8 rfl (lv_at hl 0 rfl) ?_
    refine va_get (D := (dC, dI)) (ci := 2) (v := .ref r9) (C := "VotedTriple$VotedModule") (T := F_D) (N := 19) hx hb hw in_D hown hK hP 0 rfl rfl 0 (by decide) (hw _ k_70) (fun _ h9 => h9) rfl d_C_clearProcessor_9 ?_
    refine lv_iload_n hx hb d_C_clearProcessor_12 rfl (lv_at hl 1 rfl) ?_
    refine lv_iconst (v := 0) hx hb d_C_clearProcessor_13 (by decide) ?_
    refine va_iast hx hb hK hP hD hS 1 0 rfl rfl (by unfold vp_in; decide) d_C_clearProcessor_14 (fun H locs hP hD hS => ?_)
    replace hP : va_P (dC, dI) classes [(h0, .inr (2, oD F r9 k9)), (r9, .inl (cr, 8, .inl (upd g (Int32.toNatClampNeg (7 : Int32)) (0 : Int32))))] H := hP
    replace hD : va_D A [(h0, .inr (2, oD F r9 k9)), (r9, .inl (cr, 8, .inl (upd g (Int32.toNatClampNeg (7 : Int32)) (0 : Int32))))] := hD
    refine lv_iinc (k := 1) (v := 8) hx hb d_C_clearProcessor_15 hl rfl rfl (by decide) rfl (fun ls hl => ?_)
    replace hl : lv_has ls 2 [(1, .int 8), (0, .ref h0)] := hl
    refine lv_goto (tgt := 2) hx hb d_C_clearProcessor_18 rfl ?_
    have hSq : SP = s_C_clearProcessor_D_cut8 (upd g (Int32.toNatClampNeg (7 : Int32)) (0 : Int32)) := by rw [hSq0, s_C_clearProcessor_D_cut7]; all_goals rfl
    replace hl := lv_sub hl (l' := [(0, .ref h0), (1, .int 8)]) [1, 0] rfl
    replace hP := hP.sub (ws' := [(h0, .inr (2, oD F r9 k9)), (r9, .inl (cr, 8, .inl (upd g (Int32.toNatClampNeg (7 : Int32)) (0 : Int32))))]) [0, 1] rfl
    replace hD := hD.sub (ws' := [(h0, .inr (2, oD F r9 k9)), (r9, .inl (cr, 8, .inl (upd g (Int32.toNatClampNeg (7 : Int32)) (0 : Int32))))]) [0, 1] (by decide) rfl
    exact cut8 (upd g (Int32.toNatClampNeg (7 : Int32)) (0 : Int32)) _ _ _ (rgI_upd hg is16_0) hSq hl hP hD hS
  have cut6 : ∀ (g : Nat → Int32) (ls : Array Slot) (H : Heap) (locs : List Loc), wdI 8 g → SP = s_C_clearProcessor_D_cut6 g →  lv_has ls 2 [(0, .ref h0), (1, .int 6)] → va_P (dC, dI) classes [(h0, .inr (2, oD F r9 k9)), (r9, .inl (cr, 8, .inl g))] H → va_D A [(h0, .inr (2, oD F r9 k9)), (r9, .inl (cr, 8, .inl g))] → va_S A s.heap H locs → W p l e (headSpec (tbw y_C_clearProcessor b_C_clearProcessor 2 none) ({ frames := 0, cells := 0, slots := 0, locals := 0 })).room s m ([.ref h0] : List Value).toArray below meth c H locs 0 0 (MQ below (va_Qv (fun (u9 : (Nat → Int32)) => match u9 with | g => (wdI 8 g) ∧ (g) = SP) (fun (u9 : (Nat → Int32)) t => match u9 with | g => va_P (dC, dI) classes [(h0, .inr (2, oD (upc F 1 0) r9 k9)), (r9, .inl (cr, 8, .inl g))] t.heap ∧ va_K (dC, dI) classes [(cr, .int)] t ∧ va_D A [(h0, .inr (2, oD (upc F 1 0) r9 k9)), (r9, .inl (cr, 8, .inl g))]) A) ([.ref h0] : List Value).toArray s 0 0 A) (F0 m 2 ls []) := by
    intro g ls H locs hg hSq0 hl hP hD hS
    clear cut8
    refine lv_iload_n hx hb d_C_clearProcessor_2 rfl (lv_at hl 1 rfl) ?_
    refine lv_bipush (v := 8) hx hb d_C_clearProcessor_3 (by decide) ?_
    refine lv_icmp_ge (tgt := 21) hx hb d_C_clearProcessor_5 rfl (fun hc3 => by first | exact absurd hc3 (by decide) | exact absurd (by decide) hc3) (fun hc3 => ?_)
    refine lv_aload_n hx hb d_C_clearProcessor_8 rfl (lv_at hl 0 rfl) ?_
    refine va_get (D := (dC, dI)) (ci := 2) (v := .ref r9) (C := "VotedTriple$VotedModule") (T := F_D) (N := 19) hx hb hw in_D hown hK hP 0 rfl rfl 0 (by decide) (hw _ k_70) (fun _ h9 => h9) rfl d_C_clearProcessor_9 ?_
    refine lv_iload_n hx hb d_C_clearProcessor_12 rfl (lv_at hl 1 rfl) ?_
    refine lv_iconst (v := 0) hx hb d_C_clearProcessor_13 (by decide) ?_
    refine va_iast hx hb hK hP hD hS 1 0 rfl rfl (by unfold vp_in; decide) d_C_clearProcessor_14 (fun H locs hP hD hS => ?_)
    replace hP : va_P (dC, dI) classes [(h0, .inr (2, oD F r9 k9)), (r9, .inl (cr, 8, .inl (upd g (Int32.toNatClampNeg (6 : Int32)) (0 : Int32))))] H := hP
    replace hD : va_D A [(h0, .inr (2, oD F r9 k9)), (r9, .inl (cr, 8, .inl (upd g (Int32.toNatClampNeg (6 : Int32)) (0 : Int32))))] := hD
    refine lv_iinc (k := 1) (v := 7) hx hb d_C_clearProcessor_15 hl rfl rfl (by decide) rfl (fun ls hl => ?_)
    replace hl : lv_has ls 2 [(1, .int 7), (0, .ref h0)] := hl
    refine lv_goto (tgt := 2) hx hb d_C_clearProcessor_18 rfl ?_
    have hSq : SP = s_C_clearProcessor_D_cut7 (upd g (Int32.toNatClampNeg (6 : Int32)) (0 : Int32)) := by rw [hSq0, s_C_clearProcessor_D_cut6]; all_goals rfl
    replace hl := lv_sub hl (l' := [(0, .ref h0), (1, .int 7)]) [1, 0] rfl
    replace hP := hP.sub (ws' := [(h0, .inr (2, oD F r9 k9)), (r9, .inl (cr, 8, .inl (upd g (Int32.toNatClampNeg (6 : Int32)) (0 : Int32))))]) [0, 1] rfl
    replace hD := hD.sub (ws' := [(h0, .inr (2, oD F r9 k9)), (r9, .inl (cr, 8, .inl (upd g (Int32.toNatClampNeg (6 : Int32)) (0 : Int32))))]) [0, 1] (by decide) rfl
    exact cut7 (upd g (Int32.toNatClampNeg (6 : Int32)) (0 : Int32)) _ _ _ (rgI_upd hg is16_0) hSq hl hP hD hS
  have cut5 : ∀ (g : Nat → Int32) (ls : Array Slot) (H : Heap) (locs : List Loc), wdI 8 g → SP = s_C_clearProcessor_D_cut5 g →  lv_has ls 2 [(0, .ref h0), (1, .int 5)] → va_P (dC, dI) classes [(h0, .inr (2, oD F r9 k9)), (r9, .inl (cr, 8, .inl g))] H → va_D A [(h0, .inr (2, oD F r9 k9)), (r9, .inl (cr, 8, .inl g))] → va_S A s.heap H locs → W p l e (headSpec (tbw y_C_clearProcessor b_C_clearProcessor 2 none) ({ frames := 0, cells := 0, slots := 0, locals := 0 })).room s m ([.ref h0] : List Value).toArray below meth c H locs 0 0 (MQ below (va_Qv (fun (u9 : (Nat → Int32)) => match u9 with | g => (wdI 8 g) ∧ (g) = SP) (fun (u9 : (Nat → Int32)) t => match u9 with | g => va_P (dC, dI) classes [(h0, .inr (2, oD (upc F 1 0) r9 k9)), (r9, .inl (cr, 8, .inl g))] t.heap ∧ va_K (dC, dI) classes [(cr, .int)] t ∧ va_D A [(h0, .inr (2, oD (upc F 1 0) r9 k9)), (r9, .inl (cr, 8, .inl g))]) A) ([.ref h0] : List Value).toArray s 0 0 A) (F0 m 2 ls []) := by
    intro g ls H locs hg hSq0 hl hP hD hS
    clear cut8 cut7
    refine lv_iload_n hx hb d_C_clearProcessor_2 rfl (lv_at hl 1 rfl) ?_
    refine lv_bipush (v := 8) hx hb d_C_clearProcessor_3 (by decide) ?_
    refine lv_icmp_ge (tgt := 21) hx hb d_C_clearProcessor_5 rfl (fun hc4 => by first | exact absurd hc4 (by decide) | exact absurd (by decide) hc4) (fun hc4 => ?_)
    refine lv_aload_n hx hb d_C_clearProcessor_8 rfl (lv_at hl 0 rfl) ?_
    refine va_get (D := (dC, dI)) (ci := 2) (v := .ref r9) (C := "VotedTriple$VotedModule") (T := F_D) (N := 19) hx hb hw in_D hown hK hP 0 rfl rfl 0 (by decide) (hw _ k_70) (fun _ h9 => h9) rfl d_C_clearProcessor_9 ?_
    refine lv_iload_n hx hb d_C_clearProcessor_12 rfl (lv_at hl 1 rfl) ?_
    refine lv_iconst (v := 0) hx hb d_C_clearProcessor_13 (by decide) ?_
    refine va_iast hx hb hK hP hD hS 1 0 rfl rfl (by unfold vp_in; decide) d_C_clearProcessor_14 (fun H locs hP hD hS => ?_)
    replace hP : va_P (dC, dI) classes [(h0, .inr (2, oD F r9 k9)), (r9, .inl (cr, 8, .inl (upd g (Int32.toNatClampNeg (5 : Int32)) (0 : Int32))))] H := hP
    replace hD : va_D A [(h0, .inr (2, oD F r9 k9)), (r9, .inl (cr, 8, .inl (upd g (Int32.toNatClampNeg (5 : Int32)) (0 : Int32))))] := hD
    refine lv_iinc (k := 1) (v := 6) hx hb d_C_clearProcessor_15 hl rfl rfl (by decide) rfl (fun ls hl => ?_)
    replace hl : lv_has ls 2 [(1, .int 6), (0, .ref h0)] := hl
    refine lv_goto (tgt := 2) hx hb d_C_clearProcessor_18 rfl ?_
    have hSq : SP = s_C_clearProcessor_D_cut6 (upd g (Int32.toNatClampNeg (5 : Int32)) (0 : Int32)) := by rw [hSq0, s_C_clearProcessor_D_cut5]; all_goals rfl
    replace hl := lv_sub hl (l' := [(0, .ref h0), (1, .int 6)]) [1, 0] rfl
    replace hP := hP.sub (ws' := [(h0, .inr (2, oD F r9 k9)), (r9, .inl (cr, 8, .inl (upd g (Int32.toNatClampNeg (5 : Int32)) (0 : Int32))))]) [0, 1] rfl
    replace hD := hD.sub (ws' := [(h0, .inr (2, oD F r9 k9)), (r9, .inl (cr, 8, .inl (upd g (Int32.toNatClampNeg (5 : Int32)) (0 : Int32))))]) [0, 1] (by decide) rfl
    exact cut6 (upd g (Int32.toNatClampNeg (5 : Int32)) (0 : Int32)) _ _ _ (rgI_upd hg is16_0) hSq hl hP hD hS
  have cut4 : ∀ (g : Nat → Int32) (ls : Array Slot) (H : Heap) (locs : List Loc), wdI 8 g → SP = s_C_clearProcessor_D_cut4 g →  lv_has ls 2 [(0, .ref h0), (1, .int 4)] → va_P (dC, dI) classes [(h0, .inr (2, oD F r9 k9)), (r9, .inl (cr, 8, .inl g))] H → va_D A [(h0, .inr (2, oD F r9 k9)), (r9, .inl (cr, 8, .inl g))] → va_S A s.heap H locs → W p l e (headSpec (tbw y_C_clearProcessor b_C_clearProcessor 2 none) ({ frames := 0, cells := 0, slots := 0, locals := 0 })).room s m ([.ref h0] : List Value).toArray below meth c H locs 0 0 (MQ below (va_Qv (fun (u9 : (Nat → Int32)) => match u9 with | g => (wdI 8 g) ∧ (g) = SP) (fun (u9 : (Nat → Int32)) t => match u9 with | g => va_P (dC, dI) classes [(h0, .inr (2, oD (upc F 1 0) r9 k9)), (r9, .inl (cr, 8, .inl g))] t.heap ∧ va_K (dC, dI) classes [(cr, .int)] t ∧ va_D A [(h0, .inr (2, oD (upc F 1 0) r9 k9)), (r9, .inl (cr, 8, .inl g))]) A) ([.ref h0] : List Value).toArray s 0 0 A) (F0 m 2 ls []) := by
    intro g ls H locs hg hSq0 hl hP hD hS
    clear cut8 cut7 cut6
    refine lv_iload_n hx hb d_C_clearProcessor_2 rfl (lv_at hl 1 rfl) ?_
    refine lv_bipush (v := 8) hx hb d_C_clearProcessor_3 (by decide) ?_
    refine lv_icmp_ge (tgt := 21) hx hb d_C_clearProcessor_5 rfl (fun hc5 => by first | exact absurd hc5 (by decide) | exact absurd (by decide) hc5) (fun hc5 => ?_)
    refine lv_aload_n hx hb d_C_clearProcessor_8 rfl (lv_at hl 0 rfl) ?_
    refine va_get (D := (dC, dI)) (ci := 2) (v := .ref r9) (C := "VotedTriple$VotedModule") (T := F_D) (N := 19) hx hb hw in_D hown hK hP 0 rfl rfl 0 (by decide) (hw _ k_70) (fun _ h9 => h9) rfl d_C_clearProcessor_9 ?_
    refine lv_iload_n hx hb d_C_clearProcessor_12 rfl (lv_at hl 1 rfl) ?_
    refine lv_iconst (v := 0) hx hb d_C_clearProcessor_13 (by decide) ?_
    refine va_iast hx hb hK hP hD hS 1 0 rfl rfl (by unfold vp_in; decide) d_C_clearProcessor_14 (fun H locs hP hD hS => ?_)
    replace hP : va_P (dC, dI) classes [(h0, .inr (2, oD F r9 k9)), (r9, .inl (cr, 8, .inl (upd g (Int32.toNatClampNeg (4 : Int32)) (0 : Int32))))] H := hP
    replace hD : va_D A [(h0, .inr (2, oD F r9 k9)), (r9, .inl (cr, 8, .inl (upd g (Int32.toNatClampNeg (4 : Int32)) (0 : Int32))))] := hD
    refine lv_iinc (k := 1) (v := 5) hx hb d_C_clearProcessor_15 hl rfl rfl (by decide) rfl (fun ls hl => ?_)
    replace hl : lv_has ls 2 [(1, .int 5), (0, .ref h0)] := hl
    refine lv_goto (tgt := 2) hx hb d_C_clearProcessor_18 rfl ?_
    have hSq : SP = s_C_clearProcessor_D_cut5 (upd g (Int32.toNatClampNeg (4 : Int32)) (0 : Int32)) := by rw [hSq0, s_C_clearProcessor_D_cut4]; all_goals rfl
    replace hl := lv_sub hl (l' := [(0, .ref h0), (1, .int 5)]) [1, 0] rfl
    replace hP := hP.sub (ws' := [(h0, .inr (2, oD F r9 k9)), (r9, .inl (cr, 8, .inl (upd g (Int32.toNatClampNeg (4 : Int32)) (0 : Int32))))]) [0, 1] rfl
    replace hD := hD.sub (ws' := [(h0, .inr (2, oD F r9 k9)), (r9, .inl (cr, 8, .inl (upd g (Int32.toNatClampNeg (4 : Int32)) (0 : Int32))))]) [0, 1] (by decide) rfl
    exact cut5 (upd g (Int32.toNatClampNeg (4 : Int32)) (0 : Int32)) _ _ _ (rgI_upd hg is16_0) hSq hl hP hD hS
  have cut3 : ∀ (g : Nat → Int32) (ls : Array Slot) (H : Heap) (locs : List Loc), wdI 8 g → SP = s_C_clearProcessor_D_cut3 g →  lv_has ls 2 [(0, .ref h0), (1, .int 3)] → va_P (dC, dI) classes [(h0, .inr (2, oD F r9 k9)), (r9, .inl (cr, 8, .inl g))] H → va_D A [(h0, .inr (2, oD F r9 k9)), (r9, .inl (cr, 8, .inl g))] → va_S A s.heap H locs → W p l e (headSpec (tbw y_C_clearProcessor b_C_clearProcessor 2 none) ({ frames := 0, cells := 0, slots := 0, locals := 0 })).room s m ([.ref h0] : List Value).toArray below meth c H locs 0 0 (MQ below (va_Qv (fun (u9 : (Nat → Int32)) => match u9 with | g => (wdI 8 g) ∧ (g) = SP) (fun (u9 : (Nat → Int32)) t => match u9 with | g => va_P (dC, dI) classes [(h0, .inr (2, oD (upc F 1 0) r9 k9)), (r9, .inl (cr, 8, .inl g))] t.heap ∧ va_K (dC, dI) classes [(cr, .int)] t ∧ va_D A [(h0, .inr (2, oD (upc F 1 0) r9 k9)), (r9, .inl (cr, 8, .inl g))]) A) ([.ref h0] : List Value).toArray s 0 0 A) (F0 m 2 ls []) := by
    intro g ls H locs hg hSq0 hl hP hD hS
    clear cut8 cut7 cut6 cut5
    refine lv_iload_n hx hb d_C_clearProcessor_2 rfl (lv_at hl 1 rfl) ?_
    refine lv_bipush (v := 8) hx hb d_C_clearProcessor_3 (by decide) ?_
    refine lv_icmp_ge (tgt := 21) hx hb d_C_clearProcessor_5 rfl (fun hc6 => by first | exact absurd hc6 (by decide) | exact absurd (by decide) hc6) (fun hc6 => ?_)
    refine lv_aload_n hx hb d_C_clearProcessor_8 rfl (lv_at hl 0 rfl) ?_
    refine va_get (D := (dC, dI)) (ci := 2) (v := .ref r9) (C := "VotedTriple$VotedModule") (T := F_D) (N := 19) hx hb hw in_D hown hK hP 0 rfl rfl 0 (by decide) (hw _ k_70) (fun _ h9 => h9) rfl d_C_clearProcessor_9 ?_
    refine lv_iload_n hx hb d_C_clearProcessor_12 rfl (lv_at hl 1 rfl) ?_
    refine lv_iconst (v := 0) hx hb d_C_clearProcessor_13 (by decide) ?_
    refine va_iast hx hb hK hP hD hS 1 0 rfl rfl (by unfold vp_in; decide) d_C_clearProcessor_14 (fun H locs hP hD hS => ?_)
    replace hP : va_P (dC, dI) classes [(h0, .inr (2, oD F r9 k9)), (r9, .inl (cr, 8, .inl (upd g (Int32.toNatClampNeg (3 : Int32)) (0 : Int32))))] H := hP
    replace hD : va_D A [(h0, .inr (2, oD F r9 k9)), (r9, .inl (cr, 8, .inl (upd g (Int32.toNatClampNeg (3 : Int32)) (0 : Int32))))] := hD
    refine lv_iinc (k := 1) (v := 4) hx hb d_C_clearProcessor_15 hl rfl rfl (by decide) rfl (fun ls hl => ?_)
    replace hl : lv_has ls 2 [(1, .int 4), (0, .ref h0)] := hl
    refine lv_goto (tgt := 2) hx hb d_C_clearProcessor_18 rfl ?_
    have hSq : SP = s_C_clearProcessor_D_cut4 (upd g (Int32.toNatClampNeg (3 : Int32)) (0 : Int32)) := by rw [hSq0, s_C_clearProcessor_D_cut3]; all_goals rfl
    replace hl := lv_sub hl (l' := [(0, .ref h0), (1, .int 4)]) [1, 0] rfl
    replace hP := hP.sub (ws' := [(h0, .inr (2, oD F r9 k9)), (r9, .inl (cr, 8, .inl (upd g (Int32.toNatClampNeg (3 : Int32)) (0 : Int32))))]) [0, 1] rfl
    replace hD := hD.sub (ws' := [(h0, .inr (2, oD F r9 k9)), (r9, .inl (cr, 8, .inl (upd g (Int32.toNatClampNeg (3 : Int32)) (0 : Int32))))]) [0, 1] (by decide) rfl
    exact cut4 (upd g (Int32.toNatClampNeg (3 : Int32)) (0 : Int32)) _ _ _ (rgI_upd hg is16_0) hSq hl hP hD hS
  have cut2 : ∀ (g : Nat → Int32) (ls : Array Slot) (H : Heap) (locs : List Loc), wdI 8 g → SP = s_C_clearProcessor_D_cut2 g →  lv_has ls 2 [(0, .ref h0), (1, .int 2)] → va_P (dC, dI) classes [(h0, .inr (2, oD F r9 k9)), (r9, .inl (cr, 8, .inl g))] H → va_D A [(h0, .inr (2, oD F r9 k9)), (r9, .inl (cr, 8, .inl g))] → va_S A s.heap H locs → W p l e (headSpec (tbw y_C_clearProcessor b_C_clearProcessor 2 none) ({ frames := 0, cells := 0, slots := 0, locals := 0 })).room s m ([.ref h0] : List Value).toArray below meth c H locs 0 0 (MQ below (va_Qv (fun (u9 : (Nat → Int32)) => match u9 with | g => (wdI 8 g) ∧ (g) = SP) (fun (u9 : (Nat → Int32)) t => match u9 with | g => va_P (dC, dI) classes [(h0, .inr (2, oD (upc F 1 0) r9 k9)), (r9, .inl (cr, 8, .inl g))] t.heap ∧ va_K (dC, dI) classes [(cr, .int)] t ∧ va_D A [(h0, .inr (2, oD (upc F 1 0) r9 k9)), (r9, .inl (cr, 8, .inl g))]) A) ([.ref h0] : List Value).toArray s 0 0 A) (F0 m 2 ls []) := by
    intro g ls H locs hg hSq0 hl hP hD hS
    clear cut8 cut7 cut6 cut5 cut4
    refine lv_iload_n hx hb d_C_clearProcessor_2 rfl (lv_at hl 1 rfl) ?_
    refine lv_bipush (v := 8) hx hb d_C_clearProcessor_3 (by decide) ?_
    refine lv_icmp_ge (tgt := 21) hx hb d_C_clearProcessor_5 rfl (fun hc7 => by first | exact absurd hc7 (by decide) | exact absurd (by decide) hc7) (fun hc7 => ?_)
    refine lv_aload_n hx hb d_C_clearProcessor_8 rfl (lv_at hl 0 rfl) ?_
    refine va_get (D := (dC, dI)) (ci := 2) (v := .ref r9) (C := "VotedTriple$VotedModule") (T := F_D) (N := 19) hx hb hw in_D hown hK hP 0 rfl rfl 0 (by decide) (hw _ k_70) (fun _ h9 => h9) rfl d_C_clearProcessor_9 ?_
    refine lv_iload_n hx hb d_C_clearProcessor_12 rfl (lv_at hl 1 rfl) ?_
    refine lv_iconst (v := 0) hx hb d_C_clearProcessor_13 (by decide) ?_
    refine va_iast hx hb hK hP hD hS 1 0 rfl rfl (by unfold vp_in; decide) d_C_clearProcessor_14 (fun H locs hP hD hS => ?_)
    replace hP : va_P (dC, dI) classes [(h0, .inr (2, oD F r9 k9)), (r9, .inl (cr, 8, .inl (upd g (Int32.toNatClampNeg (2 : Int32)) (0 : Int32))))] H := hP
    replace hD : va_D A [(h0, .inr (2, oD F r9 k9)), (r9, .inl (cr, 8, .inl (upd g (Int32.toNatClampNeg (2 : Int32)) (0 : Int32))))] := hD
    refine lv_iinc (k := 1) (v := 3) hx hb d_C_clearProcessor_15 hl rfl rfl (by decide) rfl (fun ls hl => ?_)
    replace hl : lv_has ls 2 [(1, .int 3), (0, .ref h0)] := hl
    refine lv_goto (tgt := 2) hx hb d_C_clearProcessor_18 rfl ?_
    have hSq : SP = s_C_clearProcessor_D_cut3 (upd g (Int32.toNatClampNeg (2 : Int32)) (0 : Int32)) := by rw [hSq0, s_C_clearProcessor_D_cut2]; all_goals rfl
    replace hl := lv_sub hl (l' := [(0, .ref h0), (1, .int 3)]) [1, 0] rfl
    replace hP := hP.sub (ws' := [(h0, .inr (2, oD F r9 k9)), (r9, .inl (cr, 8, .inl (upd g (Int32.toNatClampNeg (2 : Int32)) (0 : Int32))))]) [0, 1] rfl
    replace hD := hD.sub (ws' := [(h0, .inr (2, oD F r9 k9)), (r9, .inl (cr, 8, .inl (upd g (Int32.toNatClampNeg (2 : Int32)) (0 : Int32))))]) [0, 1] (by decide) rfl
    exact cut3 (upd g (Int32.toNatClampNeg (2 : Int32)) (0 : Int32)) _ _ _ (rgI_upd hg is16_0) hSq hl hP hD hS
  have cut1 : ∀ (g : Nat → Int32) (ls : Array Slot) (H : Heap) (locs : List Loc), wdI 8 g → SP = s_C_clearProcessor_D_cut1 g →  lv_has ls 2 [(0, .ref h0), (1, .int 1)] → va_P (dC, dI) classes [(h0, .inr (2, oD F r9 k9)), (r9, .inl (cr, 8, .inl g))] H → va_D A [(h0, .inr (2, oD F r9 k9)), (r9, .inl (cr, 8, .inl g))] → va_S A s.heap H locs → W p l e (headSpec (tbw y_C_clearProcessor b_C_clearProcessor 2 none) ({ frames := 0, cells := 0, slots := 0, locals := 0 })).room s m ([.ref h0] : List Value).toArray below meth c H locs 0 0 (MQ below (va_Qv (fun (u9 : (Nat → Int32)) => match u9 with | g => (wdI 8 g) ∧ (g) = SP) (fun (u9 : (Nat → Int32)) t => match u9 with | g => va_P (dC, dI) classes [(h0, .inr (2, oD (upc F 1 0) r9 k9)), (r9, .inl (cr, 8, .inl g))] t.heap ∧ va_K (dC, dI) classes [(cr, .int)] t ∧ va_D A [(h0, .inr (2, oD (upc F 1 0) r9 k9)), (r9, .inl (cr, 8, .inl g))]) A) ([.ref h0] : List Value).toArray s 0 0 A) (F0 m 2 ls []) := by
    intro g ls H locs hg hSq0 hl hP hD hS
    clear cut8 cut7 cut6 cut5 cut4 cut3
    refine lv_iload_n hx hb d_C_clearProcessor_2 rfl (lv_at hl 1 rfl) ?_
    refine lv_bipush (v := 8) hx hb d_C_clearProcessor_3 (by decide) ?_
    refine lv_icmp_ge (tgt := 21) hx hb d_C_clearProcessor_5 rfl (fun hc8 => by first | exact absurd hc8 (by decide) | exact absurd (by decide) hc8) (fun hc8 => ?_)
    refine lv_aload_n hx hb d_C_clearProcessor_8 rfl (lv_at hl 0 rfl) ?_
    refine va_get (D := (dC, dI)) (ci := 2) (v := .ref r9) (C := "VotedTriple$VotedModule") (T := F_D) (N := 19) hx hb hw in_D hown hK hP 0 rfl rfl 0 (by decide) (hw _ k_70) (fun _ h9 => h9) rfl d_C_clearProcessor_9 ?_
    refine lv_iload_n hx hb d_C_clearProcessor_12 rfl (lv_at hl 1 rfl) ?_
    refine lv_iconst (v := 0) hx hb d_C_clearProcessor_13 (by decide) ?_
    refine va_iast hx hb hK hP hD hS 1 0 rfl rfl (by unfold vp_in; decide) d_C_clearProcessor_14 (fun H locs hP hD hS => ?_)
    replace hP : va_P (dC, dI) classes [(h0, .inr (2, oD F r9 k9)), (r9, .inl (cr, 8, .inl (upd g (Int32.toNatClampNeg (1 : Int32)) (0 : Int32))))] H := hP
    replace hD : va_D A [(h0, .inr (2, oD F r9 k9)), (r9, .inl (cr, 8, .inl (upd g (Int32.toNatClampNeg (1 : Int32)) (0 : Int32))))] := hD
    refine lv_iinc (k := 1) (v := 2) hx hb d_C_clearProcessor_15 hl rfl rfl (by decide) rfl (fun ls hl => ?_)
    replace hl : lv_has ls 2 [(1, .int 2), (0, .ref h0)] := hl
    refine lv_goto (tgt := 2) hx hb d_C_clearProcessor_18 rfl ?_
    have hSq : SP = s_C_clearProcessor_D_cut2 (upd g (Int32.toNatClampNeg (1 : Int32)) (0 : Int32)) := by rw [hSq0, s_C_clearProcessor_D_cut1]; all_goals rfl
    replace hl := lv_sub hl (l' := [(0, .ref h0), (1, .int 2)]) [1, 0] rfl
    replace hP := hP.sub (ws' := [(h0, .inr (2, oD F r9 k9)), (r9, .inl (cr, 8, .inl (upd g (Int32.toNatClampNeg (1 : Int32)) (0 : Int32))))]) [0, 1] rfl
    replace hD := hD.sub (ws' := [(h0, .inr (2, oD F r9 k9)), (r9, .inl (cr, 8, .inl (upd g (Int32.toNatClampNeg (1 : Int32)) (0 : Int32))))]) [0, 1] (by decide) rfl
    exact cut2 (upd g (Int32.toNatClampNeg (1 : Int32)) (0 : Int32)) _ _ _ (rgI_upd hg is16_0) hSq hl hP hD hS
  have cut0 : ∀ (g : Nat → Int32) (ls : Array Slot) (H : Heap) (locs : List Loc), wdI 8 g → SP = s_C_clearProcessor_D_cut0 g →  lv_has ls 2 [(0, .ref h0), (1, .int 0)] → va_P (dC, dI) classes [(h0, .inr (2, oD F r9 k9)), (r9, .inl (cr, 8, .inl g))] H → va_D A [(h0, .inr (2, oD F r9 k9)), (r9, .inl (cr, 8, .inl g))] → va_S A s.heap H locs → W p l e (headSpec (tbw y_C_clearProcessor b_C_clearProcessor 2 none) ({ frames := 0, cells := 0, slots := 0, locals := 0 })).room s m ([.ref h0] : List Value).toArray below meth c H locs 0 0 (MQ below (va_Qv (fun (u9 : (Nat → Int32)) => match u9 with | g => (wdI 8 g) ∧ (g) = SP) (fun (u9 : (Nat → Int32)) t => match u9 with | g => va_P (dC, dI) classes [(h0, .inr (2, oD (upc F 1 0) r9 k9)), (r9, .inl (cr, 8, .inl g))] t.heap ∧ va_K (dC, dI) classes [(cr, .int)] t ∧ va_D A [(h0, .inr (2, oD (upc F 1 0) r9 k9)), (r9, .inl (cr, 8, .inl g))]) A) ([.ref h0] : List Value).toArray s 0 0 A) (F0 m 2 ls []) := by
    intro g ls H locs hg hSq0 hl hP hD hS
    clear cut8 cut7 cut6 cut5 cut4 cut3 cut2
    refine lv_iload_n hx hb d_C_clearProcessor_2 rfl (lv_at hl 1 rfl) ?_
    refine lv_bipush (v := 8) hx hb d_C_clearProcessor_3 (by decide) ?_
    refine lv_icmp_ge (tgt := 21) hx hb d_C_clearProcessor_5 rfl (fun hc9 => by first | exact absurd hc9 (by decide) | exact absurd (by decide) hc9) (fun hc9 => ?_)
    refine lv_aload_n hx hb d_C_clearProcessor_8 rfl (lv_at hl 0 rfl) ?_
    refine va_get (D := (dC, dI)) (ci := 2) (v := .ref r9) (C := "VotedTriple$VotedModule") (T := F_D) (N := 19) hx hb hw in_D hown hK hP 0 rfl rfl 0 (by decide) (hw _ k_70) (fun _ h9 => h9) rfl d_C_clearProcessor_9 ?_
    refine lv_iload_n hx hb d_C_clearProcessor_12 rfl (lv_at hl 1 rfl) ?_
    refine lv_iconst (v := 0) hx hb d_C_clearProcessor_13 (by decide) ?_
    refine va_iast hx hb hK hP hD hS 1 0 rfl rfl (by unfold vp_in; decide) d_C_clearProcessor_14 (fun H locs hP hD hS => ?_)
    replace hP : va_P (dC, dI) classes [(h0, .inr (2, oD F r9 k9)), (r9, .inl (cr, 8, .inl (upd g (Int32.toNatClampNeg (0 : Int32)) (0 : Int32))))] H := hP
    replace hD : va_D A [(h0, .inr (2, oD F r9 k9)), (r9, .inl (cr, 8, .inl (upd g (Int32.toNatClampNeg (0 : Int32)) (0 : Int32))))] := hD
    refine lv_iinc (k := 1) (v := 1) hx hb d_C_clearProcessor_15 hl rfl rfl (by decide) rfl (fun ls hl => ?_)
    replace hl : lv_has ls 2 [(1, .int 1), (0, .ref h0)] := hl
    refine lv_goto (tgt := 2) hx hb d_C_clearProcessor_18 rfl ?_
    have hSq : SP = s_C_clearProcessor_D_cut1 (upd g (Int32.toNatClampNeg (0 : Int32)) (0 : Int32)) := by rw [hSq0, s_C_clearProcessor_D_cut0]; all_goals rfl
    replace hl := lv_sub hl (l' := [(0, .ref h0), (1, .int 1)]) [1, 0] rfl
    replace hP := hP.sub (ws' := [(h0, .inr (2, oD F r9 k9)), (r9, .inl (cr, 8, .inl (upd g (Int32.toNatClampNeg (0 : Int32)) (0 : Int32))))]) [0, 1] rfl
    replace hD := hD.sub (ws' := [(h0, .inr (2, oD F r9 k9)), (r9, .inl (cr, 8, .inl (upd g (Int32.toNatClampNeg (0 : Int32)) (0 : Int32))))]) [0, 1] (by decide) rfl
    exact cut1 (upd g (Int32.toNatClampNeg (0 : Int32)) (0 : Int32)) _ _ _ (rgI_upd hg is16_0) hSq hl hP hD hS
  clear cut8 cut7 cut6 cut5 cut4 cut3 cut2 cut1
  refine lv_iconst (v := 0) hx hb d_C_clearProcessor_0 (by decide) ?_
  refine lv_istore_n hx hb d_C_clearProcessor_1 rfl hl (by decide) rfl (fun ls hl => ?_)
  replace hl : lv_has ls 2 [(1, .int 0), (0, .ref h0)] := hl
  have hSq : SP = s_C_clearProcessor_D_cut0 rg := by rw [← hSP, s_C_clearProcessor_D]; all_goals rfl
  replace hl := lv_sub hl (l' := [(0, .ref h0), (1, .int 0)]) [1, 0] rfl
  replace hP := hP.sub (ws' := [(h0, .inr (2, oD F r9 k9)), (r9, .inl (cr, 8, .inl rg))]) [0, 1] rfl
  replace hD := hD.sub (ws' := [(h0, .inr (2, oD F r9 k9)), (r9, .inl (cr, 8, .inl rg))]) [0, 1] (by decide) rfl
  exact cut0 rg _ _ _ hg hSq hl hP hD hS

set_option maxHeartbeats 4000000 in
set_option maxRecDepth 100000 in
theorem c_C_clearProcessor_E (l : Launch) (dC : Nat → ClassId) (dI : Nat → Nat → Nat) (h0 r9 o9 w9 : Nat) (F : Nat → Int32) (cr : ClassId) (rg : Nat → Int32) (hg : wdI 8 rg) (sz : Nat) : Met l y_C_clearProcessor (tbw y_C_clearProcessor b_C_clearProcessor 2 none) ({ frames := 0, cells := 0, slots := 0, locals := 0 }) (va_Pc [.ref h0] (fun U => U.heap.size = sz ∧ va_P (dC, dI) classes [(h0, .inr (3, oE F r9 o9 w9)), (r9, .inl (cr, 8, .inl rg))] U.heap ∧ va_K (dC, dI) classes [(cr, .int)] U ∧ va_D (fun _ => True) [(h0, .inr (3, oE F r9 o9 w9)), (r9, .inl (cr, 8, .inl rg))])) (va_Qv (fun (u9 : (Nat → Int32)) => match u9 with | g => (wdI 8 g) ∧ (g) = s_C_clearProcessor_E rg) (fun (u9 : (Nat → Int32)) t => match u9 with | g => va_P (dC, dI) classes [(h0, .inr (3, oE (upc F 1 0) r9 o9 w9)), (r9, .inl (cr, 8, .inl g))] t.heap ∧ va_K (dC, dI) classes [(cr, .int)] t ∧ va_D (va_A [(h0, .inr (3, oE F r9 o9 w9)), (r9, .inl (cr, 8, .inl rg))] sz) [(h0, .inr (3, oE (upc F 1 0) r9 o9 w9)), (r9, .inl (cr, 8, .inl g))]) (va_A [(h0, .inr (3, oE F r9 o9 w9)), (r9, .inl (cr, 8, .inl rg))] sz)) 0 0 (va_A [(h0, .inr (3, oE F r9 o9 w9)), (r9, .inl (cr, 8, .inl rg))] sz) := by
  refine Met.ofW (cc := b_C_clearProcessor) (maxL := 2) (ret := none) (by decide) rfl ?_
  intro p e s m args below meth c s₁ B hml hv
  obtain ⟨rfl, hsz, hP, hK, hD0⟩ := hv
  have hx := B.exec
  have hb := B.bytes
  have hr := B.returns
  have hts := atoms_spec (ws := (tbw y_C_clearProcessor b_C_clearProcessor 2 none)) B.pre
  have hw : ∀ z9 ∈ tb, z9.before ([.ref h0] : List Value).toArray s = true := fun z9 h => hts z9 (List.mem_cons_of_mem _ h)
  have hown : s.vm.findClass "VotedTriple$Processor" = some m.cls := findClass_of_methodNamed B.named
  have hlocks := B.notSynchronized
  subst hsz
  replace hD := hD0.self (sz := s.heap.size)
  generalize hAe : va_A [(h0, .inr (3, oE F r9 o9 w9)), (r9, .inl (cr, 8, .inl rg))] s.heap.size = A at hD ⊢
  have hA : ∀ q : Nat, s.heap.size ≤ q → A q := fun q h => by rw [← hAe]; exact Or.inr h
  have hS : va_S A s.heap s.heap [] := va_S.rf
  replace hl := lv_entry ([.ref h0]) (n := 2) (Nat.le_of_ble_eq_true rfl)
  rw [lg_entry_eq]
  generalize (lg_sl ([.ref h0]) ++ List.replicate (2 - (lg_sl ([.ref h0])).length) Slot.unset).toArray = ls at hl ⊢
  replace hl : lv_has ls 2 [(0, .ref h0)] := hl
  generalize hSP : s_C_clearProcessor_E rg = SP
  have cut8 : ∀ (g : Nat → Int32) (ls : Array Slot) (H : Heap) (locs : List Loc), wdI 8 g → SP = s_C_clearProcessor_E_cut8 g →  lv_has ls 2 [(0, .ref h0), (1, .int 8)] → va_P (dC, dI) classes [(h0, .inr (3, oE F r9 o9 w9)), (r9, .inl (cr, 8, .inl g))] H → va_D A [(h0, .inr (3, oE F r9 o9 w9)), (r9, .inl (cr, 8, .inl g))] → va_S A s.heap H locs → W p l e (headSpec (tbw y_C_clearProcessor b_C_clearProcessor 2 none) ({ frames := 0, cells := 0, slots := 0, locals := 0 })).room s m ([.ref h0] : List Value).toArray below meth c H locs 0 0 (MQ below (va_Qv (fun (u9 : (Nat → Int32)) => match u9 with | g => (wdI 8 g) ∧ (g) = SP) (fun (u9 : (Nat → Int32)) t => match u9 with | g => va_P (dC, dI) classes [(h0, .inr (3, oE (upc F 1 0) r9 o9 w9)), (r9, .inl (cr, 8, .inl g))] t.heap ∧ va_K (dC, dI) classes [(cr, .int)] t ∧ va_D A [(h0, .inr (3, oE (upc F 1 0) r9 o9 w9)), (r9, .inl (cr, 8, .inl g))]) A) ([.ref h0] : List Value).toArray s 0 0 A) (F0 m 2 ls []) := by
    intro g ls H locs hg hSq0 hl hP hD hS
    refine lv_iload_n hx hb d_C_clearProcessor_2 rfl (lv_at hl 1 rfl) ?_
    refine lv_bipush (v := 8) hx hb d_C_clearProcessor_3 (by decide) ?_
    refine lv_icmp_ge (tgt := 21) hx hb d_C_clearProcessor_5 rfl (fun hc1 => ?_) (fun hc1 => by first | exact absurd (by decide) hc1 | exact absurd hc1 (by decide))
    refine lv_aload_n hx hb d_C_clearProcessor_21 rfl (lv_at hl 0 rfl) ?_
    refine lv_iconst (v := 0) hx hb d_C_clearProcessor_22 (by decide) ?_
    refine va_put (D := (dC, dI)) (ci := 3) (v := .int 0) (ty := .int) (C := "VotedTriple$PerfectOne") (T := F_E) (N := 10) hx hb hw in_E ft_E tyok_E nm_E hown hK hP hD hS 0 rfl rfl 1 (by decide) (hw _ k_74) (fun _ h9 => h9) rfl (by decide +kernel) rfl rfl (Nat.le_of_ble_eq_true rfl) d_C_clearProcessor_23 (fun H locs hP hD hS => ?_)
    replace hP : va_P (dC, dI) classes [(h0, .inr (3, [.ref r9, .int 0, .int (F 2), .int (F 3), .int (F 4), .int (F 5), .int (F 6), .ref o9, .ref w9, .int (F 9)])), (r9, .inl (cr, 8, .inl g))] H := hP
    replace hD : va_D A [(h0, .inr (3, [.ref r9, .int 0, .int (F 2), .int (F 3), .int (F 4), .int (F 5), .int (F 6), .ref o9, .ref w9, .int (F 9)])), (r9, .inl (cr, 8, .inl g))] := hD
    have hP9 := hP.sub (ws' := [(h0, .inr (3, oE (upc F 1 0) r9 o9 w9)), (r9, .inl (cr, 8, .inl g))]) [0, 1] rfl
    have hD9 := hD.sub (ws' := [(h0, .inr (3, oE (upc F 1 0) r9 o9 w9)), (r9, .inl (cr, 8, .inl g))]) [0, 1] (by decide) rfl
    have hK9 := hK.sub (tys' := [(cr, .int)]) [0] rfl
    refine W.widen (k := 0) (n := 0) (Nat.le_of_ble_eq_true rfl) (Nat.le_of_ble_eq_true rfl) ?_
    exact W.vret hx hb hr (fun t ht hW => ⟨⟨(g), rfl, ⟨hg, (by rw [hSq0, s_C_clearProcessor_E_cut8]; all_goals rfl)⟩, by rw [ht]; exact hP9, va_K.moved hW.alike hK9, hD9⟩, hS.F ht⟩) hS.2.2 d_C_clearProcessor_26
  have cut7 : ∀ (g : Nat → Int32) (ls : Array Slot) (H : Heap) (locs : List Loc), wdI 8 g → SP = s_C_clearProcessor_E_cut7 g →  lv_has ls 2 [(0, .ref h0), (1, .int 7)] → va_P (dC, dI) classes [(h0, .inr (3, oE F r9 o9 w9)), (r9, .inl (cr, 8, .inl g))] H → va_D A [(h0, .inr (3, oE F r9 o9 w9)), (r9, .inl (cr, 8, .inl g))] → va_S A s.heap H locs → W p l e (headSpec (tbw y_C_clearProcessor b_C_clearProcessor 2 none) ({ frames := 0, cells := 0, slots := 0, locals := 0 })).room s m ([.ref h0] : List Value).toArray below meth c H locs 0 0 (MQ below (va_Qv (fun (u9 : (Nat → Int32)) => match u9 with | g => (wdI 8 g) ∧ (g) = SP) (fun (u9 : (Nat → Int32)) t => match u9 with | g => va_P (dC, dI) classes [(h0, .inr (3, oE (upc F 1 0) r9 o9 w9)), (r9, .inl (cr, 8, .inl g))] t.heap ∧ va_K (dC, dI) classes [(cr, .int)] t ∧ va_D A [(h0, .inr (3, oE (upc F 1 0) r9 o9 w9)), (r9, .inl (cr, 8, .inl g))]) A) ([.ref h0] : List Value).toArray s 0 0 A) (F0 m 2 ls []) := by
    intro g ls H locs hg hSq0 hl hP hD hS
    refine lv_iload_n hx hb d_C_clearProcessor_2 rfl (lv_at hl 1 rfl) ?_
    refine lv_bipush (v := 8) hx hb d_C_clearProcessor_3 (by decide) ?_
    refine lv_icmp_ge (tgt := 21) hx hb d_C_clearProcessor_5 rfl (fun hc2 => by first | exact absurd hc2 (by decide) | exact absurd (by decide) hc2) (fun hc2 => ?_)
    refine lv_aload_n hx hb d_C_clearProcessor_8 rfl (lv_at hl 0 rfl) ?_
    refine va_get (D := (dC, dI)) (ci := 3) (v := .ref r9) (C := "VotedTriple$PerfectOne") (T := F_E) (N := 10) hx hb hw in_E hown hK hP 0 rfl rfl 0 (by decide) (hw _ k_70) (fun _ h9 => h9) rfl d_C_clearProcessor_9 ?_
    refine lv_iload_n hx hb d_C_clearProcessor_12 rfl (lv_at hl 1 rfl) ?_
    refine lv_iconst (v := 0) hx hb d_C_clearProcessor_13 (by decide) ?_
    refine va_iast hx hb hK hP hD hS 1 0 rfl rfl (by unfold vp_in; decide) d_C_clearProcessor_14 (fun H locs hP hD hS => ?_)
    replace hP : va_P (dC, dI) classes [(h0, .inr (3, oE F r9 o9 w9)), (r9, .inl (cr, 8, .inl (upd g (Int32.toNatClampNeg (7 : Int32)) (0 : Int32))))] H := hP
    replace hD : va_D A [(h0, .inr (3, oE F r9 o9 w9)), (r9, .inl (cr, 8, .inl (upd g (Int32.toNatClampNeg (7 : Int32)) (0 : Int32))))] := hD
    refine lv_iinc (k := 1) (v := 8) hx hb d_C_clearProcessor_15 hl rfl rfl (by decide) rfl (fun ls hl => ?_)
    replace hl : lv_has ls 2 [(1, .int 8), (0, .ref h0)] := hl
    refine lv_goto (tgt := 2) hx hb d_C_clearProcessor_18 rfl ?_
    have hSq : SP = s_C_clearProcessor_E_cut8 (upd g (Int32.toNatClampNeg (7 : Int32)) (0 : Int32)) := by rw [hSq0, s_C_clearProcessor_E_cut7]; all_goals rfl
    replace hl := lv_sub hl (l' := [(0, .ref h0), (1, .int 8)]) [1, 0] rfl
    replace hP := hP.sub (ws' := [(h0, .inr (3, oE F r9 o9 w9)), (r9, .inl (cr, 8, .inl (upd g (Int32.toNatClampNeg (7 : Int32)) (0 : Int32))))]) [0, 1] rfl
    replace hD := hD.sub (ws' := [(h0, .inr (3, oE F r9 o9 w9)), (r9, .inl (cr, 8, .inl (upd g (Int32.toNatClampNeg (7 : Int32)) (0 : Int32))))]) [0, 1] (by decide) rfl
    exact cut8 (upd g (Int32.toNatClampNeg (7 : Int32)) (0 : Int32)) _ _ _ (rgI_upd hg is16_0) hSq hl hP hD hS
  have cut6 : ∀ (g : Nat → Int32) (ls : Array Slot) (H : Heap) (locs : List Loc), wdI 8 g → SP = s_C_clearProcessor_E_cut6 g →  lv_has ls 2 [(0, .ref h0), (1, .int 6)] → va_P (dC, dI) classes [(h0, .inr (3, oE F r9 o9 w9)), (r9, .inl (cr, 8, .inl g))] H → va_D A [(h0, .inr (3, oE F r9 o9 w9)), (r9, .inl (cr, 8, .inl g))] → va_S A s.heap H locs → W p l e (headSpec (tbw y_C_clearProcessor b_C_clearProcessor 2 none) ({ frames := 0, cells := 0, slots := 0, locals := 0 })).room s m ([.ref h0] : List Value).toArray below meth c H locs 0 0 (MQ below (va_Qv (fun (u9 : (Nat → Int32)) => match u9 with | g => (wdI 8 g) ∧ (g) = SP) (fun (u9 : (Nat → Int32)) t => match u9 with | g => va_P (dC, dI) classes [(h0, .inr (3, oE (upc F 1 0) r9 o9 w9)), (r9, .inl (cr, 8, .inl g))] t.heap ∧ va_K (dC, dI) classes [(cr, .int)] t ∧ va_D A [(h0, .inr (3, oE (upc F 1 0) r9 o9 w9)), (r9, .inl (cr, 8, .inl g))]) A) ([.ref h0] : List Value).toArray s 0 0 A) (F0 m 2 ls []) := by
    intro g ls H locs hg hSq0 hl hP hD hS
    clear cut8
    refine lv_iload_n hx hb d_C_clearProcessor_2 rfl (lv_at hl 1 rfl) ?_
    refine lv_bipush (v := 8) hx hb d_C_clearProcessor_3 (by decide) ?_
    refine lv_icmp_ge (tgt := 21) hx hb d_C_clearProcessor_5 rfl (fun hc3 => by first | exact absurd hc3 (by decide) | exact absurd (by decide) hc3) (fun hc3 => ?_)
    refine lv_aload_n hx hb d_C_clearProcessor_8 rfl (lv_at hl 0 rfl) ?_
    refine va_get (D := (dC, dI)) (ci := 3) (v := .ref r9) (C := "VotedTriple$PerfectOne") (T := F_E) (N := 10) hx hb hw in_E hown hK hP 0 rfl rfl 0 (by decide) (hw _ k_70) (fun _ h9 => h9) rfl d_C_clearProcessor_9 ?_
    refine lv_iload_n hx hb d_C_clearProcessor_12 rfl (lv_at hl 1 rfl) ?_
    refine lv_iconst (v := 0) hx hb d_C_clearProcessor_13 (by decide) ?_
    refine va_iast hx hb hK hP hD hS 1 0 rfl rfl (by unfold vp_in; decide) d_C_clearProcessor_14 (fun H locs hP hD hS => ?_)
    replace hP : va_P (dC, dI) classes [(h0, .inr (3, oE F r9 o9 w9)), (r9, .inl (cr, 8, .inl (upd g (Int32.toNatClampNeg (6 : Int32)) (0 : Int32))))] H := hP
    replace hD : va_D A [(h0, .inr (3, oE F r9 o9 w9)), (r9, .inl (cr, 8, .inl (upd g (Int32.toNatClampNeg (6 : Int32)) (0 : Int32))))] := hD
    refine lv_iinc (k := 1) (v := 7) hx hb d_C_clearProcessor_15 hl rfl rfl (by decide) rfl (fun ls hl => ?_)
    replace hl : lv_has ls 2 [(1, .int 7), (0, .ref h0)] := hl
    refine lv_goto (tgt := 2) hx hb d_C_clearProcessor_18 rfl ?_
    have hSq : SP = s_C_clearProcessor_E_cut7 (upd g (Int32.toNatClampNeg (6 : Int32)) (0 : Int32)) := by rw [hSq0, s_C_clearProcessor_E_cut6]; all_goals rfl
    replace hl := lv_sub hl (l' := [(0, .ref h0), (1, .int 7)]) [1, 0] rfl
    replace hP := hP.sub (ws' := [(h0, .inr (3, oE F r9 o9 w9)), (r9, .inl (cr, 8, .inl (upd g (Int32.toNatClampNeg (6 : Int32)) (0 : Int32))))]) [0, 1] rfl
    replace hD := hD.sub (ws' := [(h0, .inr (3, oE F r9 o9 w9)), (r9, .inl (cr, 8, .inl (upd g (Int32.toNatClampNeg (6 : Int32)) (0 : Int32))))]) [0, 1] (by decide) rfl
    exact cut7 (upd g (Int32.toNatClampNeg (6 : Int32)) (0 : Int32)) _ _ _ (rgI_upd hg is16_0) hSq hl hP hD hS
  have cut5 : ∀ (g : Nat → Int32) (ls : Array Slot) (H : Heap) (locs : List Loc), wdI 8 g → SP = s_C_clearProcessor_E_cut5 g →  lv_has ls 2 [(0, .ref h0), (1, .int 5)] → va_P (dC, dI) classes [(h0, .inr (3, oE F r9 o9 w9)), (r9, .inl (cr, 8, .inl g))] H → va_D A [(h0, .inr (3, oE F r9 o9 w9)), (r9, .inl (cr, 8, .inl g))] → va_S A s.heap H locs → W p l e (headSpec (tbw y_C_clearProcessor b_C_clearProcessor 2 none) ({ frames := 0, cells := 0, slots := 0, locals := 0 })).room s m ([.ref h0] : List Value).toArray below meth c H locs 0 0 (MQ below (va_Qv (fun (u9 : (Nat → Int32)) => match u9 with | g => (wdI 8 g) ∧ (g) = SP) (fun (u9 : (Nat → Int32)) t => match u9 with | g => va_P (dC, dI) classes [(h0, .inr (3, oE (upc F 1 0) r9 o9 w9)), (r9, .inl (cr, 8, .inl g))] t.heap ∧ va_K (dC, dI) classes [(cr, .int)] t ∧ va_D A [(h0, .inr (3, oE (upc F 1 0) r9 o9 w9)), (r9, .inl (cr, 8, .inl g))]) A) ([.ref h0] : List Value).toArray s 0 0 A) (F0 m 2 ls []) := by
    intro g ls H locs hg hSq0 hl hP hD hS
    clear cut8 cut7
    refine lv_iload_n hx hb d_C_clearProcessor_2 rfl (lv_at hl 1 rfl) ?_
    refine lv_bipush (v := 8) hx hb d_C_clearProcessor_3 (by decide) ?_
    refine lv_icmp_ge (tgt := 21) hx hb d_C_clearProcessor_5 rfl (fun hc4 => by first | exact absurd hc4 (by decide) | exact absurd (by decide) hc4) (fun hc4 => ?_)
    refine lv_aload_n hx hb d_C_clearProcessor_8 rfl (lv_at hl 0 rfl) ?_
    refine va_get (D := (dC, dI)) (ci := 3) (v := .ref r9) (C := "VotedTriple$PerfectOne") (T := F_E) (N := 10) hx hb hw in_E hown hK hP 0 rfl rfl 0 (by decide) (hw _ k_70) (fun _ h9 => h9) rfl d_C_clearProcessor_9 ?_
    refine lv_iload_n hx hb d_C_clearProcessor_12 rfl (lv_at hl 1 rfl) ?_
    refine lv_iconst (v := 0) hx hb d_C_clearProcessor_13 (by decide) ?_
    refine va_iast hx hb hK hP hD hS 1 0 rfl rfl (by unfold vp_in; decide) d_C_clearProcessor_14 (fun H locs hP hD hS => ?_)
    replace hP : va_P (dC, dI) classes [(h0, .inr (3, oE F r9 o9 w9)), (r9, .inl (cr, 8, .inl (upd g (Int32.toNatClampNeg (5 : Int32)) (0 : Int32))))] H := hP
    replace hD : va_D A [(h0, .inr (3, oE F r9 o9 w9)), (r9, .inl (cr, 8, .inl (upd g (Int32.toNatClampNeg (5 : Int32)) (0 : Int32))))] := hD
    refine lv_iinc (k := 1) (v := 6) hx hb d_C_clearProcessor_15 hl rfl rfl (by decide) rfl (fun ls hl => ?_)
    replace hl : lv_has ls 2 [(1, .int 6), (0, .ref h0)] := hl
    refine lv_goto (tgt := 2) hx hb d_C_clearProcessor_18 rfl ?_
    have hSq : SP = s_C_clearProcessor_E_cut6 (upd g (Int32.toNatClampNeg (5 : Int32)) (0 : Int32)) := by rw [hSq0, s_C_clearProcessor_E_cut5]; all_goals rfl
    replace hl := lv_sub hl (l' := [(0, .ref h0), (1, .int 6)]) [1, 0] rfl
    replace hP := hP.sub (ws' := [(h0, .inr (3, oE F r9 o9 w9)), (r9, .inl (cr, 8, .inl (upd g (Int32.toNatClampNeg (5 : Int32)) (0 : Int32))))]) [0, 1] rfl
    replace hD := hD.sub (ws' := [(h0, .inr (3, oE F r9 o9 w9)), (r9, .inl (cr, 8, .inl (upd g (Int32.toNatClampNeg (5 : Int32)) (0 : Int32))))]) [0, 1] (by decide) rfl
    exact cut6 (upd g (Int32.toNatClampNeg (5 : Int32)) (0 : Int32)) _ _ _ (rgI_upd hg is16_0) hSq hl hP hD hS
  have cut4 : ∀ (g : Nat → Int32) (ls : Array Slot) (H : Heap) (locs : List Loc), wdI 8 g → SP = s_C_clearProcessor_E_cut4 g →  lv_has ls 2 [(0, .ref h0), (1, .int 4)] → va_P (dC, dI) classes [(h0, .inr (3, oE F r9 o9 w9)), (r9, .inl (cr, 8, .inl g))] H → va_D A [(h0, .inr (3, oE F r9 o9 w9)), (r9, .inl (cr, 8, .inl g))] → va_S A s.heap H locs → W p l e (headSpec (tbw y_C_clearProcessor b_C_clearProcessor 2 none) ({ frames := 0, cells := 0, slots := 0, locals := 0 })).room s m ([.ref h0] : List Value).toArray below meth c H locs 0 0 (MQ below (va_Qv (fun (u9 : (Nat → Int32)) => match u9 with | g => (wdI 8 g) ∧ (g) = SP) (fun (u9 : (Nat → Int32)) t => match u9 with | g => va_P (dC, dI) classes [(h0, .inr (3, oE (upc F 1 0) r9 o9 w9)), (r9, .inl (cr, 8, .inl g))] t.heap ∧ va_K (dC, dI) classes [(cr, .int)] t ∧ va_D A [(h0, .inr (3, oE (upc F 1 0) r9 o9 w9)), (r9, .inl (cr, 8, .inl g))]) A) ([.ref h0] : List Value).toArray s 0 0 A) (F0 m 2 ls []) := by
    intro g ls H locs hg hSq0 hl hP hD hS
    clear cut8 cut7 cut6
    refine lv_iload_n hx hb d_C_clearProcessor_2 rfl (lv_at hl 1 rfl) ?_
    refine lv_bipush (v := 8) hx hb d_C_clearProcessor_3 (by decide) ?_
    refine lv_icmp_ge (tgt := 21) hx hb d_C_clearProcessor_5 rfl (fun hc5 => by first | exact absurd hc5 (by decide) | exact absurd (by decide) hc5) (fun hc5 => ?_)
    refine lv_aload_n hx hb d_C_clearProcessor_8 rfl (lv_at hl 0 rfl) ?_
    refine va_get (D := (dC, dI)) (ci := 3) (v := .ref r9) (C := "VotedTriple$PerfectOne") (T := F_E) (N := 10) hx hb hw in_E hown hK hP 0 rfl rfl 0 (by decide) (hw _ k_70) (fun _ h9 => h9) rfl d_C_clearProcessor_9 ?_
    refine lv_iload_n hx hb d_C_clearProcessor_12 rfl (lv_at hl 1 rfl) ?_
    refine lv_iconst (v := 0) hx hb d_C_clearProcessor_13 (by decide) ?_
    refine va_iast hx hb hK hP hD hS 1 0 rfl rfl (by unfold vp_in; decide) d_C_clearProcessor_14 (fun H locs hP hD hS => ?_)
    replace hP : va_P (dC, dI) classes [(h0, .inr (3, oE F r9 o9 w9)), (r9, .inl (cr, 8, .inl (upd g (Int32.toNatClampNeg (4 : Int32)) (0 : Int32))))] H := hP
    replace hD : va_D A [(h0, .inr (3, oE F r9 o9 w9)), (r9, .inl (cr, 8, .inl (upd g (Int32.toNatClampNeg (4 : Int32)) (0 : Int32))))] := hD
    refine lv_iinc (k := 1) (v := 5) hx hb d_C_clearProcessor_15 hl rfl rfl (by decide) rfl (fun ls hl => ?_)
    replace hl : lv_has ls 2 [(1, .int 5), (0, .ref h0)] := hl
    refine lv_goto (tgt := 2) hx hb d_C_clearProcessor_18 rfl ?_
    have hSq : SP = s_C_clearProcessor_E_cut5 (upd g (Int32.toNatClampNeg (4 : Int32)) (0 : Int32)) := by rw [hSq0, s_C_clearProcessor_E_cut4]; all_goals rfl
    replace hl := lv_sub hl (l' := [(0, .ref h0), (1, .int 5)]) [1, 0] rfl
    replace hP := hP.sub (ws' := [(h0, .inr (3, oE F r9 o9 w9)), (r9, .inl (cr, 8, .inl (upd g (Int32.toNatClampNeg (4 : Int32)) (0 : Int32))))]) [0, 1] rfl
    replace hD := hD.sub (ws' := [(h0, .inr (3, oE F r9 o9 w9)), (r9, .inl (cr, 8, .inl (upd g (Int32.toNatClampNeg (4 : Int32)) (0 : Int32))))]) [0, 1] (by decide) rfl
    exact cut5 (upd g (Int32.toNatClampNeg (4 : Int32)) (0 : Int32)) _ _ _ (rgI_upd hg is16_0) hSq hl hP hD hS
  have cut3 : ∀ (g : Nat → Int32) (ls : Array Slot) (H : Heap) (locs : List Loc), wdI 8 g → SP = s_C_clearProcessor_E_cut3 g →  lv_has ls 2 [(0, .ref h0), (1, .int 3)] → va_P (dC, dI) classes [(h0, .inr (3, oE F r9 o9 w9)), (r9, .inl (cr, 8, .inl g))] H → va_D A [(h0, .inr (3, oE F r9 o9 w9)), (r9, .inl (cr, 8, .inl g))] → va_S A s.heap H locs → W p l e (headSpec (tbw y_C_clearProcessor b_C_clearProcessor 2 none) ({ frames := 0, cells := 0, slots := 0, locals := 0 })).room s m ([.ref h0] : List Value).toArray below meth c H locs 0 0 (MQ below (va_Qv (fun (u9 : (Nat → Int32)) => match u9 with | g => (wdI 8 g) ∧ (g) = SP) (fun (u9 : (Nat → Int32)) t => match u9 with | g => va_P (dC, dI) classes [(h0, .inr (3, oE (upc F 1 0) r9 o9 w9)), (r9, .inl (cr, 8, .inl g))] t.heap ∧ va_K (dC, dI) classes [(cr, .int)] t ∧ va_D A [(h0, .inr (3, oE (upc F 1 0) r9 o9 w9)), (r9, .inl (cr, 8, .inl g))]) A) ([.ref h0] : List Value).toArray s 0 0 A) (F0 m 2 ls []) := by
    intro g ls H locs hg hSq0 hl hP hD hS
    clear cut8 cut7 cut6 cut5
    refine lv_iload_n hx hb d_C_clearProcessor_2 rfl (lv_at hl 1 rfl) ?_
    refine lv_bipush (v := 8) hx hb d_C_clearProcessor_3 (by decide) ?_
    refine lv_icmp_ge (tgt := 21) hx hb d_C_clearProcessor_5 rfl (fun hc6 => by first | exact absurd hc6 (by decide) | exact absurd (by decide) hc6) (fun hc6 => ?_)
    refine lv_aload_n hx hb d_C_clearProcessor_8 rfl (lv_at hl 0 rfl) ?_
    refine va_get (D := (dC, dI)) (ci := 3) (v := .ref r9) (C := "VotedTriple$PerfectOne") (T := F_E) (N := 10) hx hb hw in_E hown hK hP 0 rfl rfl 0 (by decide) (hw _ k_70) (fun _ h9 => h9) rfl d_C_clearProcessor_9 ?_
    refine lv_iload_n hx hb d_C_clearProcessor_12 rfl (lv_at hl 1 rfl) ?_
    refine lv_iconst (v := 0) hx hb d_C_clearProcessor_13 (by decide) ?_
    refine va_iast hx hb hK hP hD hS 1 0 rfl rfl (by unfold vp_in; decide) d_C_clearProcessor_14 (fun H locs hP hD hS => ?_)
    replace hP : va_P (dC, dI) classes [(h0, .inr (3, oE F r9 o9 w9)), (r9, .inl (cr, 8, .inl (upd g (Int32.toNatClampNeg (3 : Int32)) (0 : Int32))))] H := hP
    replace hD : va_D A [(h0, .inr (3, oE F r9 o9 w9)), (r9, .inl (cr, 8, .inl (upd g (Int32.toNatClampNeg (3 : Int32)) (0 : Int32))))] := hD
    refine lv_iinc (k := 1) (v := 4) hx hb d_C_clearProcessor_15 hl rfl rfl (by decide) rfl (fun ls hl => ?_)
    replace hl : lv_has ls 2 [(1, .int 4), (0, .ref h0)] := hl
    refine lv_goto (tgt := 2) hx hb d_C_clearProcessor_18 rfl ?_
    have hSq : SP = s_C_clearProcessor_E_cut4 (upd g (Int32.toNatClampNeg (3 : Int32)) (0 : Int32)) := by rw [hSq0, s_C_clearProcessor_E_cut3]; all_goals rfl
    replace hl := lv_sub hl (l' := [(0, .ref h0), (1, .int 4)]) [1, 0] rfl
    replace hP := hP.sub (ws' := [(h0, .inr (3, oE F r9 o9 w9)), (r9, .inl (cr, 8, .inl (upd g (Int32.toNatClampNeg (3 : Int32)) (0 : Int32))))]) [0, 1] rfl
    replace hD := hD.sub (ws' := [(h0, .inr (3, oE F r9 o9 w9)), (r9, .inl (cr, 8, .inl (upd g (Int32.toNatClampNeg (3 : Int32)) (0 : Int32))))]) [0, 1] (by decide) rfl
    exact cut4 (upd g (Int32.toNatClampNeg (3 : Int32)) (0 : Int32)) _ _ _ (rgI_upd hg is16_0) hSq hl hP hD hS
  have cut2 : ∀ (g : Nat → Int32) (ls : Array Slot) (H : Heap) (locs : List Loc), wdI 8 g → SP = s_C_clearProcessor_E_cut2 g →  lv_has ls 2 [(0, .ref h0), (1, .int 2)] → va_P (dC, dI) classes [(h0, .inr (3, oE F r9 o9 w9)), (r9, .inl (cr, 8, .inl g))] H → va_D A [(h0, .inr (3, oE F r9 o9 w9)), (r9, .inl (cr, 8, .inl g))] → va_S A s.heap H locs → W p l e (headSpec (tbw y_C_clearProcessor b_C_clearProcessor 2 none) ({ frames := 0, cells := 0, slots := 0, locals := 0 })).room s m ([.ref h0] : List Value).toArray below meth c H locs 0 0 (MQ below (va_Qv (fun (u9 : (Nat → Int32)) => match u9 with | g => (wdI 8 g) ∧ (g) = SP) (fun (u9 : (Nat → Int32)) t => match u9 with | g => va_P (dC, dI) classes [(h0, .inr (3, oE (upc F 1 0) r9 o9 w9)), (r9, .inl (cr, 8, .inl g))] t.heap ∧ va_K (dC, dI) classes [(cr, .int)] t ∧ va_D A [(h0, .inr (3, oE (upc F 1 0) r9 o9 w9)), (r9, .inl (cr, 8, .inl g))]) A) ([.ref h0] : List Value).toArray s 0 0 A) (F0 m 2 ls []) := by
    intro g ls H locs hg hSq0 hl hP hD hS
    clear cut8 cut7 cut6 cut5 cut4
    refine lv_iload_n hx hb d_C_clearProcessor_2 rfl (lv_at hl 1 rfl) ?_
    refine lv_bipush (v := 8) hx hb d_C_clearProcessor_3 (by decide) ?_
    refine lv_icmp_ge (tgt := 21) hx hb d_C_clearProcessor_5 rfl (fun hc7 => by first | exact absurd hc7 (by decide) | exact absurd (by decide) hc7) (fun hc7 => ?_)
    refine lv_aload_n hx hb d_C_clearProcessor_8 rfl (lv_at hl 0 rfl) ?_
    refine va_get (D := (dC, dI)) (ci := 3) (v := .ref r9) (C := "VotedTriple$PerfectOne") (T := F_E) (N := 10) hx hb hw in_E hown hK hP 0 rfl rfl 0 (by decide) (hw _ k_70) (fun _ h9 => h9) rfl d_C_clearProcessor_9 ?_
    refine lv_iload_n hx hb d_C_clearProcessor_12 rfl (lv_at hl 1 rfl) ?_
    refine lv_iconst (v := 0) hx hb d_C_clearProcessor_13 (by decide) ?_
    refine va_iast hx hb hK hP hD hS 1 0 rfl rfl (by unfold vp_in; decide) d_C_clearProcessor_14 (fun H locs hP hD hS => ?_)
    replace hP : va_P (dC, dI) classes [(h0, .inr (3, oE F r9 o9 w9)), (r9, .inl (cr, 8, .inl (upd g (Int32.toNatClampNeg (2 : Int32)) (0 : Int32))))] H := hP
    replace hD : va_D A [(h0, .inr (3, oE F r9 o9 w9)), (r9, .inl (cr, 8, .inl (upd g (Int32.toNatClampNeg (2 : Int32)) (0 : Int32))))] := hD
    refine lv_iinc (k := 1) (v := 3) hx hb d_C_clearProcessor_15 hl rfl rfl (by decide) rfl (fun ls hl => ?_)
    replace hl : lv_has ls 2 [(1, .int 3), (0, .ref h0)] := hl
    refine lv_goto (tgt := 2) hx hb d_C_clearProcessor_18 rfl ?_
    have hSq : SP = s_C_clearProcessor_E_cut3 (upd g (Int32.toNatClampNeg (2 : Int32)) (0 : Int32)) := by rw [hSq0, s_C_clearProcessor_E_cut2]; all_goals rfl
    replace hl := lv_sub hl (l' := [(0, .ref h0), (1, .int 3)]) [1, 0] rfl
    replace hP := hP.sub (ws' := [(h0, .inr (3, oE F r9 o9 w9)), (r9, .inl (cr, 8, .inl (upd g (Int32.toNatClampNeg (2 : Int32)) (0 : Int32))))]) [0, 1] rfl
    replace hD := hD.sub (ws' := [(h0, .inr (3, oE F r9 o9 w9)), (r9, .inl (cr, 8, .inl (upd g (Int32.toNatClampNeg (2 : Int32)) (0 : Int32))))]) [0, 1] (by decide) rfl
    exact cut3 (upd g (Int32.toNatClampNeg (2 : Int32)) (0 : Int32)) _ _ _ (rgI_upd hg is16_0) hSq hl hP hD hS
  have cut1 : ∀ (g : Nat → Int32) (ls : Array Slot) (H : Heap) (locs : List Loc), wdI 8 g → SP = s_C_clearProcessor_E_cut1 g →  lv_has ls 2 [(0, .ref h0), (1, .int 1)] → va_P (dC, dI) classes [(h0, .inr (3, oE F r9 o9 w9)), (r9, .inl (cr, 8, .inl g))] H → va_D A [(h0, .inr (3, oE F r9 o9 w9)), (r9, .inl (cr, 8, .inl g))] → va_S A s.heap H locs → W p l e (headSpec (tbw y_C_clearProcessor b_C_clearProcessor 2 none) ({ frames := 0, cells := 0, slots := 0, locals := 0 })).room s m ([.ref h0] : List Value).toArray below meth c H locs 0 0 (MQ below (va_Qv (fun (u9 : (Nat → Int32)) => match u9 with | g => (wdI 8 g) ∧ (g) = SP) (fun (u9 : (Nat → Int32)) t => match u9 with | g => va_P (dC, dI) classes [(h0, .inr (3, oE (upc F 1 0) r9 o9 w9)), (r9, .inl (cr, 8, .inl g))] t.heap ∧ va_K (dC, dI) classes [(cr, .int)] t ∧ va_D A [(h0, .inr (3, oE (upc F 1 0) r9 o9 w9)), (r9, .inl (cr, 8, .inl g))]) A) ([.ref h0] : List Value).toArray s 0 0 A) (F0 m 2 ls []) := by
    intro g ls H locs hg hSq0 hl hP hD hS
    clear cut8 cut7 cut6 cut5 cut4 cut3
    refine lv_iload_n hx hb d_C_clearProcessor_2 rfl (lv_at hl 1 rfl) ?_
    refine lv_bipush (v := 8) hx hb d_C_clearProcessor_3 (by decide) ?_
    refine lv_icmp_ge (tgt := 21) hx hb d_C_clearProcessor_5 rfl (fun hc8 => by first | exact absurd hc8 (by decide) | exact absurd (by decide) hc8) (fun hc8 => ?_)
    refine lv_aload_n hx hb d_C_clearProcessor_8 rfl (lv_at hl 0 rfl) ?_
    refine va_get (D := (dC, dI)) (ci := 3) (v := .ref r9) (C := "VotedTriple$PerfectOne") (T := F_E) (N := 10) hx hb hw in_E hown hK hP 0 rfl rfl 0 (by decide) (hw _ k_70) (fun _ h9 => h9) rfl d_C_clearProcessor_9 ?_
    refine lv_iload_n hx hb d_C_clearProcessor_12 rfl (lv_at hl 1 rfl) ?_
    refine lv_iconst (v := 0) hx hb d_C_clearProcessor_13 (by decide) ?_
    refine va_iast hx hb hK hP hD hS 1 0 rfl rfl (by unfold vp_in; decide) d_C_clearProcessor_14 (fun H locs hP hD hS => ?_)
    replace hP : va_P (dC, dI) classes [(h0, .inr (3, oE F r9 o9 w9)), (r9, .inl (cr, 8, .inl (upd g (Int32.toNatClampNeg (1 : Int32)) (0 : Int32))))] H := hP
    replace hD : va_D A [(h0, .inr (3, oE F r9 o9 w9)), (r9, .inl (cr, 8, .inl (upd g (Int32.toNatClampNeg (1 : Int32)) (0 : Int32))))] := hD
    refine lv_iinc (k := 1) (v := 2) hx hb d_C_clearProcessor_15 hl rfl rfl (by decide) rfl (fun ls hl => ?_)
    replace hl : lv_has ls 2 [(1, .int 2), (0, .ref h0)] := hl
    refine lv_goto (tgt := 2) hx hb d_C_clearProcessor_18 rfl ?_
    have hSq : SP = s_C_clearProcessor_E_cut2 (upd g (Int32.toNatClampNeg (1 : Int32)) (0 : Int32)) := by rw [hSq0, s_C_clearProcessor_E_cut1]; all_goals rfl
    replace hl := lv_sub hl (l' := [(0, .ref h0), (1, .int 2)]) [1, 0] rfl
    replace hP := hP.sub (ws' := [(h0, .inr (3, oE F r9 o9 w9)), (r9, .inl (cr, 8, .inl (upd g (Int32.toNatClampNeg (1 : Int32)) (0 : Int32))))]) [0, 1] rfl
    replace hD := hD.sub (ws' := [(h0, .inr (3, oE F r9 o9 w9)), (r9, .inl (cr, 8, .inl (upd g (Int32.toNatClampNeg (1 : Int32)) (0 : Int32))))]) [0, 1] (by decide) rfl
    exact cut2 (upd g (Int32.toNatClampNeg (1 : Int32)) (0 : Int32)) _ _ _ (rgI_upd hg is16_0) hSq hl hP hD hS
  have cut0 : ∀ (g : Nat → Int32) (ls : Array Slot) (H : Heap) (locs : List Loc), wdI 8 g → SP = s_C_clearProcessor_E_cut0 g →  lv_has ls 2 [(0, .ref h0), (1, .int 0)] → va_P (dC, dI) classes [(h0, .inr (3, oE F r9 o9 w9)), (r9, .inl (cr, 8, .inl g))] H → va_D A [(h0, .inr (3, oE F r9 o9 w9)), (r9, .inl (cr, 8, .inl g))] → va_S A s.heap H locs → W p l e (headSpec (tbw y_C_clearProcessor b_C_clearProcessor 2 none) ({ frames := 0, cells := 0, slots := 0, locals := 0 })).room s m ([.ref h0] : List Value).toArray below meth c H locs 0 0 (MQ below (va_Qv (fun (u9 : (Nat → Int32)) => match u9 with | g => (wdI 8 g) ∧ (g) = SP) (fun (u9 : (Nat → Int32)) t => match u9 with | g => va_P (dC, dI) classes [(h0, .inr (3, oE (upc F 1 0) r9 o9 w9)), (r9, .inl (cr, 8, .inl g))] t.heap ∧ va_K (dC, dI) classes [(cr, .int)] t ∧ va_D A [(h0, .inr (3, oE (upc F 1 0) r9 o9 w9)), (r9, .inl (cr, 8, .inl g))]) A) ([.ref h0] : List Value).toArray s 0 0 A) (F0 m 2 ls []) := by
    intro g ls H locs hg hSq0 hl hP hD hS
    clear cut8 cut7 cut6 cut5 cut4 cut3 cut2
    refine lv_iload_n hx hb d_C_clearProcessor_2 rfl (lv_at hl 1 rfl) ?_
    refine lv_bipush (v := 8) hx hb d_C_clearProcessor_3 (by decide) ?_
    refine lv_icmp_ge (tgt := 21) hx hb d_C_clearProcessor_5 rfl (fun hc9 => by first | exact absurd hc9 (by decide) | exact absurd (by decide) hc9) (fun hc9 => ?_)
    refine lv_aload_n hx hb d_C_clearProcessor_8 rfl (lv_at hl 0 rfl) ?_
    refine va_get (D := (dC, dI)) (ci := 3) (v := .ref r9) (C := "VotedTriple$PerfectOne") (T := F_E) (N := 10) hx hb hw in_E hown hK hP 0 rfl rfl 0 (by decide) (hw _ k_70) (fun _ h9 => h9) rfl d_C_clearProcessor_9 ?_
    refine lv_iload_n hx hb d_C_clearProcessor_12 rfl (lv_at hl 1 rfl) ?_
    refine lv_iconst (v := 0) hx hb d_C_clearProcessor_13 (by decide) ?_
    refine va_iast hx hb hK hP hD hS 1 0 rfl rfl (by unfold vp_in; decide) d_C_clearProcessor_14 (fun H locs hP hD hS => ?_)
    replace hP : va_P (dC, dI) classes [(h0, .inr (3, oE F r9 o9 w9)), (r9, .inl (cr, 8, .inl (upd g (Int32.toNatClampNeg (0 : Int32)) (0 : Int32))))] H := hP
    replace hD : va_D A [(h0, .inr (3, oE F r9 o9 w9)), (r9, .inl (cr, 8, .inl (upd g (Int32.toNatClampNeg (0 : Int32)) (0 : Int32))))] := hD
    refine lv_iinc (k := 1) (v := 1) hx hb d_C_clearProcessor_15 hl rfl rfl (by decide) rfl (fun ls hl => ?_)
    replace hl : lv_has ls 2 [(1, .int 1), (0, .ref h0)] := hl
    refine lv_goto (tgt := 2) hx hb d_C_clearProcessor_18 rfl ?_
    have hSq : SP = s_C_clearProcessor_E_cut1 (upd g (Int32.toNatClampNeg (0 : Int32)) (0 : Int32)) := by rw [hSq0, s_C_clearProcessor_E_cut0]; all_goals rfl
    replace hl := lv_sub hl (l' := [(0, .ref h0), (1, .int 1)]) [1, 0] rfl
    replace hP := hP.sub (ws' := [(h0, .inr (3, oE F r9 o9 w9)), (r9, .inl (cr, 8, .inl (upd g (Int32.toNatClampNeg (0 : Int32)) (0 : Int32))))]) [0, 1] rfl
    replace hD := hD.sub (ws' := [(h0, .inr (3, oE F r9 o9 w9)), (r9, .inl (cr, 8, .inl (upd g (Int32.toNatClampNeg (0 : Int32)) (0 : Int32))))]) [0, 1] (by decide) rfl
    exact cut1 (upd g (Int32.toNatClampNeg (0 : Int32)) (0 : Int32)) _ _ _ (rgI_upd hg is16_0) hSq hl hP hD hS
  clear cut8 cut7 cut6 cut5 cut4 cut3 cut2 cut1
  refine lv_iconst (v := 0) hx hb d_C_clearProcessor_0 (by decide) ?_
  refine lv_istore_n hx hb d_C_clearProcessor_1 rfl hl (by decide) rfl (fun ls hl => ?_)
  replace hl : lv_has ls 2 [(1, .int 0), (0, .ref h0)] := hl
  have hSq : SP = s_C_clearProcessor_E_cut0 rg := by rw [← hSP, s_C_clearProcessor_E]; all_goals rfl
  replace hl := lv_sub hl (l' := [(0, .ref h0), (1, .int 0)]) [1, 0] rfl
  replace hP := hP.sub (ws' := [(h0, .inr (3, oE F r9 o9 w9)), (r9, .inl (cr, 8, .inl rg))]) [0, 1] rfl
  replace hD := hD.sub (ws' := [(h0, .inr (3, oE F r9 o9 w9)), (r9, .inl (cr, 8, .inl rg))]) [0, 1] (by decide) rfl
  exact cut0 rg _ _ _ hg hSq hl hP hD hS

set_option maxHeartbeats 4000000 in
set_option maxRecDepth 100000 in
theorem c_C_passOver_D (l : Launch) (dC : Nat → ClassId) (dI : Nat → Nat → Nat) (h0 r9 k9 : Nat) (F : Nat → Int32) (p9 q9 cn : Nat) (hc : cn ≤ 64) (hk : cntI (F 1)) (sz : Nat) : Met l y_C_passOver (tbw y_C_passOver b_C_passOver 2 none) ({ frames := 1, cells := 0, slots := 0, locals := 21 }) (va_Pc [.ref h0, .ref p9] (fun U => U.heap.size = sz ∧ va_P (dC, dI) classes [(h0, .inr (2, oD F r9 k9)), (p9, .inr (1, [.ref q9, .int (nI cn)]))] U.heap ∧ va_K (dC, dI) classes [] U ∧ va_D (fun _ => True) [(h0, .inr (2, oD F r9 k9)), (p9, .inr (1, [.ref q9, .int (nI cn)]))])) (va_Qv (fun (u9 : Int32) => match u9 with | x1 => (cntI x1) ∧ (x1) = s_C_passOver_D F cn) (fun (u9 : Int32) t => match u9 with | x1 => va_P (dC, dI) classes [(h0, .inr (2, oD (upc F 1 x1) r9 k9)), (p9, .inr (1, [.ref q9, .int (nI cn)]))] t.heap ∧ va_K (dC, dI) classes [] t ∧ va_D (va_A [(h0, .inr (2, oD F r9 k9)), (p9, .inr (1, [.ref q9, .int (nI cn)]))] sz) [(h0, .inr (2, oD (upc F 1 x1) r9 k9)), (p9, .inr (1, [.ref q9, .int (nI cn)]))]) (va_A [(h0, .inr (2, oD F r9 k9)), (p9, .inr (1, [.ref q9, .int (nI cn)]))] sz)) 0 0 (va_A [(h0, .inr (2, oD F r9 k9)), (p9, .inr (1, [.ref q9, .int (nI cn)]))] sz) := by
  refine Met.ofW (cc := b_C_passOver) (maxL := 2) (ret := none) (by decide) rfl ?_
  intro p e s m args below meth c s₁ B hml hv
  obtain ⟨rfl, hsz, hP, hK, hD0⟩ := hv
  have hx := B.exec
  have hb := B.bytes
  have hr := B.returns
  have hts := atoms_spec (ws := (tbw y_C_passOver b_C_passOver 2 none)) B.pre
  have hw : ∀ z9 ∈ tb, z9.before ([.ref h0, .ref p9] : List Value).toArray s = true := fun z9 h => hts z9 (List.mem_cons_of_mem _ h)
  have hown : s.vm.findClass "VotedTriple$Processor" = some m.cls := findClass_of_methodNamed B.named
  have hlocks := B.notSynchronized
  subst hsz
  replace hD := hD0.self (sz := s.heap.size)
  generalize hAe : va_A [(h0, .inr (2, oD F r9 k9)), (p9, .inr (1, [.ref q9, .int (nI cn)]))] s.heap.size = A at hD ⊢
  have hA : ∀ q : Nat, s.heap.size ≤ q → A q := fun q h => by rw [← hAe]; exact Or.inr h
  have hS : va_S A s.heap s.heap [] := va_S.rf
  replace hl := lv_entry ([.ref h0, .ref p9]) (n := 2) (Nat.le_of_ble_eq_true rfl)
  rw [lg_entry_eq]
  generalize (lg_sl ([.ref h0, .ref p9]) ++ List.replicate (2 - (lg_sl ([.ref h0, .ref p9])).length) Slot.unset).toArray = ls at hl ⊢
  replace hl : lv_has ls 2 [(0, .ref h0), (1, .ref p9)] := hl
  generalize hSP : s_C_passOver_D F cn = SP
  refine lv_aload_n hx hb d_C_passOver_0 rfl (lv_at hl 0 rfl) ?_
  refine lv_aload_n hx hb d_C_passOver_1 rfl (lv_at hl 1 rfl) ?_
  refine lv_aload_n hx hb d_C_passOver_2 rfl (lv_at hl 0 rfl) ?_
  refine va_get (D := (dC, dI)) (ci := 2) (v := .int (F 1)) (C := "VotedTriple$VotedModule") (T := F_D) (N := 19) hx hb hw in_D hown hK hP 0 rfl rfl 1 (by decide) (hw _ k_74) (fun _ h9 => h9) rfl d_C_passOver_3 ?_
  refine lv_iconst (v := 1) hx hb d_C_passOver_6 (by decide) ?_
  refine lv_iadd hx hb d_C_passOver_7 ?_
  replace hPc := hP.sub (ws' := [(p9, .inr (1, [.ref q9, .int (nI cn)]))]) [1] rfl
  replace hKc := hK.sub (tys' := []) [] rfl
  refine vp_callSi (va_runV (C := "VotedTriple$Program") (As := [.int ((F 1) + (1 : Int32))]) (rest := [.ref h0]) ⟨hx, hb, hml, hown, hw⟩ (c_P_wrap l dC dI p9 q9 cn ((F 1) + (1 : Int32)) hc (cntI_1 hk)) (cwV 1 hw (gdV (k_501) (k_508) (k_499) (k_500) (k_2)) rfl rfl rfl (by decide +kernel) ⟨Nat.le_of_ble_eq_true rfl, Nat.le_of_ble_eq_true rfl⟩) ⟨fun a U g mk q => ⟨q.1, q.2.1, va_K.moved (u := U) (U := U.calling g mk a) (Vm.Alike.refl U.vm) q.2.2⟩, va_recv hK hP rfl (q0 := 1) rfl, fun U hU hW => ⟨rfl, by rw [hU]; exact hPc, va_K.moved hW.alike hKc⟩⟩ rfl rfl hl.1 rfl (lv_room (Nat.le_of_ble_eq_true rfl)) d_C_passOver_8 ⟨Nat.le_of_ble_eq_true rfl, Nat.le_of_ble_eq_true rfl⟩).run (fun r1 hr2 => ?_)
  obtain ⟨hr2, hr2E⟩ := hr2
  refine va_put (D := (dC, dI)) (ci := 2) (v := .int r1) (ty := .int) (C := "VotedTriple$VotedModule") (T := F_D) (N := 19) hx hb hw in_D ft_D tyok_D nm_D hown hK hP hD hS 0 rfl rfl 1 (by decide) (hw _ k_74) (fun _ h9 => h9) rfl (by decide +kernel) rfl rfl (Nat.le_of_ble_eq_true rfl) d_C_passOver_11 (fun H locs hP hD hS => ?_)
  replace hP : va_P (dC, dI) classes [(h0, .inr (2, [.ref r9, .int r1, .int (F 2), .int (F 3), .int (F 4), .int (F 5), .int (F 6), .ref k9, .int (F 8), .int (F 9), .int (F 10), .int (F 11), .int (F 12), .int (F 13), .int (F 14), .int (F 15), .int (F 16), .int (F 17), .int (F 18)])), (p9, .inr (1, [.ref q9, .int (nI cn)]))] H := hP
  replace hD : va_D A [(h0, .inr (2, [.ref r9, .int r1, .int (F 2), .int (F 3), .int (F 4), .int (F 5), .int (F 6), .ref k9, .int (F 8), .int (F 9), .int (F 10), .int (F 11), .int (F 12), .int (F 13), .int (F 14), .int (F 15), .int (F 16), .int (F 17), .int (F 18)])), (p9, .inr (1, [.ref q9, .int (nI cn)]))] := hD
  have hP9 := hP.sub (ws' := [(h0, .inr (2, oD (upc F 1 r1) r9 k9)), (p9, .inr (1, [.ref q9, .int (nI cn)]))]) [0, 1] rfl
  have hD9 := hD.sub (ws' := [(h0, .inr (2, oD (upc F 1 r1) r9 k9)), (p9, .inr (1, [.ref q9, .int (nI cn)]))]) [0, 1] (by decide) rfl
  have hK9 := hK.sub (tys' := []) [] rfl
  refine W.widen (k := 0) (n := 0) (Nat.le_of_ble_eq_true rfl) (Nat.le_of_ble_eq_true rfl) ?_
  exact W.vret hx hb hr (fun t ht hW => ⟨⟨(r1), rfl, ⟨(cntI_w hc hr2), (by rw [← hSP, s_C_passOver_D]; try (rw [← hr2E, bnd_eq]); all_goals rfl)⟩, by rw [ht]; exact hP9, va_K.moved hW.alike hK9, hD9⟩, hS.F ht⟩) hS.2.2 d_C_passOver_14

set_option maxHeartbeats 4000000 in
set_option maxRecDepth 100000 in
theorem c_C_passOver_E (l : Launch) (dC : Nat → ClassId) (dI : Nat → Nat → Nat) (h0 r9 o9 w9 : Nat) (F : Nat → Int32) (p9 q9 cn : Nat) (hc : cn ≤ 64) (hk : cntI (F 1)) (sz : Nat) : Met l y_C_passOver (tbw y_C_passOver b_C_passOver 2 none) ({ frames := 1, cells := 0, slots := 0, locals := 21 }) (va_Pc [.ref h0, .ref p9] (fun U => U.heap.size = sz ∧ va_P (dC, dI) classes [(h0, .inr (3, oE F r9 o9 w9)), (p9, .inr (1, [.ref q9, .int (nI cn)]))] U.heap ∧ va_K (dC, dI) classes [] U ∧ va_D (fun _ => True) [(h0, .inr (3, oE F r9 o9 w9)), (p9, .inr (1, [.ref q9, .int (nI cn)]))])) (va_Qv (fun (u9 : Int32) => match u9 with | x1 => (cntI x1) ∧ (x1) = s_C_passOver_E F cn) (fun (u9 : Int32) t => match u9 with | x1 => va_P (dC, dI) classes [(h0, .inr (3, oE (upc F 1 x1) r9 o9 w9)), (p9, .inr (1, [.ref q9, .int (nI cn)]))] t.heap ∧ va_K (dC, dI) classes [] t ∧ va_D (va_A [(h0, .inr (3, oE F r9 o9 w9)), (p9, .inr (1, [.ref q9, .int (nI cn)]))] sz) [(h0, .inr (3, oE (upc F 1 x1) r9 o9 w9)), (p9, .inr (1, [.ref q9, .int (nI cn)]))]) (va_A [(h0, .inr (3, oE F r9 o9 w9)), (p9, .inr (1, [.ref q9, .int (nI cn)]))] sz)) 0 0 (va_A [(h0, .inr (3, oE F r9 o9 w9)), (p9, .inr (1, [.ref q9, .int (nI cn)]))] sz) := by
  refine Met.ofW (cc := b_C_passOver) (maxL := 2) (ret := none) (by decide) rfl ?_
  intro p e s m args below meth c s₁ B hml hv
  obtain ⟨rfl, hsz, hP, hK, hD0⟩ := hv
  have hx := B.exec
  have hb := B.bytes
  have hr := B.returns
  have hts := atoms_spec (ws := (tbw y_C_passOver b_C_passOver 2 none)) B.pre
  have hw : ∀ z9 ∈ tb, z9.before ([.ref h0, .ref p9] : List Value).toArray s = true := fun z9 h => hts z9 (List.mem_cons_of_mem _ h)
  have hown : s.vm.findClass "VotedTriple$Processor" = some m.cls := findClass_of_methodNamed B.named
  have hlocks := B.notSynchronized
  subst hsz
  replace hD := hD0.self (sz := s.heap.size)
  generalize hAe : va_A [(h0, .inr (3, oE F r9 o9 w9)), (p9, .inr (1, [.ref q9, .int (nI cn)]))] s.heap.size = A at hD ⊢
  have hA : ∀ q : Nat, s.heap.size ≤ q → A q := fun q h => by rw [← hAe]; exact Or.inr h
  have hS : va_S A s.heap s.heap [] := va_S.rf
  replace hl := lv_entry ([.ref h0, .ref p9]) (n := 2) (Nat.le_of_ble_eq_true rfl)
  rw [lg_entry_eq]
  generalize (lg_sl ([.ref h0, .ref p9]) ++ List.replicate (2 - (lg_sl ([.ref h0, .ref p9])).length) Slot.unset).toArray = ls at hl ⊢
  replace hl : lv_has ls 2 [(0, .ref h0), (1, .ref p9)] := hl
  generalize hSP : s_C_passOver_E F cn = SP
  refine lv_aload_n hx hb d_C_passOver_0 rfl (lv_at hl 0 rfl) ?_
  refine lv_aload_n hx hb d_C_passOver_1 rfl (lv_at hl 1 rfl) ?_
  refine lv_aload_n hx hb d_C_passOver_2 rfl (lv_at hl 0 rfl) ?_
  refine va_get (D := (dC, dI)) (ci := 3) (v := .int (F 1)) (C := "VotedTriple$PerfectOne") (T := F_E) (N := 10) hx hb hw in_E hown hK hP 0 rfl rfl 1 (by decide) (hw _ k_74) (fun _ h9 => h9) rfl d_C_passOver_3 ?_
  refine lv_iconst (v := 1) hx hb d_C_passOver_6 (by decide) ?_
  refine lv_iadd hx hb d_C_passOver_7 ?_
  replace hPc := hP.sub (ws' := [(p9, .inr (1, [.ref q9, .int (nI cn)]))]) [1] rfl
  replace hKc := hK.sub (tys' := []) [] rfl
  refine vp_callSi (va_runV (C := "VotedTriple$Program") (As := [.int ((F 1) + (1 : Int32))]) (rest := [.ref h0]) ⟨hx, hb, hml, hown, hw⟩ (c_P_wrap l dC dI p9 q9 cn ((F 1) + (1 : Int32)) hc (cntI_1 hk)) (cwV 1 hw (gdV (k_501) (k_508) (k_499) (k_500) (k_2)) rfl rfl rfl (by decide +kernel) ⟨Nat.le_of_ble_eq_true rfl, Nat.le_of_ble_eq_true rfl⟩) ⟨fun a U g mk q => ⟨q.1, q.2.1, va_K.moved (u := U) (U := U.calling g mk a) (Vm.Alike.refl U.vm) q.2.2⟩, va_recv hK hP rfl (q0 := 1) rfl, fun U hU hW => ⟨rfl, by rw [hU]; exact hPc, va_K.moved hW.alike hKc⟩⟩ rfl rfl hl.1 rfl (lv_room (Nat.le_of_ble_eq_true rfl)) d_C_passOver_8 ⟨Nat.le_of_ble_eq_true rfl, Nat.le_of_ble_eq_true rfl⟩).run (fun r1 hr2 => ?_)
  obtain ⟨hr2, hr2E⟩ := hr2
  refine va_put (D := (dC, dI)) (ci := 3) (v := .int r1) (ty := .int) (C := "VotedTriple$PerfectOne") (T := F_E) (N := 10) hx hb hw in_E ft_E tyok_E nm_E hown hK hP hD hS 0 rfl rfl 1 (by decide) (hw _ k_74) (fun _ h9 => h9) rfl (by decide +kernel) rfl rfl (Nat.le_of_ble_eq_true rfl) d_C_passOver_11 (fun H locs hP hD hS => ?_)
  replace hP : va_P (dC, dI) classes [(h0, .inr (3, [.ref r9, .int r1, .int (F 2), .int (F 3), .int (F 4), .int (F 5), .int (F 6), .ref o9, .ref w9, .int (F 9)])), (p9, .inr (1, [.ref q9, .int (nI cn)]))] H := hP
  replace hD : va_D A [(h0, .inr (3, [.ref r9, .int r1, .int (F 2), .int (F 3), .int (F 4), .int (F 5), .int (F 6), .ref o9, .ref w9, .int (F 9)])), (p9, .inr (1, [.ref q9, .int (nI cn)]))] := hD
  have hP9 := hP.sub (ws' := [(h0, .inr (3, oE (upc F 1 r1) r9 o9 w9)), (p9, .inr (1, [.ref q9, .int (nI cn)]))]) [0, 1] rfl
  have hD9 := hD.sub (ws' := [(h0, .inr (3, oE (upc F 1 r1) r9 o9 w9)), (p9, .inr (1, [.ref q9, .int (nI cn)]))]) [0, 1] (by decide) rfl
  have hK9 := hK.sub (tys' := []) [] rfl
  refine W.widen (k := 0) (n := 0) (Nat.le_of_ble_eq_true rfl) (Nat.le_of_ble_eq_true rfl) ?_
  exact W.vret hx hb hr (fun t ht hW => ⟨⟨(r1), rfl, ⟨(cntI_w hc hr2), (by rw [← hSP, s_C_passOver_E]; try (rw [← hr2E, bnd_eq]); all_goals rfl)⟩, by rw [ht]; exact hP9, va_K.moved hW.alike hK9, hD9⟩, hS.F ht⟩) hS.2.2 d_C_passOver_14

set_option maxHeartbeats 4000000 in
set_option maxRecDepth 100000 in
theorem c_C_reckon (l : Launch) (dC : Nat → ClassId) (dI : Nat → Nat → Nat) (o x y : Int32) (h1 : is16 x) (h2 : is16 y) : Met l y_C_reckon (tbw y_C_reckon b_C_reckon 3 (some .int)) ({ frames := 0, cells := 0, slots := 0, locals := 0 }) (va_Pc [.int o, .int x, .int y] (fun _ => True)) (vp_Si (fun r => (is16 r) ∧ r = s_C_reckon o x y)) 0 0 (fun _ => False) := by
  refine Met.ofW (cc := b_C_reckon) (maxL := 3) (ret := (some .int)) (by decide) rfl ?_
  intro p e s m args below meth c s₁ B hml hv
  obtain ⟨rfl, -⟩ := hv
  have hx := B.exec
  have hb := B.bytes
  have hr := B.returns
  have hts := atoms_spec (ws := (tbw y_C_reckon b_C_reckon 3 (some .int))) B.pre
  have hw : ∀ z9 ∈ tb, z9.before ([.int o, .int x, .int y] : List Value).toArray s = true := fun z9 h => hts z9 (List.mem_cons_of_mem _ h)
  have hown : s.vm.findClass "VotedTriple$Processor" = some m.cls := findClass_of_methodNamed B.named
  have hlocks := B.notSynchronized
  replace hl := lv_entry ([.int o, .int x, .int y]) (n := 3) (Nat.le_of_ble_eq_true rfl)
  rw [lg_entry_eq]
  generalize (lg_sl ([.int o, .int x, .int y]) ++ List.replicate (3 - (lg_sl ([.int o, .int x, .int y])).length) Slot.unset).toArray = ls at hl ⊢
  replace hl : lv_has ls 3 [(0, .int o), (1, .int x), (2, .int y)] := hl
  generalize hSP : s_C_reckon o x y = SP
  refine lv_iload_n hx hb d_C_reckon_0 rfl (lv_at hl 0 rfl) ?_
  rcases sw1_3 (o) with hs1 | hs1 | hs1 | hs1
  · refine lv_tableIn (off := 27) (tgt := 28) hx hb d_C_reckon_1 (by rw [hs1]; decide) (by rw [hs1]; decide) (by rw [hs1]; decide) rfl ?_
    refine lv_iload_n hx hb d_C_reckon_28 rfl (lv_at hl 1 rfl) ?_
    refine lv_iload_n hx hb d_C_reckon_29 rfl (lv_at hl 2 rfl) ?_
    refine lv_iadd hx hb d_C_reckon_30 ?_
    refine lv_ldc (v := 65535) hx hb hown (hw _ k_541) d_C_reckon_31 ?_
    refine lv_iand hx hb d_C_reckon_33 ?_
    exact W.iret (v := ((x + y) &&& (65535 : Int32))) hx hb hr (fun t ht _ => ⟨_, rfl, ⟨(is16_m _), (by rw [← hSP, s_C_reckon]; try (rw [if_pos hs1]); all_goals rfl)⟩, ht⟩) (fun _ h => by cases h) d_C_reckon_34
  · refine lv_tableIn (off := 34) (tgt := 35) hx hb d_C_reckon_1 (by rw [hs1]; decide) (by rw [hs1]; decide) (by rw [hs1]; decide) rfl ?_
    refine lv_iload_n hx hb d_C_reckon_35 rfl (lv_at hl 1 rfl) ?_
    refine lv_iload_n hx hb d_C_reckon_36 rfl (lv_at hl 2 rfl) ?_
    refine lv_isub hx hb d_C_reckon_37 ?_
    refine lv_ldc (v := 65535) hx hb hown (hw _ k_541) d_C_reckon_38 ?_
    refine lv_iand hx hb d_C_reckon_40 ?_
    exact W.iret (v := ((x - y) &&& (65535 : Int32))) hx hb hr (fun t ht _ => ⟨_, rfl, ⟨(is16_m _), (by rw [← hSP, s_C_reckon]; try (rw [if_neg (by rw [hs1]; decide)]); try (rw [if_pos hs1]); all_goals rfl)⟩, ht⟩) (fun _ h => by cases h) d_C_reckon_41
  · refine lv_tableIn (off := 41) (tgt := 42) hx hb d_C_reckon_1 (by rw [hs1]; decide) (by rw [hs1]; decide) (by rw [hs1]; decide) rfl ?_
    refine lv_iload_n hx hb d_C_reckon_42 rfl (lv_at hl 1 rfl) ?_
    refine lv_iload_n hx hb d_C_reckon_43 rfl (lv_at hl 2 rfl) ?_
    refine lv_ixor hx hb d_C_reckon_44 ?_
    exact W.iret (v := (x ^^^ y)) hx hb hr (fun t ht _ => ⟨_, rfl, ⟨(is16_xor h1 h2), (by rw [← hSP, s_C_reckon]; try (rw [if_neg (by rw [hs1]; decide)]); try (rw [if_neg (by rw [hs1]; decide)]); try (rw [if_pos hs1]); all_goals rfl)⟩, ht⟩) (fun _ h => by cases h) d_C_reckon_45
  · refine lv_tableOut (tgt := 46) hx hb d_C_reckon_1 hs1 rfl ?_
    refine lv_iload_n hx hb d_C_reckon_46 rfl (lv_at hl 1 rfl) ?_
    refine lv_iload_n hx hb d_C_reckon_47 rfl (lv_at hl 2 rfl) ?_
    refine lv_bipush (v := 15) hx hb d_C_reckon_48 (by decide) ?_
    refine lv_iand hx hb d_C_reckon_50 ?_
    refine lv_iushr (v := ush x (y &&& (15 : Int32))) hx hb d_C_reckon_51 rfl ?_
    exact W.iret (v := (ush x (y &&& (15 : Int32)))) hx hb hr (fun t ht _ => ⟨_, rfl, ⟨(is16_ush h1), (by rw [← hSP, s_C_reckon]; try (rw [if_neg (fun e9 => by rw [e9] at hs1; revert hs1; decide)]); try (rw [if_neg (fun e9 => by rw [e9] at hs1; revert hs1; decide)]); try (rw [if_neg (fun e9 => by rw [e9] at hs1; revert hs1; decide)]); all_goals rfl)⟩, ht⟩) (fun _ h => by cases h) d_C_reckon_52

set_option maxHeartbeats 4000000 in
set_option maxRecDepth 100000 in
theorem c_K_wordOf (l : Launch) (dC : Nat → ClassId) (dI : Nat → Nat → Nat) (x : Int32) : Met l y_K_wordOf (tbw y_K_wordOf b_K_wordOf 1 (some .int)) ({ frames := 0, cells := 0, slots := 0, locals := 0 }) (va_Pc [.int x] (fun _ => True)) (vp_Si (fun r => (is16 r) ∧ r = s_K_wordOf x)) 0 0 (fun _ => False) := by
  refine Met.ofW (cc := b_K_wordOf) (maxL := 1) (ret := (some .int)) (by decide) rfl ?_
  intro p e s m args below meth c s₁ B hml hv
  obtain ⟨rfl, -⟩ := hv
  have hx := B.exec
  have hb := B.bytes
  have hr := B.returns
  have hts := atoms_spec (ws := (tbw y_K_wordOf b_K_wordOf 1 (some .int))) B.pre
  have hw : ∀ z9 ∈ tb, z9.before ([.int x] : List Value).toArray s = true := fun z9 h => hts z9 (List.mem_cons_of_mem _ h)
  have hown : s.vm.findClass "VotedTriple$Code" = some m.cls := findClass_of_methodNamed B.named
  have hlocks := B.notSynchronized
  replace hl := lv_entry ([.int x]) (n := 1) (Nat.le_of_ble_eq_true rfl)
  rw [lg_entry_eq]
  generalize (lg_sl ([.int x]) ++ List.replicate (1 - (lg_sl ([.int x])).length) Slot.unset).toArray = ls at hl ⊢
  replace hl : lv_has ls 1 [(0, .int x)] := hl
  generalize hSP : s_K_wordOf x = SP
  refine lv_iload_n hx hb d_K_wordOf_0 rfl (lv_at hl 0 rfl) ?_
  refine lv_iconst (v := 3) hx hb d_K_wordOf_1 (by decide) ?_
  refine lv_ishr hx hb d_K_wordOf_2 ?_
  refine lv_iconst (v := 1) hx hb d_K_wordOf_3 (by decide) ?_
  refine lv_iand hx hb d_K_wordOf_4 ?_
  refine lv_iload_n hx hb d_K_wordOf_5 rfl (lv_at hl 0 rfl) ?_
  refine lv_iconst (v := 4) hx hb d_K_wordOf_6 (by decide) ?_
  refine lv_ishr hx hb d_K_wordOf_7 ?_
  refine lv_bipush (v := 14) hx hb d_K_wordOf_8 (by decide) ?_
  refine lv_iand hx hb d_K_wordOf_10 ?_
  refine lv_ior hx hb d_K_wordOf_11 ?_
  refine lv_iload_n hx hb d_K_wordOf_12 rfl (lv_at hl 0 rfl) ?_
  refine lv_iconst (v := 5) hx hb d_K_wordOf_13 (by decide) ?_
  refine lv_ishr hx hb d_K_wordOf_14 ?_
  refine lv_sipush (v := 2032) hx hb d_K_wordOf_15 (by decide) ?_
  refine lv_iand hx hb d_K_wordOf_18 ?_
  refine lv_ior hx hb d_K_wordOf_19 ?_
  refine lv_iload_n hx hb d_K_wordOf_20 rfl (lv_at hl 0 rfl) ?_
  refine lv_bipush (v := 6) hx hb d_K_wordOf_21 (by decide) ?_
  refine lv_ishr hx hb d_K_wordOf_23 ?_
  refine lv_ldc (v := 63488) hx hb hown (hw _ k_279) d_K_wordOf_24 ?_
  refine lv_iand hx hb d_K_wordOf_26 ?_
  refine lv_ior hx hb d_K_wordOf_27 ?_
  exact W.iret (v := (((((x >>> ((3 : Int32) &&& 31)) &&& (1 : Int32)) ||| ((x >>> ((4 : Int32) &&& 31)) &&& (14 : Int32))) ||| ((x >>> ((5 : Int32) &&& 31)) &&& (2032 : Int32))) ||| ((x >>> ((6 : Int32) &&& 31)) &&& (63488 : Int32)))) hx hb hr (fun t ht _ => ⟨_, rfl, ⟨(is16_word x), (by rw [← hSP, s_K_wordOf]; all_goals rfl)⟩, ht⟩) (fun _ h => by cases h) d_K_wordOf_28
