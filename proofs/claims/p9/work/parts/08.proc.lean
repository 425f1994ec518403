def clW (F : Nat → Int32) : Nat → Int32 := fun j => if j = 2 then 0 else if j = 3 then 0 else F j
def clE (F : Nat → Int32) : Nat → Int32 := fun j => if j = 4 then -1 else if j = 5 then -1 else clW F j

set_option maxHeartbeats 4000000 in
set_option maxRecDepth 100000 in
theorem c_C_wishNothing_D (l : Launch) (dC : Nat → ClassId) (dI : Nat → Nat → Nat) (h0 r9 k9 : Nat) (F : Nat → Int32) (sz : Nat) : Met l y_C_wishNothing (tbw y_C_wishNothing b_C_wishNothing 1 none) ({ frames := 0, cells := 0, slots := 0, locals := 0 }) (va_Pc [.ref h0] (fun U => U.heap.size = sz ∧ va_P (dC, dI) classes [(h0, .inr (2, [.ref r9, .int (F 1), .int (F 2), .int (F 3), .int (F 4), .int (F 5), .int (F 6), .ref k9, .int (F 8), .int (F 9), .int (F 10), .int (F 11), .int (F 12), .int (F 13), .int (F 14), .int (F 15), .int (F 16), .int (F 17), .int (F 18)]))] U.heap ∧ va_K (dC, dI) classes [] U ∧ va_D (fun _ => True) [(h0, .inr (2, [.ref r9, .int (F 1), .int (F 2), .int (F 3), .int (F 4), .int (F 5), .int (F 6), .ref k9, .int (F 8), .int (F 9), .int (F 10), .int (F 11), .int (F 12), .int (F 13), .int (F 14), .int (F 15), .int (F 16), .int (F 17), .int (F 18)]))])) (va_Qv (fun (u9 : Unit) => match u9 with | _ => True) (fun (u9 : Unit) t => match u9 with | _ => va_P (dC, dI) classes [(h0, .inr (2, [.ref r9, .int (clW F 1), .int (clW F 2), .int (clW F 3), .int (clW F 4), .int (clW F 5), .int (clW F 6), .ref k9, .int (clW F 8), .int (clW F 9), .int (clW F 10), .int (clW F 11), .int (clW F 12), .int (clW F 13), .int (clW F 14), .int (clW F 15), .int (clW F 16), .int (clW F 17), .int (clW F 18)]))] t.heap ∧ va_K (dC, dI) classes [] t ∧ va_D (va_A [(h0, .inr (2, [.ref r9, .int (F 1), .int (F 2), .int (F 3), .int (F 4), .int (F 5), .int (F 6), .ref k9, .int (F 8), .int (F 9), .int (F 10), .int (F 11), .int (F 12), .int (F 13), .int (F 14), .int (F 15), .int (F 16), .int (F 17), .int (F 18)]))] sz) [(h0, .inr (2, [.ref r9, .int (clW F 1), .int (clW F 2), .int (clW F 3), .int (clW F 4), .int (clW F 5), .int (clW F 6), .ref k9, .int (clW F 8), .int (clW F 9), .int (clW F 10), .int (clW F 11), .int (clW F 12), .int (clW F 13), .int (clW F 14), .int (clW F 15), .int (clW F 16), .int (clW F 17), .int (clW F 18)]))]) (va_A [(h0, .inr (2, [.ref r9, .int (F 1), .int (F 2), .int (F 3), .int (F 4), .int (F 5), .int (F 6), .ref k9, .int (F 8), .int (F 9), .int (F 10), .int (F 11), .int (F 12), .int (F 13), .int (F 14), .int (F 15), .int (F 16), .int (F 17), .int (F 18)]))] sz)) 0 0 (va_A [(h0, .inr (2, [.ref r9, .int (F 1), .int (F 2), .int (F 3), .int (F 4), .int (F 5), .int (F 6), .ref k9, .int (F 8), .int (F 9), .int (F 10), .int (F 11), .int (F 12), .int (F 13), .int (F 14), .int (F 15), .int (F 16), .int (F 17), .int (F 18)]))] sz) := by
  refine Met.ofW (cc := b_C_wishNothing) (maxL := 1) (ret := none) (by decide) rfl ?_
  intro p e s m args below meth c s₁ B hml hv
  obtain ⟨rfl, hsz, hP, hK, hD0⟩ := hv
  have hx := B.exec
  have hb := B.bytes
  have hr := B.returns
  have hts := atoms_spec (ws := (tbw y_C_wishNothing b_C_wishNothing 1 none)) B.pre
  have hw : ∀ z9 ∈ tb, z9.before ([.ref h0] : List Value).toArray s = true := fun z9 h => hts z9 (List.mem_cons_of_mem _ h)
  have hown : s.vm.findClass "VotedTriple$Processor" = some m.cls := findClass_of_methodNamed B.named
  have hlocks := B.notSynchronized
  subst hsz
  have hD := hD0.self (sz := s.heap.size)
  generalize hAe : va_A [(h0, .inr (2, [.ref r9, .int (F 1), .int (F 2), .int (F 3), .int (F 4), .int (F 5), .int (F 6), .ref k9, .int (F 8), .int (F 9), .int (F 10), .int (F 11), .int (F 12), .int (F 13), .int (F 14), .int (F 15), .int (F 16), .int (F 17), .int (F 18)]))] s.heap.size = A at hD ⊢
  have hA : ∀ q : Nat, s.heap.size ≤ q → A q := fun q h => by rw [← hAe]; exact Or.inr h
  have hS : va_S A s.heap s.heap [] := va_S.rf
  have hl := lv_entry ([.ref h0]) (n := 1) (Nat.le_of_ble_eq_true rfl)
  rw [lg_entry_eq]
  generalize (lg_sl ([.ref h0]) ++ List.replicate (1 - (lg_sl ([.ref h0])).length) Slot.unset).toArray = ls at hl ⊢
  have hl : lv_has ls 1 [(0, .ref h0)] := hl
  refine lv_aload_n hx hb d_C_wishNothing_0 rfl (lv_at hl 0 rfl) ?_
  refine lv_iconst (v := 0) hx hb d_C_wishNothing_1 (by decide) ?_
  refine va_put (D := (dC, dI)) (ci := 2) (v := .int 0) (ty := .int) (C := "VotedTriple$VotedModule") (T := F_D) (N := 19) hx hb hw in_D ft_D tyok_D nm_D hown hK hP hD hS 0 rfl rfl 2 (by decide) (hw _ k_82) (fun _ h9 => h9) rfl (by decide +kernel) rfl rfl (Nat.le_of_ble_eq_true rfl) d_C_wishNothing_2 (fun H locs hP hD hS => ?_)
  have hP : va_P (dC, dI) classes [(h0, .inr (2, [.ref r9, .int (F 1), .int 0, .int (F 3), .int (F 4), .int (F 5), .int (F 6), .ref k9, .int (F 8), .int (F 9), .int (F 10), .int (F 11), .int (F 12), .int (F 13), .int (F 14), .int (F 15), .int (F 16), .int (F 17), .int (F 18)]))] H := hP
  have hD : va_D A [(h0, .inr (2, [.ref r9, .int (F 1), .int 0, .int (F 3), .int (F 4), .int (F 5), .int (F 6), .ref k9, .int (F 8), .int (F 9), .int (F 10), .int (F 11), .int (F 12), .int (F 13), .int (F 14), .int (F 15), .int (F 16), .int (F 17), .int (F 18)]))] := hD
  refine lv_aload_n hx hb d_C_wishNothing_5 rfl (lv_at hl 0 rfl) ?_
  refine lv_iconst (v := 0) hx hb d_C_wishNothing_6 (by decide) ?_
  refine va_put (D := (dC, dI)) (ci := 2) (v := .int 0) (ty := .int) (C := "VotedTriple$VotedModule") (T := F_D) (N := 19) hx hb hw in_D ft_D tyok_D nm_D hown hK hP hD hS 0 rfl rfl 3 (by decide) (hw _ k_86) (fun _ h9 => h9) rfl (by decide +kernel) rfl rfl (Nat.le_of_ble_eq_true rfl) d_C_wishNothing_7 (fun H locs hP hD hS => ?_)
  have hP : va_P (dC, dI) classes [(h0, .inr (2, [.ref r9, .int (F 1), .int 0, .int 0, .int (F 4), .int (F 5), .int (F 6), .ref k9, .int (F 8), .int (F 9), .int (F 10), .int (F 11), .int (F 12), .int (F 13), .int (F 14), .int (F 15), .int (F 16), .int (F 17), .int (F 18)]))] H := hP
  have hD : va_D A [(h0, .inr (2, [.ref r9, .int (F 1), .int 0, .int 0, .int (F 4), .int (F 5), .int (F 6), .ref k9, .int (F 8), .int (F 9), .int (F 10), .int (F 11), .int (F 12), .int (F 13), .int (F 14), .int (F 15), .int (F 16), .int (F 17), .int (F 18)]))] := hD
  have hP9 := hP.sub (ws' := [(h0, .inr (2, [.ref r9, .int (clW F 1), .int (clW F 2), .int (clW F 3), .int (clW F 4), .int (clW F 5), .int (clW F 6), .ref k9, .int (clW F 8), .int (clW F 9), .int (clW F 10), .int (clW F 11), .int (clW F 12), .int (clW F 13), .int (clW F 14), .int (clW F 15), .int (clW F 16), .int (clW F 17), .int (clW F 18)]))]) [0] rfl
  have hD9 := hD.sub (ws' := [(h0, .inr (2, [.ref r9, .int (clW F 1), .int (clW F 2), .int (clW F 3), .int (clW F 4), .int (clW F 5), .int (clW F 6), .ref k9, .int (clW F 8), .int (clW F 9), .int (clW F 10), .int (clW F 11), .int (clW F 12), .int (clW F 13), .int (clW F 14), .int (clW F 15), .int (clW F 16), .int (clW F 17), .int (clW F 18)]))]) [0] (by decide) rfl
  have hK9 := hK.sub (tys' := []) [] rfl
  refine W.widen (k := 0) (n := 0) (Nat.le_of_ble_eq_true rfl) (Nat.le_of_ble_eq_true rfl) ?_
  exact W.vret hx hb hr (fun t ht hW => ⟨⟨(), rfl, trivial, by rw [ht]; exact hP9, va_K.moved hW.alike hK9, hD9⟩, hS.F ht⟩) hS.2.2 d_C_wishNothing_10

set_option maxHeartbeats 4000000 in
set_option maxRecDepth 100000 in
theorem c_C_clearEffects_D (l : Launch) (dC : Nat → ClassId) (dI : Nat → Nat → Nat) (h0 r9 k9 : Nat) (F : Nat → Int32) (sz : Nat) : Met l y_C_clearEffects (tbw y_C_clearEffects b_C_clearEffects 1 none) ({ frames := 1, cells := 0, slots := 0, locals := 20 }) (va_Pc [.ref h0] (fun U => U.heap.size = sz ∧ va_P (dC, dI) classes [(h0, .inr (2, [.ref r9, .int (F 1), .int (F 2), .int (F 3), .int (F 4), .int (F 5), .int (F 6), .ref k9, .int (F 8), .int (F 9), .int (F 10), .int (F 11), .int (F 12), .int (F 13), .int (F 14), .int (F 15), .int (F 16), .int (F 17), .int (F 18)]))] U.heap ∧ va_K (dC, dI) classes [] U ∧ va_D (fun _ => True) [(h0, .inr (2, [.ref r9, .int (F 1), .int (F 2), .int (F 3), .int (F 4), .int (F 5), .int (F 6), .ref k9, .int (F 8), .int (F 9), .int (F 10), .int (F 11), .int (F 12), .int (F 13), .int (F 14), .int (F 15), .int (F 16), .int (F 17), .int (F 18)]))])) (va_Qv (fun (u9 : Unit) => match u9 with | _ => True) (fun (u9 : Unit) t => match u9 with | _ => va_P (dC, dI) classes [(h0, .inr (2, [.ref r9, .int (clE F 1), .int (clE F 2), .int (clE F 3), .int (clE F 4), .int (clE F 5), .int (clE F 6), .ref k9, .int (clE F 8), .int (clE F 9), .int (clE F 10), .int (clE F 11), .int (clE F 12), .int (clE F 13), .int (clE F 14), .int (clE F 15), .int (clE F 16), .int (clE F 17), .int (clE F 18)]))] t.heap ∧ va_K (dC, dI) classes [] t ∧ va_D (va_A [(h0, .inr (2, [.ref r9, .int (F 1), .int (F 2), .int (F 3), .int (F 4), .int (F 5), .int (F 6), .ref k9, .int (F 8), .int (F 9), .int (F 10), .int (F 11), .int (F 12), .int (F 13), .int (F 14), .int (F 15), .int (F 16), .int (F 17), .int (F 18)]))] sz) [(h0, .inr (2, [.ref r9, .int (clE F 1), .int (clE F 2), .int (clE F 3), .int (clE F 4), .int (clE F 5), .int (clE F 6), .ref k9, .int (clE F 8), .int (clE F 9), .int (clE F 10), .int (clE F 11), .int (clE F 12), .int (clE F 13), .int (clE F 14), .int (clE F 15), .int (clE F 16), .int (clE F 17), .int (clE F 18)]))]) (va_A [(h0, .inr (2, [.ref r9, .int (F 1), .int (F 2), .int (F 3), .int (F 4), .int (F 5), .int (F 6), .ref k9, .int (F 8), .int (F 9), .int (F 10), .int (F 11), .int (F 12), .int (F 13), .int (F 14), .int (F 15), .int (F 16), .int (F 17), .int (F 18)]))] sz)) 0 0 (va_A [(h0, .inr (2, [.ref r9, .int (F 1), .int (F 2), .int (F 3), .int (F 4), .int (F 5), .int (F 6), .ref k9, .int (F 8), .int (F 9), .int (F 10), .int (F 11), .int (F 12), .int (F 13), .int (F 14), .int (F 15), .int (F 16), .int (F 17), .int (F 18)]))] sz) := by
  refine Met.ofW (cc := b_C_clearEffects) (maxL := 1) (ret := none) (by decide) rfl ?_
  intro p e s m args below meth c s₁ B hml hv
  obtain ⟨rfl, hsz, hP, hK, hD0⟩ := hv
  have hx := B.exec
  have hb := B.bytes
  have hr := B.returns
  have hts := atoms_spec (ws := (tbw y_C_clearEffects b_C_clearEffects 1 none)) B.pre
  have hw : ∀ z9 ∈ tb, z9.before ([.ref h0] : List Value).toArray s = true := fun z9 h => hts z9 (List.mem_cons_of_mem _ h)
  have hown : s.vm.findClass "VotedTriple$Processor" = some m.cls := findClass_of_methodNamed B.named
  have hlocks := B.notSynchronized
  subst hsz
  have hD := hD0.self (sz := s.heap.size)
  generalize hAe : va_A [(h0, .inr (2, [.ref r9, .int (F 1), .int (F 2), .int (F 3), .int (F 4), .int (F 5), .int (F 6), .ref k9, .int (F 8), .int (F 9), .int (F 10), .int (F 11), .int (F 12), .int (F 13), .int (F 14), .int (F 15), .int (F 16), .int (F 17), .int (F 18)]))] s.heap.size = A at hD ⊢
  have hA : ∀ q : Nat, s.heap.size ≤ q → A q := fun q h => by rw [← hAe]; exact Or.inr h
  have hS : va_S A s.heap s.heap [] := va_S.rf
  have hl := lv_entry ([.ref h0]) (n := 1) (Nat.le_of_ble_eq_true rfl)
  rw [lg_entry_eq]
  generalize (lg_sl ([.ref h0]) ++ List.replicate (1 - (lg_sl ([.ref h0])).length) Slot.unset).toArray = ls at hl ⊢
  have hl : lv_has ls 1 [(0, .ref h0)] := hl
  refine lv_aload_n hx hb d_C_clearEffects_0 rfl (lv_at hl 0 rfl) ?_
  have hPc := hP.sub (ws' := [(h0, .inr (2, [.ref r9, .int (F 1), .int (F 2), .int (F 3), .int (F 4), .int (F 5), .int (F 6), .ref k9, .int (F 8), .int (F 9), .int (F 10), .int (F 11), .int (F 12), .int (F 13), .int (F 14), .int (F 15), .int (F 16), .int (F 17), .int (F 18)]))]) [0] rfl
  have hKc := hK.sub (tys' := []) [] rfl
  have hDc := hD.sub (ws' := [(h0, .inr (2, [.ref r9, .int (F 1), .int (F 2), .int (F 3), .int (F 4), .int (F 5), .int (F 6), .ref k9, .int (F 8), .int (F 9), .int (F 10), .int (F 11), .int (F 12), .int (F 13), .int (F 14), .int (F 15), .int (F 16), .int (F 17), .int (F 18)]))]) [0] (by decide) rfl
  have hFc := va_free (wc := [(h0, .inr (2, [.ref r9, .int (F 1), .int (F 2), .int (F 3), .int (F 4), .int (F 5), .int (F 6), .ref k9, .int (F 8), .int (F 9), .int (F 10), .int (F 11), .int (F 12), .int (F 13), .int (F 14), .int (F 15), .int (F 16), .int (F 17), .int (F 18)]))]) hD hS hA [0] rfl
  refine va_callv (va_runU (C := "VotedTriple$VotedModule") (As := []) (rest := []) ⟨hx, hb, hml, hown, hw⟩ (c_C_wishNothing_D l dC dI h0 r9 k9 F s.heap.size) (va_cwU (C := "VotedTriple$VotedModule") (owner := "VotedTriple$Processor") (x := ⟨"VotedTriple$Processor", "wishNothing", "()V"⟩) (y := y_C_wishNothing) 0 hw (gd_l (List.forall_mem_cons.mpr ⟨k_301, List.forall_mem_cons.mpr ⟨k_303, List.forall_mem_cons.mpr ⟨k_305, List.forall_mem_cons.mpr ⟨k_302, List.forall_mem_cons.mpr ⟨k_3, fun _ h => absurd h List.not_mem_nil⟩⟩⟩⟩⟩) (gd (k_306))) rfl rfl rfl rfl (by decide +kernel) ⟨Nat.le_of_ble_eq_true rfl, Nat.le_of_ble_eq_true rfl⟩) ⟨fun a U g mk q => by obtain ⟨q0, q1, qP, qK, qD⟩ := q; exact ⟨q0, q1, qP, va_K.moved (u := U) (U := U.calling g mk a) (Vm.Alike.refl U.vm) qK, qD⟩, va_recv hK hP rfl (q0 := 0) rfl, fun U hU hW => ⟨rfl, by rw [hU], by rw [hU]; exact hPc, va_K.moved hW.alike hKc, hDc.weaken (fun _ _ _ _ => trivial)⟩⟩ rfl rfl hl.1 rfl (lv_room (Nat.le_of_ble_eq_true rfl)) d_C_clearEffects_1 ⟨Nat.le_of_ble_eq_true rfl, Nat.le_of_ble_eq_true rfl⟩) hS (fun q _ h => hFc q h) hFc (fun u9 t H1 locs ht hvm hr2 hB hz1 hk1 hS => ?_)
  obtain ⟨hP1, hK1, hD1⟩ := hB
  rw [ht] at hP1
  have hK1 := va_K.moved hvm.symm hK1
  try dsimp only at hr2 hP1 hK1 hD1
  obtain ⟨hP, hD⟩ := va_join (wr := []) (w1 := [(h0, .inr (2, [.ref r9, .int (clW F 1), .int (clW F 2), .int (clW F 3), .int (clW F 4), .int (clW F 5), .int (clW F 6), .ref k9, .int (clW F 8), .int (clW F 9), .int (clW F 10), .int (clW F 11), .int (clW F 12), .int (clW F 13), .int (clW F 14), .int (clW F 15), .int (clW F 16), .int (clW F 17), .int (clW F 18)]))]) hP hD [0] [] rfl rfl (by decide) (by decide) hk1 hFc hP1 hD1
  have hK := (hK.sub (tys' := []) [] rfl).app hK1
  generalize H1 = H at hP hS ⊢
  have hP : va_P (dC, dI) classes [(h0, .inr (2, [.ref r9, .int (clW F 1), .int (clW F 2), .int (clW F 3), .int (clW F 4), .int (clW F 5), .int (clW F 6), .ref k9, .int (clW F 8), .int (clW F 9), .int (clW F 10), .int (clW F 11), .int (clW F 12), .int (clW F 13), .int (clW F 14), .int (clW F 15), .int (clW F 16), .int (clW F 17), .int (clW F 18)]))] H := hP
  have hD : va_D A [(h0, .inr (2, [.ref r9, .int (clW F 1), .int (clW F 2), .int (clW F 3), .int (clW F 4), .int (clW F 5), .int (clW F 6), .ref k9, .int (clW F 8), .int (clW F 9), .int (clW F 10), .int (clW F 11), .int (clW F 12), .int (clW F 13), .int (clW F 14), .int (clW F 15), .int (clW F 16), .int (clW F 17), .int (clW F 18)]))] := hD
  have hK : va_K (dC, dI) classes [] s := hK
  refine W.widen (k := 0) (n := 0) (Nat.le_of_ble_eq_true rfl) (Nat.le_of_ble_eq_true rfl) ?_
  refine lv_aload_n hx hb d_C_clearEffects_4 rfl (lv_at hl 0 rfl) ?_
  refine lv_iconst (v := (-1)) hx hb d_C_clearEffects_5 (by decide) ?_
  refine va_put (D := (dC, dI)) (ci := 2) (v := .int (-1)) (ty := .int) (C := "VotedTriple$VotedModule") (T := F_D) (N := 19) hx hb hw in_D ft_D tyok_D nm_D hown hK hP hD hS 0 rfl rfl 4 (by decide) (hw _ k_90) (fun _ h9 => h9) rfl (by decide +kernel) rfl rfl (Nat.le_of_ble_eq_true rfl) d_C_clearEffects_6 (fun H locs hP hD hS => ?_)
  have hP : va_P (dC, dI) classes [(h0, .inr (2, [.ref r9, .int (clW F 1), .int (clW F 2), .int (clW F 3), .int (-1), .int (clW F 5), .int (clW F 6), .ref k9, .int (clW F 8), .int (clW F 9), .int (clW F 10), .int (clW F 11), .int (clW F 12), .int (clW F 13), .int (clW F 14), .int (clW F 15), .int (clW F 16), .int (clW F 17), .int (clW F 18)]))] H := hP
  have hD : va_D A [(h0, .inr (2, [.ref r9, .int (clW F 1), .int (clW F 2), .int (clW F 3), .int (-1), .int (clW F 5), .int (clW F 6), .ref k9, .int (clW F 8), .int (clW F 9), .int (clW F 10), .int (clW F 11), .int (clW F 12), .int (clW F 13), .int (clW F 14), .int (clW F 15), .int (clW F 16), .int (clW F 17), .int (clW F 18)]))] := hD
  refine lv_aload_n hx hb d_C_clearEffects_9 rfl (lv_at hl 0 rfl) ?_
  refine lv_iconst (v := (-1)) hx hb d_C_clearEffects_10 (by decide) ?_
  refine va_put (D := (dC, dI)) (ci := 2) (v := .int (-1)) (ty := .int) (C := "VotedTriple$VotedModule") (T := F_D) (N := 19) hx hb hw in_D ft_D tyok_D nm_D hown hK hP hD hS 0 rfl rfl 5 (by decide) (hw _ k_91) (fun _ h9 => h9) rfl (by decide +kernel) rfl rfl (Nat.le_of_ble_eq_true rfl) d_C_clearEffects_11 (fun H locs hP hD hS => ?_)
  have hP : va_P (dC, dI) classes [(h0, .inr (2, [.ref r9, .int (clW F 1), .int (clW F 2), .int (clW F 3), .int (-1), .int (-1), .int (clW F 6), .ref k9, .int (clW F 8), .int (clW F 9), .int (clW F 10), .int (clW F 11), .int (clW F 12), .int (clW F 13), .int (clW F 14), .int (clW F 15), .int (clW F 16), .int (clW F 17), .int (clW F 18)]))] H := hP
  have hD : va_D A [(h0, .inr (2, [.ref r9, .int (clW F 1), .int (clW F 2), .int (clW F 3), .int (-1), .int (-1), .int (clW F 6), .ref k9, .int (clW F 8), .int (clW F 9), .int (clW F 10), .int (clW F 11), .int (clW F 12), .int (clW F 13), .int (clW F 14), .int (clW F 15), .int (clW F 16), .int (clW F 17), .int (clW F 18)]))] := hD
  have hP9 := hP.sub (ws' := [(h0, .inr (2, [.ref r9, .int (clE F 1), .int (clE F 2), .int (clE F 3), .int (clE F 4), .int (clE F 5), .int (clE F 6), .ref k9, .int (clE F 8), .int (clE F 9), .int (clE F 10), .int (clE F 11), .int (clE F 12), .int (clE F 13), .int (clE F 14), .int (clE F 15), .int (clE F 16), .int (clE F 17), .int (clE F 18)]))]) [0] rfl
  have hD9 := hD.sub (ws' := [(h0, .inr (2, [.ref r9, .int (clE F 1), .int (clE F 2), .int (clE F 3), .int (clE F 4), .int (clE F 5), .int (clE F 6), .ref k9, .int (clE F 8), .int (clE F 9), .int (clE F 10), .int (clE F 11), .int (clE F 12), .int (clE F 13), .int (clE F 14), .int (clE F 15), .int (clE F 16), .int (clE F 17), .int (clE F 18)]))]) [0] (by decide) rfl
  have hK9 := hK.sub (tys' := []) [] rfl
  refine W.widen (k := 0) (n := 0) (Nat.le_of_ble_eq_true rfl) (Nat.le_of_ble_eq_true rfl) ?_
  exact W.vret hx hb hr (fun t ht hW => ⟨⟨(), rfl, trivial, by rw [ht]; exact hP9, va_K.moved hW.alike hK9, hD9⟩, hS.F ht⟩) hS.2.2 d_C_clearEffects_14

set_option maxHeartbeats 4000000 in
set_option maxRecDepth 100000 in
theorem c_C_wishNothing_E (l : Launch) (dC : Nat → ClassId) (dI : Nat → Nat → Nat) (h0 r9 o9 w9 : Nat) (F : Nat → Int32) (sz : Nat) : Met l y_C_wishNothing (tbw y_C_wishNothing b_C_wishNothing 1 none) ({ frames := 0, cells := 0, slots := 0, locals := 0 }) (va_Pc [.ref h0] (fun U => U.heap.size = sz ∧ va_P (dC, dI) classes [(h0, .inr (3, [.ref r9, .int (F 1), .int (F 2), .int (F 3), .int (F 4), .int (F 5), .int (F 6), .ref o9, .ref w9, .int (F 9)]))] U.heap ∧ va_K (dC, dI) classes [] U ∧ va_D (fun _ => True) [(h0, .inr (3, [.ref r9, .int (F 1), .int (F 2), .int (F 3), .int (F 4), .int (F 5), .int (F 6), .ref o9, .ref w9, .int (F 9)]))])) (va_Qv (fun (u9 : Unit) => match u9 with | _ => True) (fun (u9 : Unit) t => match u9 with | _ => va_P (dC, dI) classes [(h0, .inr (3, [.ref r9, .int (clW F 1), .int (clW F 2), .int (clW F 3), .int (clW F 4), .int (clW F 5), .int (clW F 6), .ref o9, .ref w9, .int (clW F 9)]))] t.heap ∧ va_K (dC, dI) classes [] t ∧ va_D (va_A [(h0, .inr (3, [.ref r9, .int (F 1), .int (F 2), .int (F 3), .int (F 4), .int (F 5), .int (F 6), .ref o9, .ref w9, .int (F 9)]))] sz) [(h0, .inr (3, [.ref r9, .int (clW F 1), .int (clW F 2), .int (clW F 3), .int (clW F 4), .int (clW F 5), .int (clW F 6), .ref o9, .ref w9, .int (clW F 9)]))]) (va_A [(h0, .inr (3, [.ref r9, .int (F 1), .int (F 2), .int (F 3), .int (F 4), .int (F 5), .int (F 6), .ref o9, .ref w9, .int (F 9)]))] sz)) 0 0 (va_A [(h0, .inr (3, [.ref r9, .int (F 1), .int (F 2), .int (F 3), .int (F 4), .int (F 5), .int (F 6), .ref o9, .ref w9, .int (F 9)]))] sz) := by
  refine Met.ofW (cc := b_C_wishNothing) (maxL := 1) (ret := none) (by decide) rfl ?_
  intro p e s m args below meth c s₁ B hml hv
  obtain ⟨rfl, hsz, hP, hK, hD0⟩ := hv
  have hx := B.exec
  have hb := B.bytes
  have hr := B.returns
  have hts := atoms_spec (ws := (tbw y_C_wishNothing b_C_wishNothing 1 none)) B.pre
  have hw : ∀ z9 ∈ tb, z9.before ([.ref h0] : List Value).toArray s = true := fun z9 h => hts z9 (List.mem_cons_of_mem _ h)
  have hown : s.vm.findClass "VotedTriple$Processor" = some m.cls := findClass_of_methodNamed B.named
  have hlocks := B.notSynchronized
  subst hsz
  have hD := hD0.self (sz := s.heap.size)
  generalize hAe : va_A [(h0, .inr (3, [.ref r9, .int (F 1), .int (F 2), .int (F 3), .int (F 4), .int (F 5), .int (F 6), .ref o9, .ref w9, .int (F 9)]))] s.heap.size = A at hD ⊢
  have hA : ∀ q : Nat, s.heap.size ≤ q → A q := fun q h => by rw [← hAe]; exact Or.inr h
  have hS : va_S A s.heap s.heap [] := va_S.rf
  have hl := lv_entry ([.ref h0]) (n := 1) (Nat.le_of_ble_eq_true rfl)
  rw [lg_entry_eq]
  generalize (lg_sl ([.ref h0]) ++ List.replicate (1 - (lg_sl ([.ref h0])).length) Slot.unset).toArray = ls at hl ⊢
  have hl : lv_has ls 1 [(0, .ref h0)] := hl
  refine lv_aload_n hx hb d_C_wishNothing_0 rfl (lv_at hl 0 rfl) ?_
  refine lv_iconst (v := 0) hx hb d_C_wishNothing_1 (by decide) ?_
  refine va_put (D := (dC, dI)) (ci := 3) (v := .int 0) (ty := .int) (C := "VotedTriple$PerfectOne") (T := F_E) (N := 10) hx hb hw in_E ft_E tyok_E nm_E hown hK hP hD hS 0 rfl rfl 2 (by decide) (hw _ k_82) (fun _ h9 => h9) rfl (by decide +kernel) rfl rfl (Nat.le_of_ble_eq_true rfl) d_C_wishNothing_2 (fun H locs hP hD hS => ?_)
  have hP : va_P (dC, dI) classes [(h0, .inr (3, [.ref r9, .int (F 1), .int 0, .int (F 3), .int (F 4), .int (F 5), .int (F 6), .ref o9, .ref w9, .int (F 9)]))] H := hP
  have hD : va_D A [(h0, .inr (3, [.ref r9, .int (F 1), .int 0, .int (F 3), .int (F 4), .int (F 5), .int (F 6), .ref o9, .ref w9, .int (F 9)]))] := hD
  refine lv_aload_n hx hb d_C_wishNothing_5 rfl (lv_at hl 0 rfl) ?_
  refine lv_iconst (v := 0) hx hb d_C_wishNothing_6 (by decide) ?_
  refine va_put (D := (dC, dI)) (ci := 3) (v := .int 0) (ty := .int) (C := "VotedTriple$PerfectOne") (T := F_E) (N := 10) hx hb hw in_E ft_E tyok_E nm_E hown hK hP hD hS 0 rfl rfl 3 (by decide) (hw _ k_86) (fun _ h9 => h9) rfl (by decide +kernel) rfl rfl (Nat.le_of_ble_eq_true rfl) d_C_wishNothing_7 (fun H locs hP hD hS => ?_)
  have hP : va_P (dC, dI) classes [(h0, .inr (3, [.ref r9, .int (F 1), .int 0, .int 0, .int (F 4), .int (F 5), .int (F 6), .ref o9, .ref w9, .int (F 9)]))] H := hP
  have hD : va_D A [(h0, .inr (3, [.ref r9, .int (F 1), .int 0, .int 0, .int (F 4), .int (F 5), .int (F 6), .ref o9, .ref w9, .int (F 9)]))] := hD
  have hP9 := hP.sub (ws' := [(h0, .inr (3, [.ref r9, .int (clW F 1), .int (clW F 2), .int (clW F 3), .int (clW F 4), .int (clW F 5), .int (clW F 6), .ref o9, .ref w9, .int (clW F 9)]))]) [0] rfl
  have hD9 := hD.sub (ws' := [(h0, .inr (3, [.ref r9, .int (clW F 1), .int (clW F 2), .int (clW F 3), .int (clW F 4), .int (clW F 5), .int (clW F 6), .ref o9, .ref w9, .int (clW F 9)]))]) [0] (by decide) rfl
  have hK9 := hK.sub (tys' := []) [] rfl
  refine W.widen (k := 0) (n := 0) (Nat.le_of_ble_eq_true rfl) (Nat.le_of_ble_eq_true rfl) ?_
  exact W.vret hx hb hr (fun t ht hW => ⟨⟨(), rfl, trivial, by rw [ht]; exact hP9, va_K.moved hW.alike hK9, hD9⟩, hS.F ht⟩) hS.2.2 d_C_wishNothing_10

set_option maxHeartbeats 4000000 in
set_option maxRecDepth 100000 in
theorem c_C_clearEffects_E (l : Launch) (dC : Nat → ClassId) (dI : Nat → Nat → Nat) (h0 r9 o9 w9 : Nat) (F : Nat → Int32) (sz : Nat) : Met l y_C_clearEffects (tbw y_C_clearEffects b_C_clearEffects 1 none) ({ frames := 1, cells := 0, slots := 0, locals := 20 }) (va_Pc [.ref h0] (fun U => U.heap.size = sz ∧ va_P (dC, dI) classes [(h0, .inr (3, [.ref r9, .int (F 1), .int (F 2), .int (F 3), .int (F 4), .int (F 5), .int (F 6), .ref o9, .ref w9, .int (F 9)]))] U.heap ∧ va_K (dC, dI) classes [] U ∧ va_D (fun _ => True) [(h0, .inr (3, [.ref r9, .int (F 1), .int (F 2), .int (F 3), .int (F 4), .int (F 5), .int (F 6), .ref o9, .ref w9, .int (F 9)]))])) (va_Qv (fun (u9 : Unit) => match u9 with | _ => True) (fun (u9 : Unit) t => match u9 with | _ => va_P (dC, dI) classes [(h0, .inr (3, [.ref r9, .int (clE F 1), .int (clE F 2), .int (clE F 3), .int (clE F 4), .int (clE F 5), .int (clE F 6), .ref o9, .ref w9, .int (clE F 9)]))] t.heap ∧ va_K (dC, dI) classes [] t ∧ va_D (va_A [(h0, .inr (3, [.ref r9, .int (F 1), .int (F 2), .int (F 3), .int (F 4), .int (F 5), .int (F 6), .ref o9, .ref w9, .int (F 9)]))] sz) [(h0, .inr (3, [.ref r9, .int (clE F 1), .int (clE F 2), .int (clE F 3), .int (clE F 4), .int (clE F 5), .int (clE F 6), .ref o9, .ref w9, .int (clE F 9)]))]) (va_A [(h0, .inr (3, [.ref r9, .int (F 1), .int (F 2), .int (F 3), .int (F 4), .int (F 5), .int (F 6), .ref o9, .ref w9, .int (F 9)]))] sz)) 0 0 (va_A [(h0, .inr (3, [.ref r9, .int (F 1), .int (F 2), .int (F 3), .int (F 4), .int (F 5), .int (F 6), .ref o9, .ref w9, .int (F 9)]))] sz) := by
  refine Met.ofW (cc := b_C_clearEffects) (maxL := 1) (ret := none) (by decide) rfl ?_
  intro p e s m args below meth c s₁ B hml hv
  obtain ⟨rfl, hsz, hP, hK, hD0⟩ := hv
  have hx := B.exec
  have hb := B.bytes
  have hr := B.returns
  have hts := atoms_spec (ws := (tbw y_C_clearEffects b_C_clearEffects 1 none)) B.pre
  have hw : ∀ z9 ∈ tb, z9.before ([.ref h0] : List Value).toArray s = true := fun z9 h => hts z9 (List.mem_cons_of_mem _ h)
  have hown : s.vm.findClass "VotedTriple$Processor" = some m.cls := findClass_of_methodNamed B.named
  have hlocks := B.notSynchronized
  subst hsz
  have hD := hD0.self (sz := s.heap.size)
  generalize hAe : va_A [(h0, .inr (3, [.ref r9, .int (F 1), .int (F 2), .int (F 3), .int (F 4), .int (F 5), .int (F 6), .ref o9, .ref w9, .int (F 9)]))] s.heap.size = A at hD ⊢
  have hA : ∀ q : Nat, s.heap.size ≤ q → A q := fun q h => by rw [← hAe]; exact Or.inr h
  have hS : va_S A s.heap s.heap [] := va_S.rf
  have hl := lv_entry ([.ref h0]) (n := 1) (Nat.le_of_ble_eq_true rfl)
  rw [lg_entry_eq]
  generalize (lg_sl ([.ref h0]) ++ List.replicate (1 - (lg_sl ([.ref h0])).length) Slot.unset).toArray = ls at hl ⊢
  have hl : lv_has ls 1 [(0, .ref h0)] := hl
  refine lv_aload_n hx hb d_C_clearEffects_0 rfl (lv_at hl 0 rfl) ?_
  have hPc := hP.sub (ws' := [(h0, .inr (3, [.ref r9, .int (F 1), .int (F 2), .int (F 3), .int (F 4), .int (F 5), .int (F 6), .ref o9, .ref w9, .int (F 9)]))]) [0] rfl
  have hKc := hK.sub (tys' := []) [] rfl
  have hDc := hD.sub (ws' := [(h0, .inr (3, [.ref r9, .int (F 1), .int (F 2), .int (F 3), .int (F 4), .int (F 5), .int (F 6), .ref o9, .ref w9, .int (F 9)]))]) [0] (by decide) rfl
  have hFc := va_free (wc := [(h0, .inr (3, [.ref r9, .int (F 1), .int (F 2), .int (F 3), .int (F 4), .int (F 5), .int (F 6), .ref o9, .ref w9, .int (F 9)]))]) hD hS hA [0] rfl
  refine va_callv (va_runU (C := "VotedTriple$PerfectOne") (As := []) (rest := []) ⟨hx, hb, hml, hown, hw⟩ (c_C_wishNothing_E l dC dI h0 r9 o9 w9 F s.heap.size) (va_cwU (C := "VotedTriple$PerfectOne") (owner := "VotedTriple$Processor") (x := ⟨"VotedTriple$Processor", "wishNothing", "()V"⟩) (y := y_C_wishNothing) 0 hw (gd_l (List.forall_mem_cons.mpr ⟨k_301, List.forall_mem_cons.mpr ⟨k_303, List.forall_mem_cons.mpr ⟨k_304, List.forall_mem_cons.mpr ⟨k_302, List.forall_mem_cons.mpr ⟨k_3, fun _ h => absurd h List.not_mem_nil⟩⟩⟩⟩⟩) (gd (k_306))) rfl rfl rfl rfl (by decide +kernel) ⟨Nat.le_of_ble_eq_true rfl, Nat.le_of_ble_eq_true rfl⟩) ⟨fun a U g mk q => by obtain ⟨q0, q1, qP, qK, qD⟩ := q; exact ⟨q0, q1, qP, va_K.moved (u := U) (U := U.calling g mk a) (Vm.Alike.refl U.vm) qK, qD⟩, va_recv hK hP rfl (q0 := 0) rfl, fun U hU hW => ⟨rfl, by rw [hU], by rw [hU]; exact hPc, va_K.moved hW.alike hKc, hDc.weaken (fun _ _ _ _ => trivial)⟩⟩ rfl rfl hl.1 rfl (lv_room (Nat.le_of_ble_eq_true rfl)) d_C_clearEffects_1 ⟨Nat.le_of_ble_eq_true rfl, Nat.le_of_ble_eq_true rfl⟩) hS (fun q _ h => hFc q h) hFc (fun u9 t H1 locs ht hvm hr2 hB hz1 hk1 hS => ?_)
  obtain ⟨hP1, hK1, hD1⟩ := hB
  rw [ht] at hP1
  have hK1 := va_K.moved hvm.symm hK1
  try dsimp only at hr2 hP1 hK1 hD1
  obtain ⟨hP, hD⟩ := va_join (wr := []) (w1 := [(h0, .inr (3, [.ref r9, .int (clW F 1), .int (clW F 2), .int (clW F 3), .int (clW F 4), .int (clW F 5), .int (clW F 6), .ref o9, .ref w9, .int (clW F 9)]))]) hP hD [0] [] rfl rfl (by decide) (by decide) hk1 hFc hP1 hD1
  have hK := (hK.sub (tys' := []) [] rfl).app hK1
  generalize H1 = H at hP hS ⊢
  have hP : va_P (dC, dI) classes [(h0, .inr (3, [.ref r9, .int (clW F 1), .int (clW F 2), .int (clW F 3), .int (clW F 4), .int (clW F 5), .int (clW F 6), .ref o9, .ref w9, .int (clW F 9)]))] H := hP
  have hD : va_D A [(h0, .inr (3, [.ref r9, .int (clW F 1), .int (clW F 2), .int (clW F 3), .int (clW F 4), .int (clW F 5), .int (clW F 6), .ref o9, .ref w9, .int (clW F 9)]))] := hD
  have hK : va_K (dC, dI) classes [] s := hK
  refine W.widen (k := 0) (n := 0) (Nat.le_of_ble_eq_true rfl) (Nat.le_of_ble_eq_true rfl) ?_
  refine lv_aload_n hx hb d_C_clearEffects_4 rfl (lv_at hl 0 rfl) ?_
  refine lv_iconst (v := (-1)) hx hb d_C_clearEffects_5 (by decide) ?_
  refine va_put (D := (dC, dI)) (ci := 3) (v := .int (-1)) (ty := .int) (C := "VotedTriple$PerfectOne") (T := F_E) (N := 10) hx hb hw in_E ft_E tyok_E nm_E hown hK hP hD hS 0 rfl rfl 4 (by decide) (hw _ k_90) (fun _ h9 => h9) rfl (by decide +kernel) rfl rfl (Nat.le_of_ble_eq_true rfl) d_C_clearEffects_6 (fun H locs hP hD hS => ?_)
  have hP : va_P (dC, dI) classes [(h0, .inr (3, [.ref r9, .int (clW F 1), .int (clW F 2), .int (clW F 3), .int (-1), .int (clW F 5), .int (clW F 6), .ref o9, .ref w9, .int (clW F 9)]))] H := hP
  have hD : va_D A [(h0, .inr (3, [.ref r9, .int (clW F 1), .int (clW F 2), .int (clW F 3), .int (-1), .int (clW F 5), .int (clW F 6), .ref o9, .ref w9, .int (clW F 9)]))] := hD
  refine lv_aload_n hx hb d_C_clearEffects_9 rfl (lv_at hl 0 rfl) ?_
  refine lv_iconst (v := (-1)) hx hb d_C_clearEffects_10 (by decide) ?_
  refine va_put (D := (dC, dI)) (ci := 3) (v := .int (-1)) (ty := .int) (C := "VotedTriple$PerfectOne") (T := F_E) (N := 10) hx hb hw in_E ft_E tyok_E nm_E hown hK hP hD hS 0 rfl rfl 5 (by decide) (hw _ k_91) (fun _ h9 => h9) rfl (by decide +kernel) rfl rfl (Nat.le_of_ble_eq_true rfl) d_C_clearEffects_11 (fun H locs hP hD hS => ?_)
  have hP : va_P (dC, dI) classes [(h0, .inr (3, [.ref r9, .int (clW F 1), .int (clW F 2), .int (clW F 3), .int (-1), .int (-1), .int (clW F 6), .ref o9, .ref w9, .int (clW F 9)]))] H := hP
  have hD : va_D A [(h0, .inr (3, [.ref r9, .int (clW F 1), .int (clW F 2), .int (clW F 3), .int (-1), .int (-1), .int (clW F 6), .ref o9, .ref w9, .int (clW F 9)]))] := hD
  have hP9 := hP.sub (ws' := [(h0, .inr (3, [.ref r9, .int (clE F 1), .int (clE F 2), .int (clE F 3), .int (clE F 4), .int (clE F 5), .int (clE F 6), .ref o9, .ref w9, .int (clE F 9)]))]) [0] rfl
  have hD9 := hD.sub (ws' := [(h0, .inr (3, [.ref r9, .int (clE F 1), .int (clE F 2), .int (clE F 3), .int (clE F 4), .int (clE F 5), .int (clE F 6), .ref o9, .ref w9, .int (clE F 9)]))]) [0] (by decide) rfl
  have hK9 := hK.sub (tys' := []) [] rfl
  refine W.widen (k := 0) (n := 0) (Nat.le_of_ble_eq_true rfl) (Nat.le_of_ble_eq_true rfl) ?_
  exact W.vret hx hb hr (fun t ht hW => ⟨⟨(), rfl, trivial, by rw [ht]; exact hP9, va_K.moved hW.alike hK9, hD9⟩, hS.F ht⟩) hS.2.2 d_C_clearEffects_14
