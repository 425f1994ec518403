set_option maxHeartbeats 4000000 in
set_option maxRecDepth 100000 in
theorem c_P_init (l : Launch) (dC : Nat → ClassId) (dI : Nat → Nat → Nat) (h0 : Nat) (sz : Nat) : Met l y_P_init (tbw y_P_init b_P_init 1 none) ({ frames := 1, cells := 1, slots := 64, locals := 20 }) (va_Pc [.ref h0] (fun U => U.heap.size = sz ∧ va_P (dC, dI) classes [(h0, .inr (1, [.null, .int 0]))] U.heap ∧ va_K (dC, dI) classes [] U ∧ va_D (fun _ => True) [(h0, .inr (1, [.null, .int 0]))])) (va_Qv (fun (u9 : Nat × ClassId) => match u9 with | (q, cA) => True) (fun (u9 : Nat × ClassId) t => match u9 with | (q, cA) => va_P (dC, dI) classes [(h0, .inr (1, [.ref q, .int 0])), (q, .inl (cA, 64, .inl (fun _ => 0)))] t.heap ∧ va_K (dC, dI) classes [(cA, .int)] t ∧ va_D (va_A [(h0, .inr (1, [.null, .int 0]))] sz) [(h0, .inr (1, [.ref q, .int 0])), (q, .inl (cA, 64, .inl (fun _ => 0)))]) (va_A [(h0, .inr (1, [.null, .int 0]))] sz)) 1 64 (va_A [(h0, .inr (1, [.null, .int 0]))] sz) := by
  refine Met.ofW (cc := b_P_init) (maxL := 1) (ret := none) (by decide) rfl ?_
  intro p e s m args below meth c s₁ B hml hv
  obtain ⟨rfl, hsz, hP, hK, hD0⟩ := hv
  have hx := B.exec
  have hb := B.bytes
  have hr := B.returns
  have hts := atoms_spec (ws := (tbw y_P_init b_P_init 1 none)) B.pre
  have hw : ∀ z9 ∈ tb, z9.before ([.ref h0] : List Value).toArray s = true := fun z9 h => hts z9 (List.mem_cons_of_mem _ h)
  have hown : s.vm.findClass "VotedTriple$Program" = some m.cls := findClass_of_methodNamed B.named
  have hlocks := B.notSynchronized
  have hin : meth.name = "<init>" := (name_of_methodNamed B.named B.method).1
  subst hsz
  have hD := hD0.self (sz := s.heap.size)
  generalize hAe : va_A [(h0, .inr (1, [.null, .int 0]))] s.heap.size = A at hD ⊢
  have hA : ∀ q : Nat, s.heap.size ≤ q → A q := fun q h => by rw [← hAe]; exact Or.inr h
  have hS : va_S A s.heap s.heap [] := va_S.rf
  have hl := lv_entry ([.ref h0]) (n := 1) (Nat.le_of_ble_eq_true rfl)
  rw [lg_entry_eq]
  generalize (lg_sl ([.ref h0]) ++ List.replicate (1 - (lg_sl ([.ref h0])).length) Slot.unset).toArray = ls at hl ⊢
  have hl : lv_has ls 1 [(0, .ref h0)] := hl
  refine lv_aload_n hx hb d_P_init_0 rfl (lv_at hl 0 rfl) ?_
  refine W.objInit hx hb hown (hw _ k_31) (hw _ k_24) (hw _ k_25) rfl (by rw [hml]; exact hl.1) rfl d_P_init_1 (Nat.le_of_ble_eq_true rfl) (Nat.le_of_ble_eq_true rfl) ?_
  refine W.eq (g2 := F0 m 4 ls []) rfl ?_
  refine lv_aload_n hx hb d_P_init_4 rfl (lv_at hl 0 rfl) ?_
  refine lv_bipush (v := 64) hx hb d_P_init_5 (by decide) ?_
  refine va_newa (atype := .int) (ty := .int) (a0 := (64, .inl (fun _ => 0))) hx hb (hw _ k_39) rfl hK hP hD hS hA (fun _ => rfl) (by decide) (by decide) (by decide) (Nat.le_of_ble_eq_true rfl) (Nat.le_of_ble_eq_true rfl) d_P_init_7 (fun q1 cA2 H hK hP hD hS => ?_)
  have hK : va_K (dC, dI) classes [(cA2, .int)] s := hK
  have hP : va_P (dC, dI) classes [(h0, .inr (1, [.null, .int 0])), (q1, .inl (cA2, 64, .inl (fun _ => 0)))] H := hP
  have hD : va_D A [(h0, .inr (1, [.null, .int 0])), (q1, .inl (cA2, 64, .inl (fun _ => 0)))] := hD
  refine W.widen (k := 1) (n := 64) (Nat.le_of_ble_eq_true rfl) (Nat.le_of_ble_eq_true rfl) ?_
  refine va_putF (D := (dC, dI)) (ci := 1) (v := .ref q1) (ty := (.array .int)) (C := "VotedTriple$Program") (T := F_P) (N := 2) hx hb hw in_P ft_P tyok_P nm_P hown hK hP hD hS 0 rfl rfl 0 (by decide) (hw _ k_32) (fun _ h9 => h9) rfl hin rfl (by decide +kernel) rfl rfl (Nat.le_of_ble_eq_true rfl) d_P_init_9 (fun H locs hP hD hS => ?_)
  have hP : va_P (dC, dI) classes [(h0, .inr (1, [.ref q1, .int 0])), (q1, .inl (cA2, 64, .inl (fun _ => 0)))] H := hP
  have hD : va_D A [(h0, .inr (1, [.ref q1, .int 0])), (q1, .inl (cA2, 64, .inl (fun _ => 0)))] := hD
  have hP9 := hP.sub (ws' := [(h0, .inr (1, [.ref q1, .int 0])), (q1, .inl (cA2, 64, .inl (fun _ => 0)))]) [0, 1] rfl
  have hD9 := hD.sub (ws' := [(h0, .inr (1, [.ref q1, .int 0])), (q1, .inl (cA2, 64, .inl (fun _ => 0)))]) [0, 1] (by decide) rfl
  have hK9 := hK.sub (tys' := [(cA2, .int)]) [0] rfl
  refine W.widen (k := 1) (n := 64) (Nat.le_of_ble_eq_true rfl) (Nat.le_of_ble_eq_true rfl) ?_
  exact W.vret hx hb hr (fun t ht hW => ⟨⟨(q1, cA2), rfl, trivial, by rw [ht]; exact hP9, va_K.moved hW.alike hK9, hD9⟩, hS.F ht⟩) hS.2.2 d_P_init_12

set_option maxHeartbeats 4000000 in
set_option maxRecDepth 100000 in
theorem c_N_init (l : Launch) (dC : Nat → ClassId) (dI : Nat → Nat → Nat) (h0 : Nat) (sz : Nat) : Met l y_N_init (tbw y_N_init b_N_init 1 none) ({ frames := 1, cells := 1, slots := 64, locals := 20 }) (va_Pc [.ref h0] (fun U => U.heap.size = sz ∧ va_P (dC, dI) classes [(h0, .inr (4, [.null, .int 0]))] U.heap ∧ va_K (dC, dI) classes [] U ∧ va_D (fun _ => True) [(h0, .inr (4, [.null, .int 0]))])) (va_Qv (fun (u9 : Nat × ClassId) => match u9 with | (q, cA) => True) (fun (u9 : Nat × ClassId) t => match u9 with | (q, cA) => va_P (dC, dI) classes [(h0, .inr (4, [.ref q, .int 0])), (q, .inl (cA, 64, .inl (fun _ => 0)))] t.heap ∧ va_K (dC, dI) classes [(cA, .int)] t ∧ va_D (va_A [(h0, .inr (4, [.null, .int 0]))] sz) [(h0, .inr (4, [.ref q, .int 0])), (q, .inl (cA, 64, .inl (fun _ => 0)))]) (va_A [(h0, .inr (4, [.null, .int 0]))] sz)) 1 64 (va_A [(h0, .inr (4, [.null, .int 0]))] sz) := by
  refine Met.ofW (cc := b_N_init) (maxL := 1) (ret := none) (by decide) rfl ?_
  intro p e s m args below meth c s₁ B hml hv
  obtain ⟨rfl, hsz, hP, hK, hD0⟩ := hv
  have hx := B.exec
  have hb := B.bytes
  have hr := B.returns
  have hts := atoms_spec (ws := (tbw y_N_init b_N_init 1 none)) B.pre
  have hw : ∀ z9 ∈ tb, z9.before ([.ref h0] : List Value).toArray s = true := fun z9 h => hts z9 (List.mem_cons_of_mem _ h)
  have hown : s.vm.findClass "VotedTriple$WordsIn" = some m.cls := findClass_of_methodNamed B.named
  have hlocks := B.notSynchronized
  have hin : meth.name = "<init>" := (name_of_methodNamed B.named B.method).1
  subst hsz
  have hD := hD0.self (sz := s.heap.size)
  generalize hAe : va_A [(h0, .inr (4, [.null, .int 0]))] s.heap.size = A at hD ⊢
  have hA : ∀ q : Nat, s.heap.size ≤ q → A q := fun q h => by rw [← hAe]; exact Or.inr h
  have hS : va_S A s.heap s.heap [] := va_S.rf
  have hl := lv_entry ([.ref h0]) (n := 1) (Nat.le_of_ble_eq_true rfl)
  rw [lg_entry_eq]
  generalize (lg_sl ([.ref h0]) ++ List.replicate (1 - (lg_sl ([.ref h0])).length) Slot.unset).toArray = ls at hl ⊢
  have hl : lv_has ls 1 [(0, .ref h0)] := hl
  refine lv_aload_n hx hb d_N_init_0 rfl (lv_at hl 0 rfl) ?_
  refine W.objInit hx hb hown (hw _ k_123) (hw _ k_24) (hw _ k_25) rfl (by rw [hml]; exact hl.1) rfl d_N_init_1 (Nat.le_of_ble_eq_true rfl) (Nat.le_of_ble_eq_true rfl) ?_
  refine W.eq (g2 := F0 m 4 ls []) rfl ?_
  refine lv_aload_n hx hb d_N_init_4 rfl (lv_at hl 0 rfl) ?_
  refine lv_bipush (v := 64) hx hb d_N_init_5 (by decide) ?_
  refine va_newa (atype := .int) (ty := .int) (a0 := (64, .inl (fun _ => 0))) hx hb (hw _ k_39) rfl hK hP hD hS hA (fun _ => rfl) (by decide) (by decide) (by decide) (Nat.le_of_ble_eq_true rfl) (Nat.le_of_ble_eq_true rfl) d_N_init_7 (fun q1 cA2 H hK hP hD hS => ?_)
  have hK : va_K (dC, dI) classes [(cA2, .int)] s := hK
  have hP : va_P (dC, dI) classes [(h0, .inr (4, [.null, .int 0])), (q1, .inl (cA2, 64, .inl (fun _ => 0)))] H := hP
  have hD : va_D A [(h0, .inr (4, [.null, .int 0])), (q1, .inl (cA2, 64, .inl (fun _ => 0)))] := hD
  refine W.widen (k := 1) (n := 64) (Nat.le_of_ble_eq_true rfl) (Nat.le_of_ble_eq_true rfl) ?_
  refine va_putF (D := (dC, dI)) (ci := 4) (v := .ref q1) (ty := (.array .int)) (C := "VotedTriple$WordsIn") (T := F_N) (N := 2) hx hb hw in_N ft_N tyok_N nm_N hown hK hP hD hS 0 rfl rfl 0 (by decide) (hw _ k_124) (fun _ h9 => h9) rfl hin rfl (by decide +kernel) rfl rfl (Nat.le_of_ble_eq_true rfl) d_N_init_9 (fun H locs hP hD hS => ?_)
  have hP : va_P (dC, dI) classes [(h0, .inr (4, [.ref q1, .int 0])), (q1, .inl (cA2, 64, .inl (fun _ => 0)))] H := hP
  have hD : va_D A [(h0, .inr (4, [.ref q1, .int 0])), (q1, .inl (cA2, 64, .inl (fun _ => 0)))] := hD
  have hP9 := hP.sub (ws' := [(h0, .inr (4, [.ref q1, .int 0])), (q1, .inl (cA2, 64, .inl (fun _ => 0)))]) [0, 1] rfl
  have hD9 := hD.sub (ws' := [(h0, .inr (4, [.ref q1, .int 0])), (q1, .inl (cA2, 64, .inl (fun _ => 0)))]) [0, 1] (by decide) rfl
  have hK9 := hK.sub (tys' := [(cA2, .int)]) [0] rfl
  refine W.widen (k := 1) (n := 64) (Nat.le_of_ble_eq_true rfl) (Nat.le_of_ble_eq_true rfl) ?_
  exact W.vret hx hb hr (fun t ht hW => ⟨⟨(q1, cA2), rfl, trivial, by rw [ht]; exact hP9, va_K.moved hW.alike hK9, hD9⟩, hS.F ht⟩) hS.2.2 d_N_init_12

set_option maxHeartbeats 4000000 in
set_option maxRecDepth 100000 in
theorem c_O_init (l : Launch) (dC : Nat → ClassId) (dI : Nat → Nat → Nat) (h0 : Nat) (sz : Nat) : Met l y_O_init (tbw y_O_init b_O_init 1 none) ({ frames := 1, cells := 1, slots := 300, locals := 20 }) (va_Pc [.ref h0] (fun U => U.heap.size = sz ∧ va_P (dC, dI) classes [(h0, .inr (5, [.null, .int 0]))] U.heap ∧ va_K (dC, dI) classes [] U ∧ va_D (fun _ => True) [(h0, .inr (5, [.null, .int 0]))])) (va_Qv (fun (u9 : Nat × ClassId) => match u9 with | (q, cA) => True) (fun (u9 : Nat × ClassId) t => match u9 with | (q, cA) => va_P (dC, dI) classes [(h0, .inr (5, [.ref q, .int 0])), (q, .inl (cA, 300, .inl (fun _ => 0)))] t.heap ∧ va_K (dC, dI) classes [(cA, .int)] t ∧ va_D (va_A [(h0, .inr (5, [.null, .int 0]))] sz) [(h0, .inr (5, [.ref q, .int 0])), (q, .inl (cA, 300, .inl (fun _ => 0)))]) (va_A [(h0, .inr (5, [.null, .int 0]))] sz)) 1 300 (va_A [(h0, .inr (5, [.null, .int 0]))] sz) := by
  refine Met.ofW (cc := b_O_init) (maxL := 1) (ret := none) (by decide) rfl ?_
  intro p e s m args below meth c s₁ B hml hv
  obtain ⟨rfl, hsz, hP, hK, hD0⟩ := hv
  have hx := B.exec
  have hb := B.bytes
  have hr := B.returns
  have hts := atoms_spec (ws := (tbw y_O_init b_O_init 1 none)) B.pre
  have hw : ∀ z9 ∈ tb, z9.before ([.ref h0] : List Value).toArray s = true := fun z9 h => hts z9 (List.mem_cons_of_mem _ h)
  have hown : s.vm.findClass "VotedTriple$WordsOut" = some m.cls := findClass_of_methodNamed B.named
  have hlocks := B.notSynchronized
  have hin : meth.name = "<init>" := (name_of_methodNamed B.named B.method).1
  subst hsz
  have hD := hD0.self (sz := s.heap.size)
  generalize hAe : va_A [(h0, .inr (5, [.null, .int 0]))] s.heap.size = A at hD ⊢
  have hA : ∀ q : Nat, s.heap.size ≤ q → A q := fun q h => by rw [← hAe]; exact Or.inr h
  have hS : va_S A s.heap s.heap [] := va_S.rf
  have hl := lv_entry ([.ref h0]) (n := 1) (Nat.le_of_ble_eq_true rfl)
  rw [lg_entry_eq]
  generalize (lg_sl ([.ref h0]) ++ List.replicate (1 - (lg_sl ([.ref h0])).length) Slot.unset).toArray = ls at hl ⊢
  have hl : lv_has ls 1 [(0, .ref h0)] := hl
  refine lv_aload_n hx hb d_O_init_0 rfl (lv_at hl 0 rfl) ?_
  refine W.objInit hx hb hown (hw _ k_56) (hw _ k_24) (hw _ k_25) rfl (by rw [hml]; exact hl.1) rfl d_O_init_1 (Nat.le_of_ble_eq_true rfl) (Nat.le_of_ble_eq_true rfl) ?_
  refine W.eq (g2 := F0 m 4 ls []) rfl ?_
  refine lv_aload_n hx hb d_O_init_4 rfl (lv_at hl 0 rfl) ?_
  refine lv_sipush (v := 300) hx hb d_O_init_5 (by decide) ?_
  refine va_newa (atype := .int) (ty := .int) (a0 := (300, .inl (fun _ => 0))) hx hb (hw _ k_39) rfl hK hP hD hS hA (fun _ => rfl) (by decide) (by decide) (by decide) (Nat.le_of_ble_eq_true rfl) (Nat.le_of_ble_eq_true rfl) d_O_init_8 (fun q1 cA2 H hK hP hD hS => ?_)
  have hK : va_K (dC, dI) classes [(cA2, .int)] s := hK
  have hP : va_P (dC, dI) classes [(h0, .inr (5, [.null, .int 0])), (q1, .inl (cA2, 300, .inl (fun _ => 0)))] H := hP
  have hD : va_D A [(h0, .inr (5, [.null, .int 0])), (q1, .inl (cA2, 300, .inl (fun _ => 0)))] := hD
  refine W.widen (k := 1) (n := 300) (Nat.le_of_ble_eq_true rfl) (Nat.le_of_ble_eq_true rfl) ?_
  refine va_putF (D := (dC, dI)) (ci := 5) (v := .ref q1) (ty := (.array .int)) (C := "VotedTriple$WordsOut") (T := F_O) (N := 2) hx hb hw in_O ft_O tyok_O nm_O hown hK hP hD hS 0 rfl rfl 0 (by decide) (hw _ k_57) (fun _ h9 => h9) rfl hin rfl (by decide +kernel) rfl rfl (Nat.le_of_ble_eq_true rfl) d_O_init_10 (fun H locs hP hD hS => ?_)
  have hP : va_P (dC, dI) classes [(h0, .inr (5, [.ref q1, .int 0])), (q1, .inl (cA2, 300, .inl (fun _ => 0)))] H := hP
  have hD : va_D A [(h0, .inr (5, [.ref q1, .int 0])), (q1, .inl (cA2, 300, .inl (fun _ => 0)))] := hD
  have hP9 := hP.sub (ws' := [(h0, .inr (5, [.ref q1, .int 0])), (q1, .inl (cA2, 300, .inl (fun _ => 0)))]) [0, 1] rfl
  have hD9 := hD.sub (ws' := [(h0, .inr (5, [.ref q1, .int 0])), (q1, .inl (cA2, 300, .inl (fun _ => 0)))]) [0, 1] (by decide) rfl
  have hK9 := hK.sub (tys' := [(cA2, .int)]) [0] rfl
  refine W.widen (k := 1) (n := 300) (Nat.le_of_ble_eq_true rfl) (Nat.le_of_ble_eq_true rfl) ?_
  exact W.vret hx hb hr (fun t ht hW => ⟨⟨(q1, cA2), rfl, trivial, by rw [ht]; exact hP9, va_K.moved hW.alike hK9, hD9⟩, hS.F ht⟩) hS.2.2 d_O_init_13

set_option maxHeartbeats 4000000 in
set_option maxRecDepth 100000 in
theorem c_C_init_D (l : Launch) (dC : Nat → ClassId) (dI : Nat → Nat → Nat) (h0 : Nat) (sz : Nat) : Met l y_C_init (tbw y_C_init b_C_init 1 none) ({ frames := 1, cells := 1, slots := 8, locals := 20 }) (va_Pc [.ref h0] (fun U => U.heap.size = sz ∧ va_P (dC, dI) classes [(h0, .inr (2, [.null, .int 0, .int 0, .int 0, .int 0, .int 0, .int 0, .null, .int 0, .int 0, .int 0, .int 0, .int 0, .int 0, .int 0, .int 0, .int 0, .int 0, .int 0]))] U.heap ∧ va_K (dC, dI) classes [] U ∧ va_D (fun _ => True) [(h0, .inr (2, [.null, .int 0, .int 0, .int 0, .int 0, .int 0, .int 0, .null, .int 0, .int 0, .int 0, .int 0, .int 0, .int 0, .int 0, .int 0, .int 0, .int 0, .int 0]))])) (va_Qv (fun (u9 : Nat × ClassId) => match u9 with | (q, cA) => True) (fun (u9 : Nat × ClassId) t => match u9 with | (q, cA) => va_P (dC, dI) classes [(h0, .inr (2, [.ref q, .int 0, .int 0, .int 0, .int 0, .int 0, .int 0, .null, .int 0, .int 0, .int 0, .int 0, .int 0, .int 0, .int 0, .int 0, .int 0, .int 0, .int 0])), (q, .inl (cA, 8, .inl (fun _ => 0)))] t.heap ∧ va_K (dC, dI) classes [(cA, .int)] t ∧ va_D (va_A [(h0, .inr (2, [.null, .int 0, .int 0, .int 0, .int 0, .int 0, .int 0, .null, .int 0, .int 0, .int 0, .int 0, .int 0, .int 0, .int 0, .int 0, .int 0, .int 0, .int 0]))] sz) [(h0, .inr (2, [.ref q, .int 0, .int 0, .int 0, .int 0, .int 0, .int 0, .null, .int 0, .int 0, .int 0, .int 0, .int 0, .int 0, .int 0, .int 0, .int 0, .int 0, .int 0])), (q, .inl (cA, 8, .inl (fun _ => 0)))]) (va_A [(h0, .inr (2, [.null, .int 0, .int 0, .int 0, .int 0, .int 0, .int 0, .null, .int 0, .int 0, .int 0, .int 0, .int 0, .int 0, .int 0, .int 0, .int 0, .int 0, .int 0]))] sz)) 1 8 (va_A [(h0, .inr (2, [.null, .int 0, .int 0, .int 0, .int 0, .int 0, .int 0, .null, .int 0, .int 0, .int 0, .int 0, .int 0, .int 0, .int 0, .int 0, .int 0, .int 0, .int 0]))] sz) := by
  refine Met.ofW (cc := b_C_init) (maxL := 1) (ret := none) (by decide) rfl ?_
  intro p e s m args below meth c s₁ B hml hv
  obtain ⟨rfl, hsz, hP, hK, hD0⟩ := hv
  have hx := B.exec
  have hb := B.bytes
  have hr := B.returns
  have hts := atoms_spec (ws := (tbw y_C_init b_C_init 1 none)) B.pre
  have hw : ∀ z9 ∈ tb, z9.before ([.ref h0] : List Value).toArray s = true := fun z9 h => hts z9 (List.mem_cons_of_mem _ h)
  have hown : s.vm.findClass "VotedTriple$Processor" = some m.cls := findClass_of_methodNamed B.named
  have hlocks := B.notSynchronized
  have hin : meth.name = "<init>" := (name_of_methodNamed B.named B.method).1
  subst hsz
  have hD := hD0.self (sz := s.heap.size)
  generalize hAe : va_A [(h0, .inr (2, [.null, .int 0, .int 0, .int 0, .int 0, .int 0, .int 0, .null, .int 0, .int 0, .int 0, .int 0, .int 0, .int 0, .int 0, .int 0, .int 0, .int 0, .int 0]))] s.heap.size = A at hD ⊢
  have hA : ∀ q : Nat, s.heap.size ≤ q → A q := fun q h => by rw [← hAe]; exact Or.inr h
  have hS : va_S A s.heap s.heap [] := va_S.rf
  have hl := lv_entry ([.ref h0]) (n := 1) (Nat.le_of_ble_eq_true rfl)
  rw [lg_entry_eq]
  generalize (lg_sl ([.ref h0]) ++ List.replicate (1 - (lg_sl ([.ref h0])).length) Slot.unset).toArray = ls at hl ⊢
  have hl : lv_has ls 1 [(0, .ref h0)] := hl
  refine lv_aload_n hx hb d_C_init_0 rfl (lv_at hl 0 rfl) ?_
  refine W.objInit hx hb hown (hw _ k_50) (hw _ k_24) (hw _ k_25) rfl (by rw [hml]; exact hl.1) rfl d_C_init_1 (Nat.le_of_ble_eq_true rfl) (Nat.le_of_ble_eq_true rfl) ?_
  refine W.eq (g2 := F0 m 4 ls []) rfl ?_
  refine lv_aload_n hx hb d_C_init_4 rfl (lv_at hl 0 rfl) ?_
  refine lv_bipush (v := 8) hx hb d_C_init_5 (by decide) ?_
  refine va_newa (atype := .int) (ty := .int) (a0 := (8, .inl (fun _ => 0))) hx hb (hw _ k_39) rfl hK hP hD hS hA (fun _ => rfl) (by decide) (by decide) (by decide) (Nat.le_of_ble_eq_true rfl) (Nat.le_of_ble_eq_true rfl) d_C_init_7 (fun q1 cA2 H hK hP hD hS => ?_)
  have hK : va_K (dC, dI) classes [(cA2, .int)] s := hK
  have hP : va_P (dC, dI) classes [(h0, .inr (2, [.null, .int 0, .int 0, .int 0, .int 0, .int 0, .int 0, .null, .int 0, .int 0, .int 0, .int 0, .int 0, .int 0, .int 0, .int 0, .int 0, .int 0, .int 0])), (q1, .inl (cA2, 8, .inl (fun _ => 0)))] H := hP
  have hD : va_D A [(h0, .inr (2, [.null, .int 0, .int 0, .int 0, .int 0, .int 0, .int 0, .null, .int 0, .int 0, .int 0, .int 0, .int 0, .int 0, .int 0, .int 0, .int 0, .int 0, .int 0])), (q1, .inl (cA2, 8, .inl (fun _ => 0)))] := hD
  refine W.widen (k := 1) (n := 8) (Nat.le_of_ble_eq_true rfl) (Nat.le_of_ble_eq_true rfl) ?_
  refine va_putF (D := (dC, dI)) (ci := 2) (v := .ref q1) (ty := (.array .int)) (C := "VotedTriple$VotedModule") (T := F_D) (N := 19) hx hb hw in_D ft_D tyok_D nm_D hown hK hP hD hS 0 rfl rfl 0 (by decide) (hw _ k_70) (fun _ h9 => h9) rfl hin rfl (by decide +kernel) rfl rfl (Nat.le_of_ble_eq_true rfl) d_C_init_9 (fun H locs hP hD hS => ?_)
  have hP : va_P (dC, dI) classes [(h0, .inr (2, [.ref q1, .int 0, .int 0, .int 0, .int 0, .int 0, .int 0, .null, .int 0, .int 0, .int 0, .int 0, .int 0, .int 0, .int 0, .int 0, .int 0, .int 0, .int 0])), (q1, .inl (cA2, 8, .inl (fun _ => 0)))] H := hP
  have hD : va_D A [(h0, .inr (2, [.ref q1, .int 0, .int 0, .int 0, .int 0, .int 0, .int 0, .null, .int 0, .int 0, .int 0, .int 0, .int 0, .int 0, .int 0, .int 0, .int 0, .int 0, .int 0])), (q1, .inl (cA2, 8, .inl (fun _ => 0)))] := hD
  have hP9 := hP.sub (ws' := [(h0, .inr (2, [.ref q1, .int 0, .int 0, .int 0, .int 0, .int 0, .int 0, .null, .int 0, .int 0, .int 0, .int 0, .int 0, .int 0, .int 0, .int 0, .int 0, .int 0, .int 0])), (q1, .inl (cA2, 8, .inl (fun _ => 0)))]) [0, 1] rfl
  have hD9 := hD.sub (ws' := [(h0, .inr (2, [.ref q1, .int 0, .int 0, .int 0, .int 0, .int 0, .int 0, .null, .int 0, .int 0, .int 0, .int 0, .int 0, .int 0, .int 0, .int 0, .int 0, .int 0, .int 0])), (q1, .inl (cA2, 8, .inl (fun _ => 0)))]) [0, 1] (by decide) rfl
  have hK9 := hK.sub (tys' := [(cA2, .int)]) [0] rfl
  refine W.widen (k := 1) (n := 8) (Nat.le_of_ble_eq_true rfl) (Nat.le_of_ble_eq_true rfl) ?_
  exact W.vret hx hb hr (fun t ht hW => ⟨⟨(q1, cA2), rfl, trivial, by rw [ht]; exact hP9, va_K.moved hW.alike hK9, hD9⟩, hS.F ht⟩) hS.2.2 d_C_init_12

set_option maxHeartbeats 4000000 in
set_option maxRecDepth 100000 in
theorem c_C_init_E (l : Launch) (dC : Nat → ClassId) (dI : Nat → Nat → Nat) (h0 : Nat) (sz : Nat) : Met l y_C_init (tbw y_C_init b_C_init 1 none) ({ frames := 1, cells := 1, slots := 8, locals := 20 }) (va_Pc [.ref h0] (fun U => U.heap.size = sz ∧ va_P (dC, dI) classes [(h0, .inr (3, [.null, .int 0, .int 0, .int 0, .int 0, .int 0, .int 0, .null, .null, .int 0]))] U.heap ∧ va_K (dC, dI) classes [] U ∧ va_D (fun _ => True) [(h0, .inr (3, [.null, .int 0, .int 0, .int 0, .int 0, .int 0, .int 0, .null, .null, .int 0]))])) (va_Qv (fun (u9 : Nat × ClassId) => match u9 with | (q, cA) => True) (fun (u9 : Nat × ClassId) t => match u9 with | (q, cA) => va_P (dC, dI) classes [(h0, .inr (3, [.ref q, .int 0, .int 0, .int 0, .int 0, .int 0, .int 0, .null, .null, .int 0])), (q, .inl (cA, 8, .inl (fun _ => 0)))] t.heap ∧ va_K (dC, dI) classes [(cA, .int)] t ∧ va_D (va_A [(h0, .inr (3, [.null, .int 0, .int 0, .int 0, .int 0, .int 0, .int 0, .null, .null, .int 0]))] sz) [(h0, .inr (3, [.ref q, .int 0, .int 0, .int 0, .int 0, .int 0, .int 0, .null, .null, .int 0])), (q, .inl (cA, 8, .inl (fun _ => 0)))]) (va_A [(h0, .inr (3, [.null, .int 0, .int 0, .int 0, .int 0, .int 0, .int 0, .null, .null, .int 0]))] sz)) 1 8 (va_A [(h0, .inr (3, [.null, .int 0, .int 0, .int 0, .int 0, .int 0, .int 0, .null, .null, .int 0]))] sz) := by
  refine Met.ofW (cc := b_C_init) (maxL := 1) (ret := none) (by decide) rfl ?_
  intro p e s m args below meth c s₁ B hml hv
  obtain ⟨rfl, hsz, hP, hK, hD0⟩ := hv
  have hx := B.exec
  have hb := B.bytes
  have hr := B.returns
  have hts := atoms_spec (ws := (tbw y_C_init b_C_init 1 none)) B.pre
  have hw : ∀ z9 ∈ tb, z9.before ([.ref h0] : List Value).toArray s = true := fun z9 h => hts z9 (List.mem_cons_of_mem _ h)
  have hown : s.vm.findClass "VotedTriple$Processor" = some m.cls := findClass_of_methodNamed B.named
  have hlocks := B.notSynchronized
  have hin : meth.name = "<init>" := (name_of_methodNamed B.named B.method).1
  subst hsz
  have hD := hD0.self (sz := s.heap.size)
  generalize hAe : va_A [(h0, .inr (3, [.null, .int 0, .int 0, .int 0, .int 0, .int 0, .int 0, .null, .null, .int 0]))] s.heap.size = A at hD ⊢
  have hA : ∀ q : Nat, s.heap.size ≤ q → A q := fun q h => by rw [← hAe]; exact Or.inr h
  have hS : va_S A s.heap s.heap [] := va_S.rf
  have hl := lv_entry ([.ref h0]) (n := 1) (Nat.le_of_ble_eq_true rfl)
  rw [lg_entry_eq]
  generalize (lg_sl ([.ref h0]) ++ List.replicate (1 - (lg_sl ([.ref h0])).length) Slot.unset).toArray = ls at hl ⊢
  have hl : lv_has ls 1 [(0, .ref h0)] := hl
  refine lv_aload_n hx hb d_C_init_0 rfl (lv_at hl 0 rfl) ?_
  refine W.objInit hx hb hown (hw _ k_50) (hw _ k_24) (hw _ k_25) rfl (by rw [hml]; exact hl.1) rfl d_C_init_1 (Nat.le_of_ble_eq_true rfl) (Nat.le_of_ble_eq_true rfl) ?_
  refine W.eq (g2 := F0 m 4 ls []) rfl ?_
  refine lv_aload_n hx hb d_C_init_4 rfl (lv_at hl 0 rfl) ?_
  refine lv_bipush (v := 8) hx hb d_C_init_5 (by decide) ?_
  refine va_newa (atype := .int) (ty := .int) (a0 := (8, .inl (fun _ => 0))) hx hb (hw _ k_39) rfl hK hP hD hS hA (fun _ => rfl) (by decide) (by decide) (by decide) (Nat.le_of_ble_eq_true rfl) (Nat.le_of_ble_eq_true rfl) d_C_init_7 (fun q1 cA2 H hK hP hD hS => ?_)
  have hK : va_K (dC, dI) classes [(cA2, .int)] s := hK
  have hP : va_P (dC, dI) classes [(h0, .inr (3, [.null, .int 0, .int 0, .int 0, .int 0, .int 0, .int 0, .null, .null, .int 0])), (q1, .inl (cA2, 8, .inl (fun _ => 0)))] H := hP
  have hD : va_D A [(h0, .inr (3, [.null, .int 0, .int 0, .int 0, .int 0, .int 0, .int 0, .null, .null, .int 0])), (q1, .inl (cA2, 8, .inl (fun _ => 0)))] := hD
  refine W.widen (k := 1) (n := 8) (Nat.le_of_ble_eq_true rfl) (Nat.le_of_ble_eq_true rfl) ?_
  refine va_putF (D := (dC, dI)) (ci := 3) (v := .ref q1) (ty := (.array .int)) (C := "VotedTriple$PerfectOne") (T := F_E) (N := 10) hx hb hw in_E ft_E tyok_E nm_E hown hK hP hD hS 0 rfl rfl 0 (by decide) (hw _ k_70) (fun _ h9 => h9) rfl hin rfl (by decide +kernel) rfl rfl (Nat.le_of_ble_eq_true rfl) d_C_init_9 (fun H locs hP hD hS => ?_)
  have hP : va_P (dC, dI) classes [(h0, .inr (3, [.ref q1, .int 0, .int 0, .int 0, .int 0, .int 0, .int 0, .null, .null, .int 0])), (q1, .inl (cA2, 8, .inl (fun _ => 0)))] H := hP
  have hD : va_D A [(h0, .inr (3, [.ref q1, .int 0, .int 0, .int 0, .int 0, .int 0, .int 0, .null, .null, .int 0])), (q1, .inl (cA2, 8, .inl (fun _ => 0)))] := hD
  have hP9 := hP.sub (ws' := [(h0, .inr (3, [.ref q1, .int 0, .int 0, .int 0, .int 0, .int 0, .int 0, .null, .null, .int 0])), (q1, .inl (cA2, 8, .inl (fun _ => 0)))]) [0, 1] rfl
  have hD9 := hD.sub (ws' := [(h0, .inr (3, [.ref q1, .int 0, .int 0, .int 0, .int 0, .int 0, .int 0, .null, .null, .int 0])), (q1, .inl (cA2, 8, .inl (fun _ => 0)))]) [0, 1] (by decide) rfl
  have hK9 := hK.sub (tys' := [(cA2, .int)]) [0] rfl
  refine W.widen (k := 1) (n := 8) (Nat.le_of_ble_eq_true rfl) (Nat.le_of_ble_eq_true rfl) ?_
  exact W.vret hx hb hr (fun t ht hW => ⟨⟨(q1, cA2), rfl, trivial, by rw [ht]; exact hP9, va_K.moved hW.alike hK9, hD9⟩, hS.F ht⟩) hS.2.2 d_C_init_12

set_option maxHeartbeats 4000000 in
set_option maxRecDepth 100000 in
theorem c_D_init (l : Launch) (dC : Nat → ClassId) (dI : Nat → Nat → Nat) (h0 : Nat) (sz : Nat) : Met l y_D_init (tbw y_D_init b_D_init 1 none) ({ frames := 2, cells := 2, slots := 40, locals := 40 }) (va_Pc [.ref h0] (fun U => U.heap.size = sz ∧ va_P (dC, dI) classes [(h0, .inr (2, [.null, .int 0, .int 0, .int 0, .int 0, .int 0, .int 0, .null, .int 0, .int 0, .int 0, .int 0, .int 0, .int 0, .int 0, .int 0, .int 0, .int 0, .int 0]))] U.heap ∧ va_K (dC, dI) classes [] U ∧ va_D (fun _ => True) [(h0, .inr (2, [.null, .int 0, .int 0, .int 0, .int 0, .int 0, .int 0, .null, .int 0, .int 0, .int 0, .int 0, .int 0, .int 0, .int 0, .int 0, .int 0, .int 0, .int 0]))] ∧ nw U)) (va_Qv (fun (u9 : Nat × ClassId × Nat × ClassId) => match u9 with | (r, cr, k, ck) => True) (fun (u9 : Nat × ClassId × Nat × ClassId) t => match u9 with | (r, cr, k, ck) => va_P (dC, dI) classes [(h0, .inr (2, [.ref r, .int 0, .int 0, .int 0, .int 0, .int 0, .int 0, .ref k, .int 0, .int 0, .int 0, .int 0, .int 0, .int 0, .int 0, .int 0, .int 0, .int 0, .int 0])), (r, .inl (cr, 8, .inl (fun _ => 0))), (k, .inl (ck, 32, .inl (fun _ => 0)))] t.heap ∧ va_K (dC, dI) classes [(cr, .int), (ck, .int)] t ∧ va_D (va_A [(h0, .inr (2, [.null, .int 0, .int 0, .int 0, .int 0, .int 0, .int 0, .null, .int 0, .int 0, .int 0, .int 0, .int 0, .int 0, .int 0, .int 0, .int 0, .int 0, .int 0]))] sz) [(h0, .inr (2, [.ref r, .int 0, .int 0, .int 0, .int 0, .int 0, .int 0, .ref k, .int 0, .int 0, .int 0, .int 0, .int 0, .int 0, .int 0, .int 0, .int 0, .int 0, .int 0])), (r, .inl (cr, 8, .inl (fun _ => 0))), (k, .inl (ck, 32, .inl (fun _ => 0)))]) (va_A [(h0, .inr (2, [.null, .int 0, .int 0, .int 0, .int 0, .int 0, .int 0, .null, .int 0, .int 0, .int 0, .int 0, .int 0, .int 0, .int 0, .int 0, .int 0, .int 0, .int 0]))] sz)) 2 40 (va_A [(h0, .inr (2, [.null, .int 0, .int 0, .int 0, .int 0, .int 0, .int 0, .null, .int 0, .int 0, .int 0, .int 0, .int 0, .int 0, .int 0, .int 0, .int 0, .int 0, .int 0]))] sz) := by
  refine Met.ofW (cc := b_D_init) (maxL := 1) (ret := none) (by decide) rfl ?_
  intro p e s m args below meth c s₁ B hml hv
  obtain ⟨rfl, hsz, hP, hK, hD0, hnw⟩ := hv
  have hx := B.exec
  have hb := B.bytes
  have hr := B.returns
  have hts := atoms_spec (ws := (tbw y_D_init b_D_init 1 none)) B.pre
  have hw : ∀ z9 ∈ tb, z9.before ([.ref h0] : List Value).toArray s = true := fun z9 h => hts z9 (List.mem_cons_of_mem _ h)
  have hown : s.vm.findClass "VotedTriple$VotedModule" = some m.cls := findClass_of_methodNamed B.named
  have hlocks := B.notSynchronized
  have hin : meth.name = "<init>" := (name_of_methodNamed B.named B.method).1
  subst hsz
  have hD := hD0.self (sz := s.heap.size)
  generalize hAe : va_A [(h0, .inr (2, [.null, .int 0, .int 0, .int 0, .int 0, .int 0, .int 0, .null, .int 0, .int 0, .int 0, .int 0, .int 0, .int 0, .int 0, .int 0, .int 0, .int 0, .int 0]))] s.heap.size = A at hD ⊢
  have hA : ∀ q : Nat, s.heap.size ≤ q → A q := fun q h => by rw [← hAe]; exact Or.inr h
  have hS : va_S A s.heap s.heap [] := va_S.rf
  have hl := lv_entry ([.ref h0]) (n := 1) (Nat.le_of_ble_eq_true rfl)
  rw [lg_entry_eq]
  generalize (lg_sl ([.ref h0]) ++ List.replicate (1 - (lg_sl ([.ref h0])).length) Slot.unset).toArray = ls at hl ⊢
  have hl : lv_has ls 1 [(0, .ref h0)] := hl
  refine lv_aload_n hx hb d_D_init_0 rfl (lv_at hl 0 rfl) ?_
  have hPc := hP.sub (ws' := [(h0, .inr (2, [.null, .int 0, .int 0, .int 0, .int 0, .int 0, .int 0, .null, .int 0, .int 0, .int 0, .int 0, .int 0, .int 0, .int 0, .int 0, .int 0, .int 0, .int 0]))]) [0] rfl
  have hKc := hK.sub (tys' := []) [] rfl
  have hDc := hD.sub (ws' := [(h0, .inr (2, [.null, .int 0, .int 0, .int 0, .int 0, .int 0, .int 0, .null, .int 0, .int 0, .int 0, .int 0, .int 0, .int 0, .int 0, .int 0, .int 0, .int 0, .int 0]))]) [0] (by decide) rfl
  have hFc := va_free (wc := [(h0, .inr (2, [.null, .int 0, .int 0, .int 0, .int 0, .int 0, .int 0, .null, .int 0, .int 0, .int 0, .int 0, .int 0, .int 0, .int 0, .int 0, .int 0, .int 0, .int 0]))]) hD hS hA [0] rfl
  refine va_callv (va_runIN (As := []) (rest := []) ⟨hx, hb, hml, hown, hw⟩ (c_C_init_D l dC dI h0 s.heap.size) ⟨va_cnB 0 hw (gd (k_49)) rfl rfl rfl (nw_139 hnw) (hw _ k_3) (by decide +kernel) ⟨Nat.le_of_ble_eq_true rfl, Nat.le_of_ble_eq_true rfl⟩, rfl, hw _ k_48⟩ ⟨fun a U g mk q => by obtain ⟨q0, q1, qP, qK, qD⟩ := q; exact ⟨q0, q1, qP, va_K.moved (u := U) (U := U.calling g mk a) (Vm.Alike.refl U.vm) qK, qD⟩, fun U hU hW => ⟨rfl, by rw [hU], by rw [hU]; exact hPc, va_K.moved hW.alike hKc, hDc.weaken (fun _ _ _ _ => trivial)⟩⟩ rfl rfl hl.1 rfl (lv_room (Nat.le_of_ble_eq_true rfl)) d_D_init_1 ⟨Nat.le_of_ble_eq_true rfl, Nat.le_of_ble_eq_true rfl⟩) hS (fun q _ h => hFc q h) hFc (fun u9 t H1 locs ht hvm hr2 hB hz1 hk1 hS => ?_)
  obtain ⟨q3, cA4⟩ := u9
  obtain ⟨hP1, hK1, hD1⟩ := hB
  rw [ht] at hP1
  have hK1 := va_K.moved hvm.symm hK1
  try dsimp only at hr2 hP1 hK1 hD1
  obtain ⟨hP, hD⟩ := va_join (wr := []) (w1 := [(h0, .inr (2, [.ref q3, .int 0, .int 0, .int 0, .int 0, .int 0, .int 0, .null, .int 0, .int 0, .int 0, .int 0, .int 0, .int 0, .int 0, .int 0, .int 0, .int 0, .int 0])), (q3, .inl (cA4, 8, .inl (fun _ => 0)))]) hP hD [0] [] rfl rfl (by decide) (by decide) hk1 hFc hP1 hD1
  have hK := (hK.sub (tys' := []) [] rfl).app hK1
  generalize H1 = H at hP hS ⊢
  have hP : va_P (dC, dI) classes [(h0, .inr (2, [.ref q3, .int 0, .int 0, .int 0, .int 0, .int 0, .int 0, .null, .int 0, .int 0, .int 0, .int 0, .int 0, .int 0, .int 0, .int 0, .int 0, .int 0, .int 0])), (q3, .inl (cA4, 8, .inl (fun _ => 0)))] H := hP
  have hD : va_D A [(h0, .inr (2, [.ref q3, .int 0, .int 0, .int 0, .int 0, .int 0, .int 0, .null, .int 0, .int 0, .int 0, .int 0, .int 0, .int 0, .int 0, .int 0, .int 0, .int 0, .int 0])), (q3, .inl (cA4, 8, .inl (fun _ => 0)))] := hD
  have hK : va_K (dC, dI) classes [(cA4, .int)] s := hK
  refine W.widen (k := 1) (n := 8) (Nat.le_of_ble_eq_true rfl) (Nat.le_of_ble_eq_true rfl) ?_
  refine lv_aload_n hx hb d_D_init_4 rfl (lv_at hl 0 rfl) ?_
  refine lv_bipush (v := 32) hx hb d_D_init_5 (by decide) ?_
  refine va_newa (atype := .int) (ty := .int) (a0 := (32, .inl (fun _ => 0))) hx hb (hw _ k_39) rfl hK hP hD hS hA (fun _ => rfl) (by decide) (by decide) (by decide) (Nat.le_of_ble_eq_true rfl) (Nat.le_of_ble_eq_true rfl) d_D_init_7 (fun q5 cA6 H hK hP hD hS => ?_)
  have hK : va_K (dC, dI) classes [(cA4, .int), (cA6, .int)] s := hK
  have hP : va_P (dC, dI) classes [(h0, .inr (2, [.ref q3, .int 0, .int 0, .int 0, .int 0, .int 0, .int 0, .null, .int 0, .int 0, .int 0, .int 0, .int 0, .int 0, .int 0, .int 0, .int 0, .int 0, .int 0])), (q3, .inl (cA4, 8, .inl (fun _ => 0))), (q5, .inl (cA6, 32, .inl (fun _ => 0)))] H := hP
  have hD : va_D A [(h0, .inr (2, [.ref q3, .int 0, .int 0, .int 0, .int 0, .int 0, .int 0, .null, .int 0, .int 0, .int 0, .int 0, .int 0, .int 0, .int 0, .int 0, .int 0, .int 0, .int 0])), (q3, .inl (cA4, 8, .inl (fun _ => 0))), (q5, .inl (cA6, 32, .inl (fun _ => 0)))] := hD
  refine W.widen (k := 2) (n := 40) (Nat.le_of_ble_eq_true rfl) (Nat.le_of_ble_eq_true rfl) ?_
  refine va_putF (D := (dC, dI)) (ci := 2) (v := .ref q5) (ty := (.array .int)) (C := "VotedTriple$VotedModule") (T := F_D) (N := 19) hx hb hw in_D ft_D tyok_D nm_D hown hK hP hD hS 0 rfl rfl 7 (by decide) (hw _ k_140) (fun _ h9 => h9) rfl hin rfl (by decide +kernel) rfl rfl (Nat.le_of_ble_eq_true rfl) d_D_init_9 (fun H locs hP hD hS => ?_)
  have hP : va_P (dC, dI) classes [(h0, .inr (2, [.ref q3, .int 0, .int 0, .int 0, .int 0, .int 0, .int 0, .ref q5, .int 0, .int 0, .int 0, .int 0, .int 0, .int 0, .int 0, .int 0, .int 0, .int 0, .int 0])), (q3, .inl (cA4, 8, .inl (fun _ => 0))), (q5, .inl (cA6, 32, .inl (fun _ => 0)))] H := hP
  have hD : va_D A [(h0, .inr (2, [.ref q3, .int 0, .int 0, .int 0, .int 0, .int 0, .int 0, .ref q5, .int 0, .int 0, .int 0, .int 0, .int 0, .int 0, .int 0, .int 0, .int 0, .int 0, .int 0])), (q3, .inl (cA4, 8, .inl (fun _ => 0))), (q5, .inl (cA6, 32, .inl (fun _ => 0)))] := hD
  have hP9 := hP.sub (ws' := [(h0, .inr (2, [.ref q3, .int 0, .int 0, .int 0, .int 0, .int 0, .int 0, .ref q5, .int 0, .int 0, .int 0, .int 0, .int 0, .int 0, .int 0, .int 0, .int 0, .int 0, .int 0])), (q3, .inl (cA4, 8, .inl (fun _ => 0))), (q5, .inl (cA6, 32, .inl (fun _ => 0)))]) [0, 1, 2] rfl
  have hD9 := hD.sub (ws' := [(h0, .inr (2, [.ref q3, .int 0, .int 0, .int 0, .int 0, .int 0, .int 0, .ref q5, .int 0, .int 0, .int 0, .int 0, .int 0, .int 0, .int 0, .int 0, .int 0, .int 0, .int 0])), (q3, .inl (cA4, 8, .inl (fun _ => 0))), (q5, .inl (cA6, 32, .inl (fun _ => 0)))]) [0, 1, 2] (by decide) rfl
  have hK9 := hK.sub (tys' := [(cA4, .int), (cA6, .int)]) [0, 1] rfl
  refine W.widen (k := 2) (n := 40) (Nat.le_of_ble_eq_true rfl) (Nat.le_of_ble_eq_true rfl) ?_
  exact W.vret hx hb hr (fun t ht hW => ⟨⟨(q3, cA4, q5, cA6), rfl, trivial, by rw [ht]; exact hP9, va_K.moved hW.alike hK9, hD9⟩, hS.F ht⟩) hS.2.2 d_D_init_12

set_option maxHeartbeats 4000000 in
set_option maxRecDepth 100000 in
theorem c_E_init (l : Launch) (dC : Nat → ClassId) (dI : Nat → Nat → Nat) (h0 : Nat) (sz : Nat) : Met l y_E_init (tbw y_E_init b_E_init 1 none) ({ frames := 2, cells := 4, slots := 342, locals := 40 }) (va_Pc [.ref h0] (fun U => U.heap.size = sz ∧ va_P (dC, dI) classes [(h0, .inr (3, [.null, .int 0, .int 0, .int 0, .int 0, .int 0, .int 0, .null, .null, .int 0]))] U.heap ∧ va_K (dC, dI) classes [] U ∧ va_D (fun _ => True) [(h0, .inr (3, [.null, .int 0, .int 0, .int 0, .int 0, .int 0, .int 0, .null, .null, .int 0]))] ∧ nw U)) (va_Qv (fun (u9 : Nat × Nat × Nat × Nat) => match u9 with | (r, o, k, w) => True) (fun (u9 : Nat × Nat × Nat × Nat) t => match u9 with | (r, o, k, w) => va_P (dC, dI) classes [(h0, .inr (3, [.ref r, .int 0, .int 0, .int 0, .int 0, .int 0, .int 0, .ref o, .ref w, .int 0])), (o, .inr (5, [.ref k, .int 0]))] t.heap ∧ va_K (dC, dI) classes [] t ∧ va_D (va_A [(h0, .inr (3, [.null, .int 0, .int 0, .int 0, .int 0, .int 0, .int 0, .null, .null, .int 0]))] sz) [(h0, .inr (3, [.ref r, .int 0, .int 0, .int 0, .int 0, .int 0, .int 0, .ref o, .ref w, .int 0])), (o, .inr (5, [.ref k, .int 0]))]) (va_A [(h0, .inr (3, [.null, .int 0, .int 0, .int 0, .int 0, .int 0, .int 0, .null, .null, .int 0]))] sz)) 4 342 (va_A [(h0, .inr (3, [.null, .int 0, .int 0, .int 0, .int 0, .int 0, .int 0, .null, .null, .int 0]))] sz) := by
  refine Met.ofW (cc := b_E_init) (maxL := 1) (ret := none) (by decide) rfl ?_
  intro p e s m args below meth c s₁ B hml hv
  obtain ⟨rfl, hsz, hP, hK, hD0, hnw⟩ := hv
  have hx := B.exec
  have hb := B.bytes
  have hr := B.returns
  have hts := atoms_spec (ws := (tbw y_E_init b_E_init 1 none)) B.pre
  have hw : ∀ z9 ∈ tb, z9.before ([.ref h0] : List Value).toArray s = true := fun z9 h => hts z9 (List.mem_cons_of_mem _ h)
  have hown : s.vm.findClass "VotedTriple$PerfectOne" = some m.cls := findClass_of_methodNamed B.named
  have hlocks := B.notSynchronized
  have hin : meth.name = "<init>" := (name_of_methodNamed B.named B.method).1
  subst hsz
  have hD := hD0.self (sz := s.heap.size)
  generalize hAe : va_A [(h0, .inr (3, [.null, .int 0, .int 0, .int 0, .int 0, .int 0, .int 0, .null, .null, .int 0]))] s.heap.size = A at hD ⊢
  have hA : ∀ q : Nat, s.heap.size ≤ q → A q := fun q h => by rw [← hAe]; exact Or.inr h
  have hS : va_S A s.heap s.heap [] := va_S.rf
  have hl := lv_entry ([.ref h0]) (n := 1) (Nat.le_of_ble_eq_true rfl)
  rw [lg_entry_eq]
  generalize (lg_sl ([.ref h0]) ++ List.replicate (1 - (lg_sl ([.ref h0])).length) Slot.unset).toArray = ls at hl ⊢
  have hl : lv_has ls 1 [(0, .ref h0)] := hl
  refine lv_aload_n hx hb d_E_init_0 rfl (lv_at hl 0 rfl) ?_
  have hPc := hP.sub (ws' := [(h0, .inr (3, [.null, .int 0, .int 0, .int 0, .int 0, .int 0, .int 0, .null, .null, .int 0]))]) [0] rfl
  have hKc := hK.sub (tys' := []) [] rfl
  have hDc := hD.sub (ws' := [(h0, .inr (3, [.null, .int 0, .int 0, .int 0, .int 0, .int 0, .int 0, .null, .null, .int 0]))]) [0] (by decide) rfl
  have hFc := va_free (wc := [(h0, .inr (3, [.null, .int 0, .int 0, .int 0, .int 0, .int 0, .int 0, .null, .null, .int 0]))]) hD hS hA [0] rfl
  refine va_callv (va_runIN (As := []) (rest := []) ⟨hx, hb, hml, hown, hw⟩ (c_C_init_E l dC dI h0 s.heap.size) ⟨va_cnB 0 hw (gd (k_49)) rfl rfl rfl (nw_47 hnw) (hw _ k_3) (by decide +kernel) ⟨Nat.le_of_ble_eq_true rfl, Nat.le_of_ble_eq_true rfl⟩, rfl, hw _ k_48⟩ ⟨fun a U g mk q => by obtain ⟨q0, q1, qP, qK, qD⟩ := q; exact ⟨q0, q1, qP, va_K.moved (u := U) (U := U.calling g mk a) (Vm.Alike.refl U.vm) qK, qD⟩, fun U hU hW => ⟨rfl, by rw [hU], by rw [hU]; exact hPc, va_K.moved hW.alike hKc, hDc.weaken (fun _ _ _ _ => trivial)⟩⟩ rfl rfl hl.1 rfl (lv_room (Nat.le_of_ble_eq_true rfl)) d_E_init_1 ⟨Nat.le_of_ble_eq_true rfl, Nat.le_of_ble_eq_true rfl⟩) hS (fun q _ h => hFc q h) hFc (fun u9 t H1 locs ht hvm hr2 hB hz1 hk1 hS => ?_)
  obtain ⟨q3, cA4⟩ := u9
  obtain ⟨hP1, hK1, hD1⟩ := hB
  rw [ht] at hP1
  have hK1 := va_K.moved hvm.symm hK1
  try dsimp only at hr2 hP1 hK1 hD1
  obtain ⟨hP, hD⟩ := va_join (wr := []) (w1 := [(h0, .inr (3, [.ref q3, .int 0, .int 0, .int 0, .int 0, .int 0, .int 0, .null, .null, .int 0])), (q3, .inl (cA4, 8, .inl (fun _ => 0)))]) hP hD [0] [] rfl rfl (by decide) (by decide) hk1 hFc hP1 hD1
  have hK := (hK.sub (tys' := []) [] rfl).app hK1
  generalize H1 = H at hP hS ⊢
  have hP : va_P (dC, dI) classes [(h0, .inr (3, [.ref q3, .int 0, .int 0, .int 0, .int 0, .int 0, .int 0, .null, .null, .int 0])), (q3, .inl (cA4, 8, .inl (fun _ => 0)))] H := hP
  have hD : va_D A [(h0, .inr (3, [.ref q3, .int 0, .int 0, .int 0, .int 0, .int 0, .int 0, .null, .null, .int 0])), (q3, .inl (cA4, 8, .inl (fun _ => 0)))] := hD
  have hK : va_K (dC, dI) classes [(cA4, .int)] s := hK
  refine W.widen (k := 1) (n := 8) (Nat.le_of_ble_eq_true rfl) (Nat.le_of_ble_eq_true rfl) ?_
  refine lv_aload_n hx hb d_E_init_4 rfl (lv_at hl 0 rfl) ?_
  refine va_new (ci := 5) (fs := [.null, .int 0]) (C := "VotedTriple$WordsOut") (T := F_O) (N := 2) hx hb hw in_O ft_O tyok_O hown (hw _ k_51) (hw _ k_52) (hw _ k_5) hK hP hD hS hA rfl df_O (Nat.le_of_ble_eq_true rfl) (Nat.le_of_ble_eq_true rfl) d_E_init_5 (fun q5 H hP hD hS => ?_)
  have hP : va_P (dC, dI) classes [(h0, .inr (3, [.ref q3, .int 0, .int 0, .int 0, .int 0, .int 0, .int 0, .null, .null, .int 0])), (q3, .inl (cA4, 8, .inl (fun _ => 0))), (q5, .inr (5, [.null, .int 0]))] H := hP
  have hD : va_D A [(h0, .inr (3, [.ref q3, .int 0, .int 0, .int 0, .int 0, .int 0, .int 0, .null, .null, .int 0])), (q3, .inl (cA4, 8, .inl (fun _ => 0))), (q5, .inr (5, [.null, .int 0]))] := hD
  refine W.widen (k := 2) (n := 10) (Nat.le_of_ble_eq_true rfl) (Nat.le_of_ble_eq_true rfl) ?_
  refine lv_dup hx hb d_E_init_8 rfl ?_
  have hPc := hP.sub (ws' := [(q5, .inr (5, [.null, .int 0]))]) [2] rfl
  have hKc := hK.sub (tys' := []) [] rfl
  have hDc := hD.sub (ws' := [(q5, .inr (5, [.null, .int 0]))]) [2] (by decide) rfl
  have hFc := va_free (wc := [(q5, .inr (5, [.null, .int 0]))]) hD hS hA [2] rfl
  refine va_callv (va_runIN (As := []) (rest := [.ref q5, .ref h0]) ⟨hx, hb, hml, hown, hw⟩ (c_O_init l dC dI q5 H.size) ⟨va_cnB 0 hw (gd (k_55)) rfl rfl rfl (nw_53 hnw) (hw _ k_5) (by decide +kernel) ⟨Nat.le_of_ble_eq_true rfl, Nat.le_of_ble_eq_true rfl⟩, rfl, hw _ k_54⟩ ⟨fun a U g mk q => by obtain ⟨q0, q1, qP, qK, qD⟩ := q; exact ⟨q0, q1, qP, va_K.moved (u := U) (U := U.calling g mk a) (Vm.Alike.refl U.vm) qK, qD⟩, fun U hU hW => ⟨rfl, by rw [hU], by rw [hU]; exact hPc, va_K.moved hW.alike hKc, hDc.weaken (fun _ _ _ _ => trivial)⟩⟩ rfl rfl hl.1 rfl (lv_room (Nat.le_of_ble_eq_true rfl)) d_E_init_9 ⟨Nat.le_of_ble_eq_true rfl, Nat.le_of_ble_eq_true rfl⟩) hS (fun q _ h => hFc q h) hFc (fun u9 t H1 locs ht hvm hr7 hB hz1 hk1 hS => ?_)
  obtain ⟨q8, cA9⟩ := u9
  obtain ⟨hP1, hK1, hD1⟩ := hB
  rw [ht] at hP1
  have hK1 := va_K.moved hvm.symm hK1
  try dsimp only at hr7 hP1 hK1 hD1
  obtain ⟨hP, hD⟩ := va_join (wr := [(h0, .inr (3, [.ref q3, .int 0, .int 0, .int 0, .int 0, .int 0, .int 0, .null, .null, .int 0])), (q3, .inl (cA4, 8, .inl (fun _ => 0)))]) (w1 := [(q5, .inr (5, [.ref q8, .int 0])), (q8, .inl (cA9, 300, .inl (fun _ => 0)))]) hP hD [2] [0, 1] rfl rfl (by decide) (by decide) hk1 hFc hP1 hD1
  have hK := (hK.sub (tys' := [(cA4, .int)]) [0] rfl).app hK1
  generalize H1 = H at hP hS ⊢
  have hP : va_P (dC, dI) classes [(h0, .inr (3, [.ref q3, .int 0, .int 0, .int 0, .int 0, .int 0, .int 0, .null, .null, .int 0])), (q3, .inl (cA4, 8, .inl (fun _ => 0))), (q5, .inr (5, [.ref q8, .int 0])), (q8, .inl (cA9, 300, .inl (fun _ => 0)))] H := hP
  have hD : va_D A [(h0, .inr (3, [.ref q3, .int 0, .int 0, .int 0, .int 0, .int 0, .int 0, .null, .null, .int 0])), (q3, .inl (cA4, 8, .inl (fun _ => 0))), (q5, .inr (5, [.ref q8, .int 0])), (q8, .inl (cA9, 300, .inl (fun _ => 0)))] := hD
  have hK : va_K (dC, dI) classes [(cA4, .int), (cA9, .int)] s := hK
  refine W.widen (k := 3) (n := 310) (Nat.le_of_ble_eq_true rfl) (Nat.le_of_ble_eq_true rfl) ?_
  refine va_putF (D := (dC, dI)) (ci := 3) (v := .ref q5) (ty := (.object "VotedTriple$WordsOut")) (C := "VotedTriple$PerfectOne") (T := F_E) (N := 10) hx hb hw in_E ft_E tyok_E nm_E hown hK hP hD hS 0 rfl rfl 7 (by decide) (hw _ k_66) (fun _ h9 => h9) rfl hin rfl (by decide +kernel) rfl rfl (Nat.le_of_ble_eq_true rfl) d_E_init_12 (fun H locs hP hD hS => ?_)
  have hP : va_P (dC, dI) classes [(h0, .inr (3, [.ref q3, .int 0, .int 0, .int 0, .int 0, .int 0, .int 0, .ref q5, .null, .int 0])), (q3, .inl (cA4, 8, .inl (fun _ => 0))), (q5, .inr (5, [.ref q8, .int 0])), (q8, .inl (cA9, 300, .inl (fun _ => 0)))] H := hP
  have hD : va_D A [(h0, .inr (3, [.ref q3, .int 0, .int 0, .int 0, .int 0, .int 0, .int 0, .ref q5, .null, .int 0])), (q3, .inl (cA4, 8, .inl (fun _ => 0))), (q5, .inr (5, [.ref q8, .int 0])), (q8, .inl (cA9, 300, .inl (fun _ => 0)))] := hD
  refine lv_aload_n hx hb d_E_init_15 rfl (lv_at hl 0 rfl) ?_
  refine lv_bipush (v := 32) hx hb d_E_init_16 (by decide) ?_
  refine va_newa (atype := .int) (ty := .int) (a0 := (32, .inl (fun _ => 0))) hx hb (hw _ k_39) rfl hK hP hD hS hA (fun _ => rfl) (by decide) (by decide) (by decide) (Nat.le_of_ble_eq_true rfl) (Nat.le_of_ble_eq_true rfl) d_E_init_18 (fun q10 cA11 H hK hP hD hS => ?_)
  have hK : va_K (dC, dI) classes [(cA4, .int), (cA9, .int), (cA11, .int)] s := hK
  have hP : va_P (dC, dI) classes [(h0, .inr (3, [.ref q3, .int 0, .int 0, .int 0, .int 0, .int 0, .int 0, .ref q5, .null, .int 0])), (q3, .inl (cA4, 8, .inl (fun _ => 0))), (q5, .inr (5, [.ref q8, .int 0])), (q8, .inl (cA9, 300, .inl (fun _ => 0))), (q10, .inl (cA11, 32, .inl (fun _ => 0)))] H := hP
  have hD : va_D A [(h0, .inr (3, [.ref q3, .int 0, .int 0, .int 0, .int 0, .int 0, .int 0, .ref q5, .null, .int 0])), (q3, .inl (cA4, 8, .inl (fun _ => 0))), (q5, .inr (5, [.ref q8, .int 0])), (q8, .inl (cA9, 300, .inl (fun _ => 0))), (q10, .inl (cA11, 32, .inl (fun _ => 0)))] := hD
  refine W.widen (k := 4) (n := 342) (Nat.le_of_ble_eq_true rfl) (Nat.le_of_ble_eq_true rfl) ?_
  refine va_putF (D := (dC, dI)) (ci := 3) (v := .ref q10) (ty := (.array .int)) (C := "VotedTriple$PerfectOne") (T := F_E) (N := 10) hx hb hw in_E ft_E tyok_E nm_E hown hK hP hD hS 0 rfl rfl 8 (by decide) (hw _ k_68) (fun _ h9 => h9) rfl hin rfl (by decide +kernel) rfl rfl (Nat.le_of_ble_eq_true rfl) d_E_init_20 (fun H locs hP hD hS => ?_)
  have hP : va_P (dC, dI) classes [(h0, .inr (3, [.ref q3, .int 0, .int 0, .int 0, .int 0, .int 0, .int 0, .ref q5, .ref q10, .int 0])), (q3, .inl (cA4, 8, .inl (fun _ => 0))), (q5, .inr (5, [.ref q8, .int 0])), (q8, .inl (cA9, 300, .inl (fun _ => 0))), (q10, .inl (cA11, 32, .inl (fun _ => 0)))] H := hP
  have hD : va_D A [(h0, .inr (3, [.ref q3, .int 0, .int 0, .int 0, .int 0, .int 0, .int 0, .ref q5, .ref q10, .int 0])), (q3, .inl (cA4, 8, .inl (fun _ => 0))), (q5, .inr (5, [.ref q8, .int 0])), (q8, .inl (cA9, 300, .inl (fun _ => 0))), (q10, .inl (cA11, 32, .inl (fun _ => 0)))] := hD
  have hP9 := hP.sub (ws' := [(h0, .inr (3, [.ref q3, .int 0, .int 0, .int 0, .int 0, .int 0, .int 0, .ref q5, .ref q10, .int 0])), (q5, .inr (5, [.ref q8, .int 0]))]) [0, 2] rfl
  have hD9 := hD.sub (ws' := [(h0, .inr (3, [.ref q3, .int 0, .int 0, .int 0, .int 0, .int 0, .int 0, .ref q5, .ref q10, .int 0])), (q5, .inr (5, [.ref q8, .int 0]))]) [0, 2] (by decide) rfl
  have hK9 := hK.sub (tys' := []) [] rfl
  refine W.widen (k := 4) (n := 342) (Nat.le_of_ble_eq_true rfl) (Nat.le_of_ble_eq_true rfl) ?_
  exact W.vret hx hb hr (fun t ht hW => ⟨⟨(q3, q5, q8, q10), rfl, trivial, by rw [ht]; exact hP9, va_K.moved hW.alike hK9, hD9⟩, hS.F ht⟩) hS.2.2 d_E_init_23

set_option maxHeartbeats 4000000 in
set_option maxRecDepth 100000 in
theorem c_T_init (l : Launch) (dC : Nat → ClassId) (dI : Nat → Nat → Nat) (h0 : Nat) (sz : Nat) : Met l y_T_init (tbw y_T_init b_T_init 2 none) ({ frames := 3, cells := 21, slots := 966, locals := 60 }) (va_Pc [.ref h0] (fun U => U.heap.size = sz ∧ va_P (dC, dI) classes [(h0, .inr (0, [.null, .null, .null, .null, .null, .int 0, .int 0, .int 0, .int 0, .int 0, .int 0]))] U.heap ∧ va_K (dC, dI) classes [] U ∧ va_D (fun _ => True) [(h0, .inr (0, [.null, .null, .null, .null, .null, .int 0, .int 0, .int 0, .int 0, .int 0, .int 0]))] ∧ nw U)) (va_Qv (fun (u9 : Nat × Nat × Nat × Nat × Nat × Nat × ClassId × Nat × Nat × Nat × Nat × Nat × Nat) => match u9 with | (a0, a1, a2, a3, a4, pw, cp, er, eo, ek, ew, nw, ok) => True) (fun (u9 : Nat × Nat × Nat × Nat × Nat × Nat × ClassId × Nat × Nat × Nat × Nat × Nat × Nat) t => match u9 with | (a0, a1, a2, a3, a4, pw, cp, er, eo, ek, ew, nw, ok) => va_P (dC, dI) classes [(h0, .inr (0, [.ref a0, .ref a1, .ref a2, .ref a3, .ref a4, .int 0, .int 0, .int 0, .int 0, .int 0, .int 0])), (a0, .inr (1, [.ref pw, .int 0])), (pw, .inl (cp, 64, .inl (fun _ => 0))), (a2, .inr (3, [.ref er, .int 0, .int 0, .int 0, .int 0, .int 0, .int 0, .ref eo, .ref ew, .int 0])), (eo, .inr (5, [.ref ek, .int 0])), (a3, .inr (4, [.ref nw, .int 0])), (a4, .inr (5, [.ref ok, .int 0]))] t.heap ∧ va_K (dC, dI) classes [(cp, .int)] t ∧ va_D (va_A [(h0, .inr (0, [.null, .null, .null, .null, .null, .int 0, .int 0, .int 0, .int 0, .int 0, .int 0]))] sz) [(h0, .inr (0, [.ref a0, .ref a1, .ref a2, .ref a3, .ref a4, .int 0, .int 0, .int 0, .int 0, .int 0, .int 0])), (a0, .inr (1, [.ref pw, .int 0])), (pw, .inl (cp, 64, .inl (fun _ => 0))), (a2, .inr (3, [.ref er, .int 0, .int 0, .int 0, .int 0, .int 0, .int 0, .ref eo, .ref ew, .int 0])), (eo, .inr (5, [.ref ek, .int 0])), (a3, .inr (4, [.ref nw, .int 0])), (a4, .inr (5, [.ref ok, .int 0]))]) (va_A [(h0, .inr (0, [.null, .null, .null, .null, .null, .int 0, .int 0, .int 0, .int 0, .int 0, .int 0]))] sz)) 21 966 (va_A [(h0, .inr (0, [.null, .null, .null, .null, .null, .int 0, .int 0, .int 0, .int 0, .int 0, .int 0]))] sz) := by
  refine Met.ofW (cc := b_T_init) (maxL := 2) (ret := none) (by decide) rfl ?_
  intro p e s m args below meth c s₁ B hml hv
  obtain ⟨rfl, hsz, hP, hK, hD0, hnw⟩ := hv
  have hx := B.exec
  have hb := B.bytes
  have hr := B.returns
  have hts := atoms_spec (ws := (tbw y_T_init b_T_init 2 none)) B.pre
  have hw : ∀ z9 ∈ tb, z9.before ([.ref h0] : List Value).toArray s = true := fun z9 h => hts z9 (List.mem_cons_of_mem _ h)
  have hown : s.vm.findClass "VotedTriple" = some m.cls := findClass_of_methodNamed B.named
  have hlocks := B.notSynchronized
  have hin : meth.name = "<init>" := (name_of_methodNamed B.named B.method).1
  subst hsz
  have hD := hD0.self (sz := s.heap.size)
  generalize hAe : va_A [(h0, .inr (0, [.null, .null, .null, .null, .null, .int 0, .int 0, .int 0, .int 0, .int 0, .int 0]))] s.heap.size = A at hD ⊢
  have hA : ∀ q : Nat, s.heap.size ≤ q → A q := fun q h => by rw [← hAe]; exact Or.inr h
  have hS : va_S A s.heap s.heap [] := va_S.rf
  have hl := lv_entry ([.ref h0]) (n := 2) (Nat.le_of_ble_eq_true rfl)
  rw [lg_entry_eq]
  generalize (lg_sl ([.ref h0]) ++ List.replicate (2 - (lg_sl ([.ref h0])).length) Slot.unset).toArray = ls at hl ⊢
  have hl : lv_has ls 2 [(0, .ref h0)] := hl
  refine lv_aload_n hx hb d_T_init_0 rfl (lv_at hl 0 rfl) ?_
  refine W.objInit hx hb hown (hw _ k_23) (hw _ k_24) (hw _ k_25) rfl (by rw [hml]; exact hl.1) rfl d_T_init_1 (Nat.le_of_ble_eq_true rfl) (Nat.le_of_ble_eq_true rfl) ?_
  refine W.eq (g2 := F0 m 4 ls []) rfl ?_
  refine lv_aload_n hx hb d_T_init_4 rfl (lv_at hl 0 rfl) ?_
  refine va_new (ci := 1) (fs := [.null, .int 0]) (C := "VotedTriple$Program") (T := F_P) (N := 2) hx hb hw in_P ft_P tyok_P hown (hw _ k_26) (hw _ k_27) (hw _ k_2) hK hP hD hS hA rfl df_P (Nat.le_of_ble_eq_true rfl) (Nat.le_of_ble_eq_true rfl) d_T_init_5 (fun q1 H hP hD hS => ?_)
  have hP : va_P (dC, dI) classes [(h0, .inr (0, [.null, .null, .null, .null, .null, .int 0, .int 0, .int 0, .int 0, .int 0, .int 0])), (q1, .inr (1, [.null, .int 0]))] H := hP
  have hD : va_D A [(h0, .inr (0, [.null, .null, .null, .null, .null, .int 0, .int 0, .int 0, .int 0, .int 0, .int 0])), (q1, .inr (1, [.null, .int 0]))] := hD
  refine W.widen (k := 1) (n := 2) (Nat.le_of_ble_eq_true rfl) (Nat.le_of_ble_eq_true rfl) ?_
  refine lv_dup hx hb d_T_init_8 rfl ?_
  have hPc := hP.sub (ws' := [(q1, .inr (1, [.null, .int 0]))]) [1] rfl
  have hKc := hK.sub (tys' := []) [] rfl
  have hDc := hD.sub (ws' := [(q1, .inr (1, [.null, .int 0]))]) [1] (by decide) rfl
  have hFc := va_free (wc := [(q1, .inr (1, [.null, .int 0]))]) hD hS hA [1] rfl
  refine va_callv (va_runIN (As := []) (rest := [.ref q1, .ref h0]) ⟨hx, hb, hml, hown, hw⟩ (c_P_init l dC dI q1 H.size) ⟨va_cnB 0 hw (gd (k_30)) rfl rfl rfl (nw_28 hnw) (hw _ k_2) (by decide +kernel) ⟨Nat.le_of_ble_eq_true rfl, Nat.le_of_ble_eq_true rfl⟩, rfl, hw _ k_29⟩ ⟨fun a U g mk q => by obtain ⟨q0, q1, qP, qK, qD⟩ := q; exact ⟨q0, q1, qP, va_K.moved (u := U) (U := U.calling g mk a) (Vm.Alike.refl U.vm) qK, qD⟩, fun U hU hW => ⟨rfl, by rw [hU], by rw [hU]; exact hPc, va_K.moved hW.alike hKc, hDc.weaken (fun _ _ _ _ => trivial)⟩⟩ rfl rfl hl.1 rfl (lv_room (Nat.le_of_ble_eq_true rfl)) d_T_init_9 ⟨Nat.le_of_ble_eq_true rfl, Nat.le_of_ble_eq_true rfl⟩) hS (fun q _ h => hFc q h) hFc (fun u9 t H1 locs ht hvm hr3 hB hz1 hk1 hS => ?_)
  obtain ⟨q4, cA5⟩ := u9
  obtain ⟨hP1, hK1, hD1⟩ := hB
  rw [ht] at hP1
  have hK1 := va_K.moved hvm.symm hK1
  try dsimp only at hr3 hP1 hK1 hD1
  obtain ⟨hP, hD⟩ := va_join (wr := [(h0, .inr (0, [.null, .null, .null, .null, .null, .int 0, .int 0, .int 0, .int 0, .int 0, .int 0]))]) (w1 := [(q1, .inr (1, [.ref q4, .int 0])), (q4, .inl (cA5, 64, .inl (fun _ => 0)))]) hP hD [1] [0] rfl rfl (by decide) (by decide) hk1 hFc hP1 hD1
  have hK := (hK.sub (tys' := []) [] rfl).app hK1
  generalize H1 = H at hP hS ⊢
  have hP : va_P (dC, dI) classes [(h0, .inr (0, [.null, .null, .null, .null, .null, .int 0, .int 0, .int 0, .int 0, .int 0, .int 0])), (q1, .inr (1, [.ref q4, .int 0])), (q4, .inl (cA5, 64, .inl (fun _ => 0)))] H := hP
  have hD : va_D A [(h0, .inr (0, [.null, .null, .null, .null, .null, .int 0, .int 0, .int 0, .int 0, .int 0, .int 0])), (q1, .inr (1, [.ref q4, .int 0])), (q4, .inl (cA5, 64, .inl (fun _ => 0)))] := hD
  have hK : va_K (dC, dI) classes [(cA5, .int)] s := hK
  refine W.widen (k := 2) (n := 66) (Nat.le_of_ble_eq_true rfl) (Nat.le_of_ble_eq_true rfl) ?_
  refine va_putF (D := (dC, dI)) (ci := 0) (v := .ref q1) (ty := (.object "VotedTriple$Program")) (C := "VotedTriple") (T := F_T) (N := 11) hx hb hw in_T ft_T tyok_T nm_T hown hK hP hD hS 0 rfl rfl 0 (by decide) (hw _ k_194) (fun _ h9 => h9) rfl hin rfl (by decide +kernel) rfl rfl (Nat.le_of_ble_eq_true rfl) d_T_init_12 (fun H locs hP hD hS => ?_)
  have hP : va_P (dC, dI) classes [(h0, .inr (0, [.ref q1, .null, .null, .null, .null, .int 0, .int 0, .int 0, .int 0, .int 0, .int 0])), (q1, .inr (1, [.ref q4, .int 0])), (q4, .inl (cA5, 64, .inl (fun _ => 0)))] H := hP
  have hD : va_D A [(h0, .inr (0, [.ref q1, .null, .null, .null, .null, .int 0, .int 0, .int 0, .int 0, .int 0, .int 0])), (q1, .inr (1, [.ref q4, .int 0])), (q4, .inl (cA5, 64, .inl (fun _ => 0)))] := hD
  refine lv_aload_n hx hb d_T_init_15 rfl (lv_at hl 0 rfl) ?_
  refine lv_iconst (v := 3) hx hb d_T_init_16 (by decide) ?_
  refine va_newq (N' := 3) (C := "VotedTriple$VotedModule") hx hb hown (hw _ k_40) (nw_ao hnw) hK hP hD hS hA (by decide) (by decide) (by decide) (Nat.le_of_ble_eq_true rfl) (Nat.le_of_ble_eq_true rfl) d_T_init_17 (fun q6 cA7 H hK hP hD hS => ?_)
  have hK : va_K (dC, dI) classes [(cA5, .int), (cA7, .object "VotedTriple$VotedModule")] s := hK
  have hP : va_P (dC, dI) classes [(h0, .inr (0, [.ref q1, .null, .null, .null, .null, .int 0, .int 0, .int 0, .int 0, .int 0, .int 0])), (q1, .inr (1, [.ref q4, .int 0])), (q4, .inl (cA5, 64, .inl (fun _ => 0))), (q6, .inl (cA7, 3, .inr (.inr (.inr (.inr (fun _ => none))))))] H := hP
  have hD : va_D A [(h0, .inr (0, [.ref q1, .null, .null, .null, .null, .int 0, .int 0, .int 0, .int 0, .int 0, .int 0])), (q1, .inr (1, [.ref q4, .int 0])), (q4, .inl (cA5, 64, .inl (fun _ => 0))), (q6, .inl (cA7, 3, .inr (.inr (.inr (.inr (fun _ => none))))))] := hD
  refine W.widen (k := 3) (n := 69) (Nat.le_of_ble_eq_true rfl) (Nat.le_of_ble_eq_true rfl) ?_
  refine va_putF (D := (dC, dI)) (ci := 0) (v := .ref q6) (ty := (.array (.object "VotedTriple$VotedModule"))) (C := "VotedTriple") (T := F_T) (N := 11) hx hb hw in_T ft_T tyok_T nm_T hown hK hP hD hS 0 rfl rfl 1 (by decide) (hw _ k_195) (fun _ h9 => h9) rfl hin rfl (by decide +kernel) rfl rfl (Nat.le_of_ble_eq_true rfl) d_T_init_20 (fun H locs hP hD hS => ?_)
  have hP : va_P (dC, dI) classes [(h0, .inr (0, [.ref q1, .ref q6, .null, .null, .null, .int 0, .int 0, .int 0, .int 0, .int 0, .int 0])), (q1, .inr (1, [.ref q4, .int 0])), (q4, .inl (cA5, 64, .inl (fun _ => 0))), (q6, .inl (cA7, 3, .inr (.inr (.inr (.inr (fun _ => none))))))] H := hP
  have hD : va_D A [(h0, .inr (0, [.ref q1, .ref q6, .null, .null, .null, .int 0, .int 0, .int 0, .int 0, .int 0, .int 0])), (q1, .inr (1, [.ref q4, .int 0])), (q4, .inl (cA5, 64, .inl (fun _ => 0))), (q6, .inl (cA7, 3, .inr (.inr (.inr (.inr (fun _ => none))))))] := hD
  refine lv_aload_n hx hb d_T_init_23 rfl (lv_at hl 0 rfl) ?_
  refine va_new (ci := 3) (fs := [.null, .int 0, .int 0, .int 0, .int 0, .int 0, .int 0, .null, .null, .int 0]) (C := "VotedTriple$PerfectOne") (T := F_E) (N := 10) hx hb hw in_E ft_E tyok_E hown (hw _ k_42) (hw _ k_43) (hw _ k_4) hK hP hD hS hA rfl df_E (Nat.le_of_ble_eq_true rfl) (Nat.le_of_ble_eq_true rfl) d_T_init_24 (fun q8 H hP hD hS => ?_)
  have hP : va_P (dC, dI) classes [(h0, .inr (0, [.ref q1, .ref q6, .null, .null, .null, .int 0, .int 0, .int 0, .int 0, .int 0, .int 0])), (q1, .inr (1, [.ref q4, .int 0])), (q4, .inl (cA5, 64, .inl (fun _ => 0))), (q6, .inl (cA7, 3, .inr (.inr (.inr (.inr (fun _ => none)))))), (q8, .inr (3, [.null, .int 0, .int 0, .int 0, .int 0, .int 0, .int 0, .null, .null, .int 0]))] H := hP
  have hD : va_D A [(h0, .inr (0, [.ref q1, .ref q6, .null, .null, .null, .int 0, .int 0, .int 0, .int 0, .int 0, .int 0])), (q1, .inr (1, [.ref q4, .int 0])), (q4, .inl (cA5, 64, .inl (fun _ => 0))), (q6, .inl (cA7, 3, .inr (.inr (.inr (.inr (fun _ => none)))))), (q8, .inr (3, [.null, .int 0, .int 0, .int 0, .int 0, .int 0, .int 0, .null, .null, .int 0]))] := hD
  refine W.widen (k := 4) (n := 79) (Nat.le_of_ble_eq_true rfl) (Nat.le_of_ble_eq_true rfl) ?_
  refine lv_dup hx hb d_T_init_27 rfl ?_
  have hPc := hP.sub (ws' := [(q8, .inr (3, [.null, .int 0, .int 0, .int 0, .int 0, .int 0, .int 0, .null, .null, .int 0]))]) [4] rfl
  have hKc := hK.sub (tys' := []) [] rfl
  have hDc := hD.sub (ws' := [(q8, .inr (3, [.null, .int 0, .int 0, .int 0, .int 0, .int 0, .int 0, .null, .null, .int 0]))]) [4] (by decide) rfl
  have hFc := va_free (wc := [(q8, .inr (3, [.null, .int 0, .int 0, .int 0, .int 0, .int 0, .int 0, .null, .null, .int 0]))]) hD hS hA [4] rfl
  refine va_callv (va_runIN (As := []) (rest := [.ref q8, .ref h0]) ⟨hx, hb, hml, hown, hw⟩ (c_E_init l dC dI q8 H.size) ⟨va_cnB 0 hw (gd (k_46)) rfl rfl rfl (nw_44 hnw) (hw _ k_4) (by decide +kernel) ⟨Nat.le_of_ble_eq_true rfl, Nat.le_of_ble_eq_true rfl⟩, rfl, hw _ k_45⟩ ⟨fun a U g mk q => by obtain ⟨q0, q1, qP, qK, qD, qN⟩ := q; exact ⟨q0, q1, qP, va_K.moved (u := U) (U := U.calling g mk a) (Vm.Alike.refl U.vm) qK, qD, nw_vm (u := U) (U := U.calling g mk a) rfl qN⟩, fun U hU hW => ⟨rfl, by rw [hU], by rw [hU]; exact hPc, va_K.moved hW.alike hKc, hDc.weaken (fun _ _ _ _ => trivial), nw_warm hW hnw⟩⟩ rfl rfl hl.1 rfl (lv_room (Nat.le_of_ble_eq_true rfl)) d_T_init_28 ⟨Nat.le_of_ble_eq_true rfl, Nat.le_of_ble_eq_true rfl⟩) hS (fun q _ h => hFc q h) hFc (fun u9 t H1 locs ht hvm hr10 hB hz1 hk1 hS => ?_)
  obtain ⟨r11, o12, k13, w14⟩ := u9
  obtain ⟨hP1, hK1, hD1⟩ := hB
  rw [ht] at hP1
  have hK1 := va_K.moved hvm.symm hK1
  try dsimp only at hr10 hP1 hK1 hD1
  obtain ⟨hP, hD⟩ := va_join (wr := [(h0, .inr (0, [.ref q1, .ref q6, .null, .null, .null, .int 0, .int 0, .int 0, .int 0, .int 0, .int 0])), (q1, .inr (1, [.ref q4, .int 0])), (q4, .inl (cA5, 64, .inl (fun _ => 0))), (q6, .inl (cA7, 3, .inr (.inr (.inr (.inr (fun _ => none))))))]) (w1 := [(q8, .inr (3, [.ref r11, .int 0, .int 0, .int 0, .int 0, .int 0, .int 0, .ref o12, .ref w14, .int 0])), (o12, .inr (5, [.ref k13, .int 0]))]) hP hD [4] [0, 1, 2, 3] rfl rfl (by decide) (by decide) hk1 hFc hP1 hD1
  have hK := (hK.sub (tys' := [(cA5, .int), (cA7, .object "VotedTriple$VotedModule")]) [0, 1] rfl).app hK1
  generalize H1 = H at hP hS ⊢
  have hP : va_P (dC, dI) classes [(h0, .inr (0, [.ref q1, .ref q6, .null, .null, .null, .int 0, .int 0, .int 0, .int 0, .int 0, .int 0])), (q1, .inr (1, [.ref q4, .int 0])), (q4, .inl (cA5, 64, .inl (fun _ => 0))), (q6, .inl (cA7, 3, .inr (.inr (.inr (.inr (fun _ => none)))))), (q8, .inr (3, [.ref r11, .int 0, .int 0, .int 0, .int 0, .int 0, .int 0, .ref o12, .ref w14, .int 0])), (o12, .inr (5, [.ref k13, .int 0]))] H := hP
  have hD : va_D A [(h0, .inr (0, [.ref q1, .ref q6, .null, .null, .null, .int 0, .int 0, .int 0, .int 0, .int 0, .int 0])), (q1, .inr (1, [.ref q4, .int 0])), (q4, .inl (cA5, 64, .inl (fun _ => 0))), (q6, .inl (cA7, 3, .inr (.inr (.inr (.inr (fun _ => none)))))), (q8, .inr (3, [.ref r11, .int 0, .int 0, .int 0, .int 0, .int 0, .int 0, .ref o12, .ref w14, .int 0])), (o12, .inr (5, [.ref k13, .int 0]))] := hD
  have hK : va_K (dC, dI) classes [(cA5, .int), (cA7, .object "VotedTriple$VotedModule")] s := hK
  refine W.widen (k := 8) (n := 421) (Nat.le_of_ble_eq_true rfl) (Nat.le_of_ble_eq_true rfl) ?_
  refine va_putF (D := (dC, dI)) (ci := 0) (v := .ref q8) (ty := (.object "VotedTriple$PerfectOne")) (C := "VotedTriple") (T := F_T) (N := 11) hx hb hw in_T ft_T tyok_T nm_T hown hK hP hD hS 0 rfl rfl 2 (by decide) (hw _ k_196) (fun _ h9 => h9) rfl hin rfl (by decide +kernel) rfl rfl (Nat.le_of_ble_eq_true rfl) d_T_init_31 (fun H locs hP hD hS => ?_)
  have hP : va_P (dC, dI) classes [(h0, .inr (0, [.ref q1, .ref q6, .ref q8, .null, .null, .int 0, .int 0, .int 0, .int 0, .int 0, .int 0])), (q1, .inr (1, [.ref q4, .int 0])), (q4, .inl (cA5, 64, .inl (fun _ => 0))), (q6, .inl (cA7, 3, .inr (.inr (.inr (.inr (fun _ => none)))))), (q8, .inr (3, [.ref r11, .int 0, .int 0, .int 0, .int 0, .int 0, .int 0, .ref o12, .ref w14, .int 0])), (o12, .inr (5, [.ref k13, .int 0]))] H := hP
  have hD : va_D A [(h0, .inr (0, [.ref q1, .ref q6, .ref q8, .null, .null, .int 0, .int 0, .int 0, .int 0, .int 0, .int 0])), (q1, .inr (1, [.ref q4, .int 0])), (q4, .inl (cA5, 64, .inl (fun _ => 0))), (q6, .inl (cA7, 3, .inr (.inr (.inr (.inr (fun _ => none)))))), (q8, .inr (3, [.ref r11, .int 0, .int 0, .int 0, .int 0, .int 0, .int 0, .ref o12, .ref w14, .int 0])), (o12, .inr (5, [.ref k13, .int 0]))] := hD
  refine lv_aload_n hx hb d_T_init_34 rfl (lv_at hl 0 rfl) ?_
  refine va_new (ci := 4) (fs := [.null, .int 0]) (C := "VotedTriple$WordsIn") (T := F_N) (N := 2) hx hb hw in_N ft_N tyok_N hown (hw _ k_118) (hw _ k_119) (hw _ k_6) hK hP hD hS hA rfl df_N (Nat.le_of_ble_eq_true rfl) (Nat.le_of_ble_eq_true rfl) d_T_init_35 (fun q15 H hP hD hS => ?_)
  have hP : va_P (dC, dI) classes [(h0, .inr (0, [.ref q1, .ref q6, .ref q8, .null, .null, .int 0, .int 0, .int 0, .int 0, .int 0, .int 0])), (q1, .inr (1, [.ref q4, .int 0])), (q4, .inl (cA5, 64, .inl (fun _ => 0))), (q6, .inl (cA7, 3, .inr (.inr (.inr (.inr (fun _ => none)))))), (q8, .inr (3, [.ref r11, .int 0, .int 0, .int 0, .int 0, .int 0, .int 0, .ref o12, .ref w14, .int 0])), (o12, .inr (5, [.ref k13, .int 0])), (q15, .inr (4, [.null, .int 0]))] H := hP
  have hD : va_D A [(h0, .inr (0, [.ref q1, .ref q6, .ref q8, .null, .null, .int 0, .int 0, .int 0, .int 0, .int 0, .int 0])), (q1, .inr (1, [.ref q4, .int 0])), (q4, .inl (cA5, 64, .inl (fun _ => 0))), (q6, .inl (cA7, 3, .inr (.inr (.inr (.inr (fun _ => none)))))), (q8, .inr (3, [.ref r11, .int 0, .int 0, .int 0, .int 0, .int 0, .int 0, .ref o12, .ref w14, .int 0])), (o12, .inr (5, [.ref k13, .int 0])), (q15, .inr (4, [.null, .int 0]))] := hD
  refine W.widen (k := 9) (n := 423) (Nat.le_of_ble_eq_true rfl) (Nat.le_of_ble_eq_true rfl) ?_
  refine lv_dup hx hb d_T_init_38 rfl ?_
  have hPc := hP.sub (ws' := [(q15, .inr (4, [.null, .int 0]))]) [6] rfl
  have hKc := hK.sub (tys' := []) [] rfl
  have hDc := hD.sub (ws' := [(q15, .inr (4, [.null, .int 0]))]) [6] (by decide) rfl
  have hFc := va_free (wc := [(q15, .inr (4, [.null, .int 0]))]) hD hS hA [6] rfl
  refine va_callv (va_runIN (As := []) (rest := [.ref q15, .ref h0]) ⟨hx, hb, hml, hown, hw⟩ (c_N_init l dC dI q15 H.size) ⟨va_cnB 0 hw (gd (k_122)) rfl rfl rfl (nw_120 hnw) (hw _ k_6) (by decide +kernel) ⟨Nat.le_of_ble_eq_true rfl, Nat.le_of_ble_eq_true rfl⟩, rfl, hw _ k_121⟩ ⟨fun a U g mk q => by obtain ⟨q0, q1, qP, qK, qD⟩ := q; exact ⟨q0, q1, qP, va_K.moved (u := U) (U := U.calling g mk a) (Vm.Alike.refl U.vm) qK, qD⟩, fun U hU hW => ⟨rfl, by rw [hU], by rw [hU]; exact hPc, va_K.moved hW.alike hKc, hDc.weaken (fun _ _ _ _ => trivial)⟩⟩ rfl rfl hl.1 rfl (lv_room (Nat.le_of_ble_eq_true rfl)) d_T_init_39 ⟨Nat.le_of_ble_eq_true rfl, Nat.le_of_ble_eq_true rfl⟩) hS (fun q _ h => hFc q h) hFc (fun u9 t H1 locs ht hvm hr17 hB hz1 hk1 hS => ?_)
  obtain ⟨q18, cA19⟩ := u9
  obtain ⟨hP1, hK1, hD1⟩ := hB
  rw [ht] at hP1
  have hK1 := va_K.moved hvm.symm hK1
  try dsimp only at hr17 hP1 hK1 hD1
  obtain ⟨hP, hD⟩ := va_join (wr := [(h0, .inr (0, [.ref q1, .ref q6, .ref q8, .null, .null, .int 0, .int 0, .int 0, .int 0, .int 0, .int 0])), (q1, .inr (1, [.ref q4, .int 0])), (q4, .inl (cA5, 64, .inl (fun _ => 0))), (q6, .inl (cA7, 3, .inr (.inr (.inr (.inr (fun _ => none)))))), (q8, .inr (3, [.ref r11, .int 0, .int 0, .int 0, .int 0, .int 0, .int 0, .ref o12, .ref w14, .int 0])), (o12, .inr (5, [.ref k13, .int 0]))]) (w1 := [(q15, .inr (4, [.ref q18, .int 0])), (q18, .inl (cA19, 64, .inl (fun _ => 0)))]) hP hD [6] [0, 1, 2, 3, 4, 5] rfl rfl (by decide) (by decide) hk1 hFc hP1 hD1
  have hK := (hK.sub (tys' := [(cA5, .int), (cA7, .object "VotedTriple$VotedModule")]) [0, 1] rfl).app hK1
  generalize H1 = H at hP hS ⊢
  have hP : va_P (dC, dI) classes [(h0, .inr (0, [.ref q1, .ref q6, .ref q8, .null, .null, .int 0, .int 0, .int 0, .int 0, .int 0, .int 0])), (q1, .inr (1, [.ref q4, .int 0])), (q4, .inl (cA5, 64, .inl (fun _ => 0))), (q6, .inl (cA7, 3, .inr (.inr (.inr (.inr (fun _ => none)))))), (q8, .inr (3, [.ref r11, .int 0, .int 0, .int 0, .int 0, .int 0, .int 0, .ref o12, .ref w14, .int 0])), (o12, .inr (5, [.ref k13, .int 0])), (q15, .inr (4, [.ref q18, .int 0])), (q18, .inl (cA19, 64, .inl (fun _ => 0)))] H := hP
  have hD : va_D A [(h0, .inr (0, [.ref q1, .ref q6, .ref q8, .null, .null, .int 0, .int 0, .int 0, .int 0, .int 0, .int 0])), (q1, .inr (1, [.ref q4, .int 0])), (q4, .inl (cA5, 64, .inl (fun _ => 0))), (q6, .inl (cA7, 3, .inr (.inr (.inr (.inr (fun _ => none)))))), (q8, .inr (3, [.ref r11, .int 0, .int 0, .int 0, .int 0, .int 0, .int 0, .ref o12, .ref w14, .int 0])), (o12, .inr (5, [.ref k13, .int 0])), (q15, .inr (4, [.ref q18, .int 0])), (q18, .inl (cA19, 64, .inl (fun _ => 0)))] := hD
  have hK : va_K (dC, dI) classes [(cA5, .int), (cA7, .object "VotedTriple$VotedModule"), (cA19, .int)] s := hK
  refine W.widen (k := 10) (n := 487) (Nat.le_of_ble_eq_true rfl) (Nat.le_of_ble_eq_true rfl) ?_
  refine va_putF (D := (dC, dI)) (ci := 0) (v := .ref q15) (ty := (.object "VotedTriple$WordsIn")) (C := "VotedTriple") (T := F_T) (N := 11) hx hb hw in_T ft_T tyok_T nm_T hown hK hP hD hS 0 rfl rfl 3 (by decide) (hw _ k_197) (fun _ h9 => h9) rfl hin rfl (by decide +kernel) rfl rfl (Nat.le_of_ble_eq_true rfl) d_T_init_42 (fun H locs hP hD hS => ?_)
  have hP : va_P (dC, dI) classes [(h0, .inr (0, [.ref q1, .ref q6, .ref q8, .ref q15, .null, .int 0, .int 0, .int 0, .int 0, .int 0, .int 0])), (q1, .inr (1, [.ref q4, .int 0])), (q4, .inl (cA5, 64, .inl (fun _ => 0))), (q6, .inl (cA7, 3, .inr (.inr (.inr (.inr (fun _ => none)))))), (q8, .inr (3, [.ref r11, .int 0, .int 0, .int 0, .int 0, .int 0, .int 0, .ref o12, .ref w14, .int 0])), (o12, .inr (5, [.ref k13, .int 0])), (q15, .inr (4, [.ref q18, .int 0])), (q18, .inl (cA19, 64, .inl (fun _ => 0)))] H := hP
  have hD : va_D A [(h0, .inr (0, [.ref q1, .ref q6, .ref q8, .ref q15, .null, .int 0, .int 0, .int 0, .int 0, .int 0, .int 0])), (q1, .inr (1, [.ref q4, .int 0])), (q4, .inl (cA5, 64, .inl (fun _ => 0))), (q6, .inl (cA7, 3, .inr (.inr (.inr (.inr (fun _ => none)))))), (q8, .inr (3, [.ref r11, .int 0, .int 0, .int 0, .int 0, .int 0, .int 0, .ref o12, .ref w14, .int 0])), (o12, .inr (5, [.ref k13, .int 0])), (q15, .inr (4, [.ref q18, .int 0])), (q18, .inl (cA19, 64, .inl (fun _ => 0)))] := hD
  refine lv_aload_n hx hb d_T_init_45 rfl (lv_at hl 0 rfl) ?_
  refine va_new (ci := 5) (fs := [.null, .int 0]) (C := "VotedTriple$WordsOut") (T := F_O) (N := 2) hx hb hw in_O ft_O tyok_O hown (hw _ k_133) (hw _ k_52) (hw _ k_5) hK hP hD hS hA rfl df_O (Nat.le_of_ble_eq_true rfl) (Nat.le_of_ble_eq_true rfl) d_T_init_46 (fun q20 H hP hD hS => ?_)
  have hP : va_P (dC, dI) classes [(h0, .inr (0, [.ref q1, .ref q6, .ref q8, .ref q15, .null, .int 0, .int 0, .int 0, .int 0, .int 0, .int 0])), (q1, .inr (1, [.ref q4, .int 0])), (q4, .inl (cA5, 64, .inl (fun _ => 0))), (q6, .inl (cA7, 3, .inr (.inr (.inr (.inr (fun _ => none)))))), (q8, .inr (3, [.ref r11, .int 0, .int 0, .int 0, .int 0, .int 0, .int 0, .ref o12, .ref w14, .int 0])), (o12, .inr (5, [.ref k13, .int 0])), (q15, .inr (4, [.ref q18, .int 0])), (q18, .inl (cA19, 64, .inl (fun _ => 0))), (q20, .inr (5, [.null, .int 0]))] H := hP
  have hD : va_D A [(h0, .inr (0, [.ref q1, .ref q6, .ref q8, .ref q15, .null, .int 0, .int 0, .int 0, .int 0, .int 0, .int 0])), (q1, .inr (1, [.ref q4, .int 0])), (q4, .inl (cA5, 64, .inl (fun _ => 0))), (q6, .inl (cA7, 3, .inr (.inr (.inr (.inr (fun _ => none)))))), (q8, .inr (3, [.ref r11, .int 0, .int 0, .int 0, .int 0, .int 0, .int 0, .ref o12, .ref w14, .int 0])), (o12, .inr (5, [.ref k13, .int 0])), (q15, .inr (4, [.ref q18, .int 0])), (q18, .inl (cA19, 64, .inl (fun _ => 0))), (q20, .inr (5, [.null, .int 0]))] := hD
  refine W.widen (k := 11) (n := 489) (Nat.le_of_ble_eq_true rfl) (Nat.le_of_ble_eq_true rfl) ?_
  refine lv_dup hx hb d_T_init_49 rfl ?_
  have hPc := hP.sub (ws' := [(q20, .inr (5, [.null, .int 0]))]) [8] rfl
  have hKc := hK.sub (tys' := []) [] rfl
  have hDc := hD.sub (ws' := [(q20, .inr (5, [.null, .int 0]))]) [8] (by decide) rfl
  have hFc := va_free (wc := [(q20, .inr (5, [.null, .int 0]))]) hD hS hA [8] rfl
  refine va_callv (va_runIN (As := []) (rest := [.ref q20, .ref h0]) ⟨hx, hb, hml, hown, hw⟩ (c_O_init l dC dI q20 H.size) ⟨va_cnB 0 hw (gd (k_55)) rfl rfl rfl (nw_134 hnw) (hw _ k_5) (by decide +kernel) ⟨Nat.le_of_ble_eq_true rfl, Nat.le_of_ble_eq_true rfl⟩, rfl, hw _ k_54⟩ ⟨fun a U g mk q => by obtain ⟨q0, q1, qP, qK, qD⟩ := q; exact ⟨q0, q1, qP, va_K.moved (u := U) (U := U.calling g mk a) (Vm.Alike.refl U.vm) qK, qD⟩, fun U hU hW => ⟨rfl, by rw [hU], by rw [hU]; exact hPc, va_K.moved hW.alike hKc, hDc.weaken (fun _ _ _ _ => trivial)⟩⟩ rfl rfl hl.1 rfl (lv_room (Nat.le_of_ble_eq_true rfl)) d_T_init_50 ⟨Nat.le_of_ble_eq_true rfl, Nat.le_of_ble_eq_true rfl⟩) hS (fun q _ h => hFc q h) hFc (fun u9 t H1 locs ht hvm hr22 hB hz1 hk1 hS => ?_)
  obtain ⟨q23, cA24⟩ := u9
  obtain ⟨hP1, hK1, hD1⟩ := hB
  rw [ht] at hP1
  have hK1 := va_K.moved hvm.symm hK1
  try dsimp only at hr22 hP1 hK1 hD1
  obtain ⟨hP, hD⟩ := va_join (wr := [(h0, .inr (0, [.ref q1, .ref q6, .ref q8, .ref q15, .null, .int 0, .int 0, .int 0, .int 0, .int 0, .int 0])), (q1, .inr (1, [.ref q4, .int 0])), (q4, .inl (cA5, 64, .inl (fun _ => 0))), (q6, .inl (cA7, 3, .inr (.inr (.inr (.inr (fun _ => none)))))), (q8, .inr (3, [.ref r11, .int 0, .int 0, .int 0, .int 0, .int 0, .int 0, .ref o12, .ref w14, .int 0])), (o12, .inr (5, [.ref k13, .int 0])), (q15, .inr (4, [.ref q18, .int 0])), (q18, .inl (cA19, 64, .inl (fun _ => 0)))]) (w1 := [(q20, .inr (5, [.ref q23, .int 0])), (q23, .inl (cA24, 300, .inl (fun _ => 0)))]) hP hD [8] [0, 1, 2, 3, 4, 5, 6, 7] rfl rfl (by decide) (by decide) hk1 hFc hP1 hD1
  have hK := (hK.sub (tys' := [(cA5, .int), (cA7, .object "VotedTriple$VotedModule"), (cA19, .int)]) [0, 1, 2] rfl).app hK1
  generalize H1 = H at hP hS ⊢
  have hP : va_P (dC, dI) classes [(h0, .inr (0, [.ref q1, .ref q6, .ref q8, .ref q15, .null, .int 0, .int 0, .int 0, .int 0, .int 0, .int 0])), (q1, .inr (1, [.ref q4, .int 0])), (q4, .inl (cA5, 64, .inl (fun _ => 0))), (q6, .inl (cA7, 3, .inr (.inr (.inr (.inr (fun _ => none)))))), (q8, .inr (3, [.ref r11, .int 0, .int 0, .int 0, .int 0, .int 0, .int 0, .ref o12, .ref w14, .int 0])), (o12, .inr (5, [.ref k13, .int 0])), (q15, .inr (4, [.ref q18, .int 0])), (q18, .inl (cA19, 64, .inl (fun _ => 0))), (q20, .inr (5, [.ref q23, .int 0])), (q23, .inl (cA24, 300, .inl (fun _ => 0)))] H := hP
  have hD : va_D A [(h0, .inr (0, [.ref q1, .ref q6, .ref q8, .ref q15, .null, .int 0, .int 0, .int 0, .int 0, .int 0, .int 0])), (q1, .inr (1, [.ref q4, .int 0])), (q4, .inl (cA5, 64, .inl (fun _ => 0))), (q6, .inl (cA7, 3, .inr (.inr (.inr (.inr (fun _ => none)))))), (q8, .inr (3, [.ref r11, .int 0, .int 0, .int 0, .int 0, .int 0, .int 0, .ref o12, .ref w14, .int 0])), (o12, .inr (5, [.ref k13, .int 0])), (q15, .inr (4, [.ref q18, .int 0])), (q18, .inl (cA19, 64, .inl (fun _ => 0))), (q20, .inr (5, [.ref q23, .int 0])), (q23, .inl (cA24, 300, .inl (fun _ => 0)))] := hD
  have hK : va_K (dC, dI) classes [(cA5, .int), (cA7, .object "VotedTriple$VotedModule"), (cA19, .int), (cA24, .int)] s := hK
  refine W.widen (k := 12) (n := 789) (Nat.le_of_ble_eq_true rfl) (Nat.le_of_ble_eq_true rfl) ?_
  refine va_putF (D := (dC, dI)) (ci := 0) (v := .ref q20) (ty := (.object "VotedTriple$WordsOut")) (C := "VotedTriple") (T := F_T) (N := 11) hx hb hw in_T ft_T tyok_T nm_T hown hK hP hD hS 0 rfl rfl 4 (by decide) (hw _ k_198) (fun _ h9 => h9) rfl hin rfl (by decide +kernel) rfl rfl (Nat.le_of_ble_eq_true rfl) d_T_init_53 (fun H locs hP hD hS => ?_)
  have hP : va_P (dC, dI) classes [(h0, .inr (0, [.ref q1, .ref q6, .ref q8, .ref q15, .ref q20, .int 0, .int 0, .int 0, .int 0, .int 0, .int 0])), (q1, .inr (1, [.ref q4, .int 0])), (q4, .inl (cA5, 64, .inl (fun _ => 0))), (q6, .inl (cA7, 3, .inr (.inr (.inr (.inr (fun _ => none)))))), (q8, .inr (3, [.ref r11, .int 0, .int 0, .int 0, .int 0, .int 0, .int 0, .ref o12, .ref w14, .int 0])), (o12, .inr (5, [.ref k13, .int 0])), (q15, .inr (4, [.ref q18, .int 0])), (q18, .inl (cA19, 64, .inl (fun _ => 0))), (q20, .inr (5, [.ref q23, .int 0])), (q23, .inl (cA24, 300, .inl (fun _ => 0)))] H := hP
  have hD : va_D A [(h0, .inr (0, [.ref q1, .ref q6, .ref q8, .ref q15, .ref q20, .int 0, .int 0, .int 0, .int 0, .int 0, .int 0])), (q1, .inr (1, [.ref q4, .int 0])), (q4, .inl (cA5, 64, .inl (fun _ => 0))), (q6, .inl (cA7, 3, .inr (.inr (.inr (.inr (fun _ => none)))))), (q8, .inr (3, [.ref r11, .int 0, .int 0, .int 0, .int 0, .int 0, .int 0, .ref o12, .ref w14, .int 0])), (o12, .inr (5, [.ref k13, .int 0])), (q15, .inr (4, [.ref q18, .int 0])), (q18, .inl (cA19, 64, .inl (fun _ => 0))), (q20, .inr (5, [.ref q23, .int 0])), (q23, .inl (cA24, 300, .inl (fun _ => 0)))] := hD
  refine lv_iconst (v := 0) hx hb d_T_init_56 (by decide) ?_
  refine lv_istore_n hx hb d_T_init_57 rfl hl (by decide) rfl (fun ls hl => ?_)
  have hl : lv_has ls 2 [(1, .int 0), (0, .ref h0)] := hl
  refine lv_iload_n hx hb d_T_init_58 rfl (lv_at hl 0 rfl) ?_
  refine lv_iconst (v := 3) hx hb d_T_init_59 (by decide) ?_
  refine lv_icmp_ge (tgt := 82) hx hb d_T_init_60 rfl (fun hc25 => by first | exact absurd hc25 (by decide) | exact absurd (by decide) hc25) (fun hc25 => ?_)
  refine lv_aload_n hx hb d_T_init_63 rfl (lv_at hl 1 rfl) ?_
  refine va_get (D := (dC, dI)) (ci := 0) (v := .ref q6) (C := "VotedTriple") (T := F_T) (N := 11) hx hb hw in_T hown hK hP 0 rfl rfl 1 (by decide) (hw _ k_195) (fun _ h9 => h9) rfl d_T_init_64 ?_
  refine lv_iload_n hx hb d_T_init_67 rfl (lv_at hl 0 rfl) ?_
  refine va_new (ci := 2) (fs := [.null, .int 0, .int 0, .int 0, .int 0, .int 0, .int 0, .null, .int 0, .int 0, .int 0, .int 0, .int 0, .int 0, .int 0, .int 0, .int 0, .int 0, .int 0]) (C := "VotedTriple$VotedModule") (T := F_D) (N := 19) hx hb hw in_D ft_D tyok_D hown (hw _ k_40) (hw _ k_135) (hw _ k_7) hK hP hD hS hA rfl df_D (Nat.le_of_ble_eq_true rfl) (Nat.le_of_ble_eq_true rfl) d_T_init_68 (fun q26 H hP hD hS => ?_)
  have hP : va_P (dC, dI) classes [(h0, .inr (0, [.ref q1, .ref q6, .ref q8, .ref q15, .ref q20, .int 0, .int 0, .int 0, .int 0, .int 0, .int 0])), (q1, .inr (1, [.ref q4, .int 0])), (q4, .inl (cA5, 64, .inl (fun _ => 0))), (q6, .inl (cA7, 3, .inr (.inr (.inr (.inr (fun _ => none)))))), (q8, .inr (3, [.ref r11, .int 0, .int 0, .int 0, .int 0, .int 0, .int 0, .ref o12, .ref w14, .int 0])), (o12, .inr (5, [.ref k13, .int 0])), (q15, .inr (4, [.ref q18, .int 0])), (q18, .inl (cA19, 64, .inl (fun _ => 0))), (q20, .inr (5, [.ref q23, .int 0])), (q23, .inl (cA24, 300, .inl (fun _ => 0))), (q26, .inr (2, [.null, .int 0, .int 0, .int 0, .int 0, .int 0, .int 0, .null, .int 0, .int 0, .int 0, .int 0, .int 0, .int 0, .int 0, .int 0, .int 0, .int 0, .int 0]))] H := hP
  have hD : va_D A [(h0, .inr (0, [.ref q1, .ref q6, .ref q8, .ref q15, .ref q20, .int 0, .int 0, .int 0, .int 0, .int 0, .int 0])), (q1, .inr (1, [.ref q4, .int 0])), (q4, .inl (cA5, 64, .inl (fun _ => 0))), (q6, .inl (cA7, 3, .inr (.inr (.inr (.inr (fun _ => none)))))), (q8, .inr (3, [.ref r11, .int 0, .int 0, .int 0, .int 0, .int 0, .int 0, .ref o12, .ref w14, .int 0])), (o12, .inr (5, [.ref k13, .int 0])), (q15, .inr (4, [.ref q18, .int 0])), (q18, .inl (cA19, 64, .inl (fun _ => 0))), (q20, .inr (5, [.ref q23, .int 0])), (q23, .inl (cA24, 300, .inl (fun _ => 0))), (q26, .inr (2, [.null, .int 0, .int 0, .int 0, .int 0, .int 0, .int 0, .null, .int 0, .int 0, .int 0, .int 0, .int 0, .int 0, .int 0, .int 0, .int 0, .int 0, .int 0]))] := hD
  refine W.widen (k := 13) (n := 808) (Nat.le_of_ble_eq_true rfl) (Nat.le_of_ble_eq_true rfl) ?_
  refine lv_dup hx hb d_T_init_71 rfl ?_
  have hPc := hP.sub (ws' := [(q26, .inr (2, [.null, .int 0, .int 0, .int 0, .int 0, .int 0, .int 0, .null, .int 0, .int 0, .int 0, .int 0, .int 0, .int 0, .int 0, .int 0, .int 0, .int 0, .int 0]))]) [10] rfl
  have hKc := hK.sub (tys' := []) [] rfl
  have hDc := hD.sub (ws' := [(q26, .inr (2, [.null, .int 0, .int 0, .int 0, .int 0, .int 0, .int 0, .null, .int 0, .int 0, .int 0, .int 0, .int 0, .int 0, .int 0, .int 0, .int 0, .int 0, .int 0]))]) [10] (by decide) rfl
  have hFc := va_free (wc := [(q26, .inr (2, [.null, .int 0, .int 0, .int 0, .int 0, .int 0, .int 0, .null, .int 0, .int 0, .int 0, .int 0, .int 0, .int 0, .int 0, .int 0, .int 0, .int 0, .int 0]))]) hD hS hA [10] rfl
  refine va_callv (va_runIN (As := []) (rest := [.ref q26, .int 0, .ref q6]) ⟨hx, hb, hml, hown, hw⟩ (c_D_init l dC dI q26 H.size) ⟨va_cnB 0 hw (gd (k_138)) rfl rfl rfl (nw_136 hnw) (hw _ k_7) (by decide +kernel) ⟨Nat.le_of_ble_eq_true rfl, Nat.le_of_ble_eq_true rfl⟩, rfl, hw _ k_137⟩ ⟨fun a U g mk q => by obtain ⟨q0, q1, qP, qK, qD, qN⟩ := q; exact ⟨q0, q1, qP, va_K.moved (u := U) (U := U.calling g mk a) (Vm.Alike.refl U.vm) qK, qD, nw_vm (u := U) (U := U.calling g mk a) rfl qN⟩, fun U hU hW => ⟨rfl, by rw [hU], by rw [hU]; exact hPc, va_K.moved hW.alike hKc, hDc.weaken (fun _ _ _ _ => trivial), nw_warm hW hnw⟩⟩ rfl rfl hl.1 rfl (lv_room (Nat.le_of_ble_eq_true rfl)) d_T_init_72 ⟨Nat.le_of_ble_eq_true rfl, Nat.le_of_ble_eq_true rfl⟩) hS (fun q _ h => hFc q h) hFc (fun u9 t H1 locs ht hvm hr28 hB hz1 hk1 hS => ?_)
  obtain ⟨r29, cr30, k31, ck32⟩ := u9
  obtain ⟨hP1, hK1, hD1⟩ := hB
  rw [ht] at hP1
  have hK1 := va_K.moved hvm.symm hK1
  try dsimp only at hr28 hP1 hK1 hD1
  obtain ⟨hP, hD⟩ := va_join (wr := [(h0, .inr (0, [.ref q1, .ref q6, .ref q8, .ref q15, .ref q20, .int 0, .int 0, .int 0, .int 0, .int 0, .int 0])), (q1, .inr (1, [.ref q4, .int 0])), (q4, .inl (cA5, 64, .inl (fun _ => 0))), (q6, .inl (cA7, 3, .inr (.inr (.inr (.inr (fun _ => none)))))), (q8, .inr (3, [.ref r11, .int 0, .int 0, .int 0, .int 0, .int 0, .int 0, .ref o12, .ref w14, .int 0])), (o12, .inr (5, [.ref k13, .int 0])), (q15, .inr (4, [.ref q18, .int 0])), (q18, .inl (cA19, 64, .inl (fun _ => 0))), (q20, .inr (5, [.ref q23, .int 0])), (q23, .inl (cA24, 300, .inl (fun _ => 0)))]) (w1 := [(q26, .inr (2, [.ref r29, .int 0, .int 0, .int 0, .int 0, .int 0, .int 0, .ref k31, .int 0, .int 0, .int 0, .int 0, .int 0, .int 0, .int 0, .int 0, .int 0, .int 0, .int 0])), (r29, .inl (cr30, 8, .inl (fun _ => 0))), (k31, .inl (ck32, 32, .inl (fun _ => 0)))]) hP hD [10] [0, 1, 2, 3, 4, 5, 6, 7, 8, 9] rfl rfl (by decide) (by decide) hk1 hFc hP1 hD1
  have hK := (hK.sub (tys' := [(cA5, .int), (cA7, .object "VotedTriple$VotedModule"), (cA19, .int), (cA24, .int)]) [0, 1, 2, 3] rfl).app hK1
  generalize H1 = H at hP hS ⊢
  have hP : va_P (dC, dI) classes [(h0, .inr (0, [.ref q1, .ref q6, .ref q8, .ref q15, .ref q20, .int 0, .int 0, .int 0, .int 0, .int 0, .int 0])), (q1, .inr (1, [.ref q4, .int 0])), (q4, .inl (cA5, 64, .inl (fun _ => 0))), (q6, .inl (cA7, 3, .inr (.inr (.inr (.inr (fun _ => none)))))), (q8, .inr (3, [.ref r11, .int 0, .int 0, .int 0, .int 0, .int 0, .int 0, .ref o12, .ref w14, .int 0])), (o12, .inr (5, [.ref k13, .int 0])), (q15, .inr (4, [.ref q18, .int 0])), (q18, .inl (cA19, 64, .inl (fun _ => 0))), (q20, .inr (5, [.ref q23, .int 0])), (q23, .inl (cA24, 300, .inl (fun _ => 0))), (q26, .inr (2, [.ref r29, .int 0, .int 0, .int 0, .int 0, .int 0, .int 0, .ref k31, .int 0, .int 0, .int 0, .int 0, .int 0, .int 0, .int 0, .int 0, .int 0, .int 0, .int 0])), (r29, .inl (cr30, 8, .inl (fun _ => 0))), (k31, .inl (ck32, 32, .inl (fun _ => 0)))] H := hP
  have hD : va_D A [(h0, .inr (0, [.ref q1, .ref q6, .ref q8, .ref q15, .ref q20, .int 0, .int 0, .int 0, .int 0, .int 0, .int 0])), (q1, .inr (1, [.ref q4, .int 0])), (q4, .inl (cA5, 64, .inl (fun _ => 0))), (q6, .inl (cA7, 3, .inr (.inr (.inr (.inr (fun _ => none)))))), (q8, .inr (3, [.ref r11, .int 0, .int 0, .int 0, .int 0, .int 0, .int 0, .ref o12, .ref w14, .int 0])), (o12, .inr (5, [.ref k13, .int 0])), (q15, .inr (4, [.ref q18, .int 0])), (q18, .inl (cA19, 64, .inl (fun _ => 0))), (q20, .inr (5, [.ref q23, .int 0])), (q23, .inl (cA24, 300, .inl (fun _ => 0))), (q26, .inr (2, [.ref r29, .int 0, .int 0, .int 0, .int 0, .int 0, .int 0, .ref k31, .int 0, .int 0, .int 0, .int 0, .int 0, .int 0, .int 0, .int 0, .int 0, .int 0, .int 0])), (r29, .inl (cr30, 8, .inl (fun _ => 0))), (k31, .inl (ck32, 32, .inl (fun _ => 0)))] := hD
  have hK : va_K (dC, dI) classes [(cA5, .int), (cA7, .object "VotedTriple$VotedModule"), (cA19, .int), (cA24, .int), (cr30, .int), (ck32, .int)] s := hK
  refine W.widen (k := 15) (n := 848) (Nat.le_of_ble_eq_true rfl) (Nat.le_of_ble_eq_true rfl) ?_
  refine va_astq hx hb hK hP hD hS 3 1 10 2 rfl rfl rfl rfl (by unfold vp_in; decide) d_T_init_75 (fun H locs hP hD hS => ?_)
  have hP : va_P (dC, dI) classes [(h0, .inr (0, [.ref q1, .ref q6, .ref q8, .ref q15, .ref q20, .int 0, .int 0, .int 0, .int 0, .int 0, .int 0])), (q1, .inr (1, [.ref q4, .int 0])), (q4, .inl (cA5, 64, .inl (fun _ => 0))), (q6, .inl (cA7, 3, .inr (.inr (.inr (.inr (va_up (fun _ => none) 0 (some q26))))))), (q8, .inr (3, [.ref r11, .int 0, .int 0, .int 0, .int 0, .int 0, .int 0, .ref o12, .ref w14, .int 0])), (o12, .inr (5, [.ref k13, .int 0])), (q15, .inr (4, [.ref q18, .int 0])), (q18, .inl (cA19, 64, .inl (fun _ => 0))), (q20, .inr (5, [.ref q23, .int 0])), (q23, .inl (cA24, 300, .inl (fun _ => 0))), (q26, .inr (2, [.ref r29, .int 0, .int 0, .int 0, .int 0, .int 0, .int 0, .ref k31, .int 0, .int 0, .int 0, .int 0, .int 0, .int 0, .int 0, .int 0, .int 0, .int 0, .int 0])), (r29, .inl (cr30, 8, .inl (fun _ => 0))), (k31, .inl (ck32, 32, .inl (fun _ => 0)))] H := hP
  have hD : va_D A [(h0, .inr (0, [.ref q1, .ref q6, .ref q8, .ref q15, .ref q20, .int 0, .int 0, .int 0, .int 0, .int 0, .int 0])), (q1, .inr (1, [.ref q4, .int 0])), (q4, .inl (cA5, 64, .inl (fun _ => 0))), (q6, .inl (cA7, 3, .inr (.inr (.inr (.inr (va_up (fun _ => none) 0 (some q26))))))), (q8, .inr (3, [.ref r11, .int 0, .int 0, .int 0, .int 0, .int 0, .int 0, .ref o12, .ref w14, .int 0])), (o12, .inr (5, [.ref k13, .int 0])), (q15, .inr (4, [.ref q18, .int 0])), (q18, .inl (cA19, 64, .inl (fun _ => 0))), (q20, .inr (5, [.ref q23, .int 0])), (q23, .inl (cA24, 300, .inl (fun _ => 0))), (q26, .inr (2, [.ref r29, .int 0, .int 0, .int 0, .int 0, .int 0, .int 0, .ref k31, .int 0, .int 0, .int 0, .int 0, .int 0, .int 0, .int 0, .int 0, .int 0, .int 0, .int 0])), (r29, .inl (cr30, 8, .inl (fun _ => 0))), (k31, .inl (ck32, 32, .inl (fun _ => 0)))] := hD
  refine lv_iinc (k := 0) (v := 1) hx hb d_T_init_76 hl rfl rfl (by decide) rfl (fun ls hl => ?_)
  have hl : lv_has ls 2 [(1, .int 1), (0, .ref h0)] := hl
  refine lv_goto (tgt := 58) hx hb d_T_init_79 rfl ?_
  refine lv_iload_n hx hb d_T_init_58 rfl (lv_at hl 0 rfl) ?_
  refine lv_iconst (v := 3) hx hb d_T_init_59 (by decide) ?_
  refine lv_icmp_ge (tgt := 82) hx hb d_T_init_60 rfl (fun hc33 => by first | exact absurd hc33 (by decide) | exact absurd (by decide) hc33) (fun hc33 => ?_)
  refine lv_aload_n hx hb d_T_init_63 rfl (lv_at hl 1 rfl) ?_
  refine va_get (D := (dC, dI)) (ci := 0) (v := .ref q6) (C := "VotedTriple") (T := F_T) (N := 11) hx hb hw in_T hown hK hP 0 rfl rfl 1 (by decide) (hw _ k_195) (fun _ h9 => h9) rfl d_T_init_64 ?_
  refine lv_iload_n hx hb d_T_init_67 rfl (lv_at hl 0 rfl) ?_
  refine va_new (ci := 2) (fs := [.null, .int 0, .int 0, .int 0, .int 0, .int 0, .int 0, .null, .int 0, .int 0, .int 0, .int 0, .int 0, .int 0, .int 0, .int 0, .int 0, .int 0, .int 0]) (C := "VotedTriple$VotedModule") (T := F_D) (N := 19) hx hb hw in_D ft_D tyok_D hown (hw _ k_40) (hw _ k_135) (hw _ k_7) hK hP hD hS hA rfl df_D (Nat.le_of_ble_eq_true rfl) (Nat.le_of_ble_eq_true rfl) d_T_init_68 (fun q34 H hP hD hS => ?_)
  have hP : va_P (dC, dI) classes [(h0, .inr (0, [.ref q1, .ref q6, .ref q8, .ref q15, .ref q20, .int 0, .int 0, .int 0, .int 0, .int 0, .int 0])), (q1, .inr (1, [.ref q4, .int 0])), (q4, .inl (cA5, 64, .inl (fun _ => 0))), (q6, .inl (cA7, 3, .inr (.inr (.inr (.inr (va_up (fun _ => none) 0 (some q26))))))), (q8, .inr (3, [.ref r11, .int 0, .int 0, .int 0, .int 0, .int 0, .int 0, .ref o12, .ref w14, .int 0])), (o12, .inr (5, [.ref k13, .int 0])), (q15, .inr (4, [.ref q18, .int 0])), (q18, .inl (cA19, 64, .inl (fun _ => 0))), (q20, .inr (5, [.ref q23, .int 0])), (q23, .inl (cA24, 300, .inl (fun _ => 0))), (q26, .inr (2, [.ref r29, .int 0, .int 0, .int 0, .int 0, .int 0, .int 0, .ref k31, .int 0, .int 0, .int 0, .int 0, .int 0, .int 0, .int 0, .int 0, .int 0, .int 0, .int 0])), (r29, .inl (cr30, 8, .inl (fun _ => 0))), (k31, .inl (ck32, 32, .inl (fun _ => 0))), (q34, .inr (2, [.null, .int 0, .int 0, .int 0, .int 0, .int 0, .int 0, .null, .int 0, .int 0, .int 0, .int 0, .int 0, .int 0, .int 0, .int 0, .int 0, .int 0, .int 0]))] H := hP
  have hD : va_D A [(h0, .inr (0, [.ref q1, .ref q6, .ref q8, .ref q15, .ref q20, .int 0, .int 0, .int 0, .int 0, .int 0, .int 0])), (q1, .inr (1, [.ref q4, .int 0])), (q4, .inl (cA5, 64, .inl (fun _ => 0))), (q6, .inl (cA7, 3, .inr (.inr (.inr (.inr (va_up (fun _ => none) 0 (some q26))))))), (q8, .inr (3, [.ref r11, .int 0, .int 0, .int 0, .int 0, .int 0, .int 0, .ref o12, .ref w14, .int 0])), (o12, .inr (5, [.ref k13, .int 0])), (q15, .inr (4, [.ref q18, .int 0])), (q18, .inl (cA19, 64, .inl (fun _ => 0))), (q20, .inr (5, [.ref q23, .int 0])), (q23, .inl (cA24, 300, .inl (fun _ => 0))), (q26, .inr (2, [.ref r29, .int 0, .int 0, .int 0, .int 0, .int 0, .int 0, .ref k31, .int 0, .int 0, .int 0, .int 0, .int 0, .int 0, .int 0, .int 0, .int 0, .int 0, .int 0])), (r29, .inl (cr30, 8, .inl (fun _ => 0))), (k31, .inl (ck32, 32, .inl (fun _ => 0))), (q34, .inr (2, [.null, .int 0, .int 0, .int 0, .int 0, .int 0, .int 0, .null, .int 0, .int 0, .int 0, .int 0, .int 0, .int 0, .int 0, .int 0, .int 0, .int 0, .int 0]))] := hD
  refine W.widen (k := 16) (n := 867) (Nat.le_of_ble_eq_true rfl) (Nat.le_of_ble_eq_true rfl) ?_
  refine lv_dup hx hb d_T_init_71 rfl ?_
  have hPc := hP.sub (ws' := [(q34, .inr (2, [.null, .int 0, .int 0, .int 0, .int 0, .int 0, .int 0, .null, .int 0, .int 0, .int 0, .int 0, .int 0, .int 0, .int 0, .int 0, .int 0, .int 0, .int 0]))]) [13] rfl
  have hKc := hK.sub (tys' := []) [] rfl
  have hDc := hD.sub (ws' := [(q34, .inr (2, [.null, .int 0, .int 0, .int 0, .int 0, .int 0, .int 0, .null, .int 0, .int 0, .int 0, .int 0, .int 0, .int 0, .int 0, .int 0, .int 0, .int 0, .int 0]))]) [13] (by decide) rfl
  have hFc := va_free (wc := [(q34, .inr (2, [.null, .int 0, .int 0, .int 0, .int 0, .int 0, .int 0, .null, .int 0, .int 0, .int 0, .int 0, .int 0, .int 0, .int 0, .int 0, .int 0, .int 0, .int 0]))]) hD hS hA [13] rfl
  refine va_callv (va_runIN (As := []) (rest := [.ref q34, .int 1, .ref q6]) ⟨hx, hb, hml, hown, hw⟩ (c_D_init l dC dI q34 H.size) ⟨va_cnB 0 hw (gd (k_138)) rfl rfl rfl (nw_136 hnw) (hw _ k_7) (by decide +kernel) ⟨Nat.le_of_ble_eq_true rfl, Nat.le_of_ble_eq_true rfl⟩, rfl, hw _ k_137⟩ ⟨fun a U g mk q => by obtain ⟨q0, q1, qP, qK, qD, qN⟩ := q; exact ⟨q0, q1, qP, va_K.moved (u := U) (U := U.calling g mk a) (Vm.Alike.refl U.vm) qK, qD, nw_vm (u := U) (U := U.calling g mk a) rfl qN⟩, fun U hU hW => ⟨rfl, by rw [hU], by rw [hU]; exact hPc, va_K.moved hW.alike hKc, hDc.weaken (fun _ _ _ _ => trivial), nw_warm hW hnw⟩⟩ rfl rfl hl.1 rfl (lv_room (Nat.le_of_ble_eq_true rfl)) d_T_init_72 ⟨Nat.le_of_ble_eq_true rfl, Nat.le_of_ble_eq_true rfl⟩) hS (fun q _ h => hFc q h) hFc (fun u9 t H1 locs ht hvm hr36 hB hz1 hk1 hS => ?_)
  obtain ⟨r37, cr38, k39, ck40⟩ := u9
  obtain ⟨hP1, hK1, hD1⟩ := hB
  rw [ht] at hP1
  have hK1 := va_K.moved hvm.symm hK1
  try dsimp only at hr36 hP1 hK1 hD1
  obtain ⟨hP, hD⟩ := va_join (wr := [(h0, .inr (0, [.ref q1, .ref q6, .ref q8, .ref q15, .ref q20, .int 0, .int 0, .int 0, .int 0, .int 0, .int 0])), (q1, .inr (1, [.ref q4, .int 0])), (q4, .inl (cA5, 64, .inl (fun _ => 0))), (q6, .inl (cA7, 3, .inr (.inr (.inr (.inr (va_up (fun _ => none) 0 (some q26))))))), (q8, .inr (3, [.ref r11, .int 0, .int 0, .int 0, .int 0, .int 0, .int 0, .ref o12, .ref w14, .int 0])), (o12, .inr (5, [.ref k13, .int 0])), (q15, .inr (4, [.ref q18, .int 0])), (q18, .inl (cA19, 64, .inl (fun _ => 0))), (q20, .inr (5, [.ref q23, .int 0])), (q23, .inl (cA24, 300, .inl (fun _ => 0))), (q26, .inr (2, [.ref r29, .int 0, .int 0, .int 0, .int 0, .int 0, .int 0, .ref k31, .int 0, .int 0, .int 0, .int 0, .int 0, .int 0, .int 0, .int 0, .int 0, .int 0, .int 0])), (r29, .inl (cr30, 8, .inl (fun _ => 0))), (k31, .inl (ck32, 32, .inl (fun _ => 0)))]) (w1 := [(q34, .inr (2, [.ref r37, .int 0, .int 0, .int 0, .int 0, .int 0, .int 0, .ref k39, .int 0, .int 0, .int 0, .int 0, .int 0, .int 0, .int 0, .int 0, .int 0, .int 0, .int 0])), (r37, .inl (cr38, 8, .inl (fun _ => 0))), (k39, .inl (ck40, 32, .inl (fun _ => 0)))]) hP hD [13] [0, 1, 2, 3, 4, 5, 6, 7, 8, 9, 10, 11, 12] rfl rfl (by decide) (by decide) hk1 hFc hP1 hD1
  have hK := (hK.sub (tys' := [(cA5, .int), (cA7, .object "VotedTriple$VotedModule"), (cA19, .int), (cA24, .int), (cr30, .int), (ck32, .int)]) [0, 1, 2, 3, 4, 5] rfl).app hK1
  generalize H1 = H at hP hS ⊢
  have hP : va_P (dC, dI) classes [(h0, .inr (0, [.ref q1, .ref q6, .ref q8, .ref q15, .ref q20, .int 0, .int 0, .int 0, .int 0, .int 0, .int 0])), (q1, .inr (1, [.ref q4, .int 0])), (q4, .inl (cA5, 64, .inl (fun _ => 0))), (q6, .inl (cA7, 3, .inr (.inr (.inr (.inr (va_up (fun _ => none) 0 (some q26))))))), (q8, .inr (3, [.ref r11, .int 0, .int 0, .int 0, .int 0, .int 0, .int 0, .ref o12, .ref w14, .int 0])), (o12, .inr (5, [.ref k13, .int 0])), (q15, .inr (4, [.ref q18, .int 0])), (q18, .inl (cA19, 64, .inl (fun _ => 0))), (q20, .inr (5, [.ref q23, .int 0])), (q23, .inl (cA24, 300, .inl (fun _ => 0))), (q26, .inr (2, [.ref r29, .int 0, .int 0, .int 0, .int 0, .int 0, .int 0, .ref k31, .int 0, .int 0, .int 0, .int 0, .int 0, .int 0, .int 0, .int 0, .int 0, .int 0, .int 0])), (r29, .inl (cr30, 8, .inl (fun _ => 0))), (k31, .inl (ck32, 32, .inl (fun _ => 0))), (q34, .inr (2, [.ref r37, .int 0, .int 0, .int 0, .int 0, .int 0, .int 0, .ref k39, .int 0, .int 0, .int 0, .int 0, .int 0, .int 0, .int 0, .int 0, .int 0, .int 0, .int 0])), (r37, .inl (cr38, 8, .inl (fun _ => 0))), (k39, .inl (ck40, 32, .inl (fun _ => 0)))] H := hP
  have hD : va_D A [(h0, .inr (0, [.ref q1, .ref q6, .ref q8, .ref q15, .ref q20, .int 0, .int 0, .int 0, .int 0, .int 0, .int 0])), (q1, .inr (1, [.ref q4, .int 0])), (q4, .inl (cA5, 64, .inl (fun _ => 0))), (q6, .inl (cA7, 3, .inr (.inr (.inr (.inr (va_up (fun _ => none) 0 (some q26))))))), (q8, .inr (3, [.ref r11, .int 0, .int 0, .int 0, .int 0, .int 0, .int 0, .ref o12, .ref w14, .int 0])), (o12, .inr (5, [.ref k13, .int 0])), (q15, .inr (4, [.ref q18, .int 0])), (q18, .inl (cA19, 64, .inl (fun _ => 0))), (q20, .inr (5, [.ref q23, .int 0])), (q23, .inl (cA24, 300, .inl (fun _ => 0))), (q26, .inr (2, [.ref r29, .int 0, .int 0, .int 0, .int 0, .int 0, .int 0, .ref k31, .int 0, .int 0, .int 0, .int 0, .int 0, .int 0, .int 0, .int 0, .int 0, .int 0, .int 0])), (r29, .inl (cr30, 8, .inl (fun _ => 0))), (k31, .inl (ck32, 32, .inl (fun _ => 0))), (q34, .inr (2, [.ref r37, .int 0, .int 0, .int 0, .int 0, .int 0, .int 0, .ref k39, .int 0, .int 0, .int 0, .int 0, .int 0, .int 0, .int 0, .int 0, .int 0, .int 0, .int 0])), (r37, .inl (cr38, 8, .inl (fun _ => 0))), (k39, .inl (ck40, 32, .inl (fun _ => 0)))] := hD
  have hK : va_K (dC, dI) classes [(cA5, .int), (cA7, .object "VotedTriple$VotedModule"), (cA19, .int), (cA24, .int), (cr30, .int), (ck32, .int), (cr38, .int), (ck40, .int)] s := hK
  refine W.widen (k := 18) (n := 907) (Nat.le_of_ble_eq_true rfl) (Nat.le_of_ble_eq_true rfl) ?_
  refine va_astq hx hb hK hP hD hS 3 1 13 2 rfl rfl rfl rfl (by unfold vp_in; decide) d_T_init_75 (fun H locs hP hD hS => ?_)
  have hP : va_P (dC, dI) classes [(h0, .inr (0, [.ref q1, .ref q6, .ref q8, .ref q15, .ref q20, .int 0, .int 0, .int 0, .int 0, .int 0, .int 0])), (q1, .inr (1, [.ref q4, .int 0])), (q4, .inl (cA5, 64, .inl (fun _ => 0))), (q6, .inl (cA7, 3, .inr (.inr (.inr (.inr (va_up (va_up (fun _ => none) 0 (some q26)) 1 (some q34))))))), (q8, .inr (3, [.ref r11, .int 0, .int 0, .int 0, .int 0, .int 0, .int 0, .ref o12, .ref w14, .int 0])), (o12, .inr (5, [.ref k13, .int 0])), (q15, .inr (4, [.ref q18, .int 0])), (q18, .inl (cA19, 64, .inl (fun _ => 0))), (q20, .inr (5, [.ref q23, .int 0])), (q23, .inl (cA24, 300, .inl (fun _ => 0))), (q26, .inr (2, [.ref r29, .int 0, .int 0, .int 0, .int 0, .int 0, .int 0, .ref k31, .int 0, .int 0, .int 0, .int 0, .int 0, .int 0, .int 0, .int 0, .int 0, .int 0, .int 0])), (r29, .inl (cr30, 8, .inl (fun _ => 0))), (k31, .inl (ck32, 32, .inl (fun _ => 0))), (q34, .inr (2, [.ref r37, .int 0, .int 0, .int 0, .int 0, .int 0, .int 0, .ref k39, .int 0, .int 0, .int 0, .int 0, .int 0, .int 0, .int 0, .int 0, .int 0, .int 0, .int 0])), (r37, .inl (cr38, 8, .inl (fun _ => 0))), (k39, .inl (ck40, 32, .inl (fun _ => 0)))] H := hP
  have hD : va_D A [(h0, .inr (0, [.ref q1, .ref q6, .ref q8, .ref q15, .ref q20, .int 0, .int 0, .int 0, .int 0, .int 0, .int 0])), (q1, .inr (1, [.ref q4, .int 0])), (q4, .inl (cA5, 64, .inl (fun _ => 0))), (q6, .inl (cA7, 3, .inr (.inr (.inr (.inr (va_up (va_up (fun _ => none) 0 (some q26)) 1 (some q34))))))), (q8, .inr (3, [.ref r11, .int 0, .int 0, .int 0, .int 0, .int 0, .int 0, .ref o12, .ref w14, .int 0])), (o12, .inr (5, [.ref k13, .int 0])), (q15, .inr (4, [.ref q18, .int 0])), (q18, .inl (cA19, 64, .inl (fun _ => 0))), (q20, .inr (5, [.ref q23, .int 0])), (q23, .inl (cA24, 300, .inl (fun _ => 0))), (q26, .inr (2, [.ref r29, .int 0, .int 0, .int 0, .int 0, .int 0, .int 0, .ref k31, .int 0, .int 0, .int 0, .int 0, .int 0, .int 0, .int 0, .int 0, .int 0, .int 0, .int 0])), (r29, .inl (cr30, 8, .inl (fun _ => 0))), (k31, .inl (ck32, 32, .inl (fun _ => 0))), (q34, .inr (2, [.ref r37, .int 0, .int 0, .int 0, .int 0, .int 0, .int 0, .ref k39, .int 0, .int 0, .int 0, .int 0, .int 0, .int 0, .int 0, .int 0, .int 0, .int 0, .int 0])), (r37, .inl (cr38, 8, .inl (fun _ => 0))), (k39, .inl (ck40, 32, .inl (fun _ => 0)))] := hD
  refine lv_iinc (k := 0) (v := 2) hx hb d_T_init_76 hl rfl rfl (by decide) rfl (fun ls hl => ?_)
  have hl : lv_has ls 2 [(1, .int 2), (0, .ref h0)] := hl
  refine lv_goto (tgt := 58) hx hb d_T_init_79 rfl ?_
  refine lv_iload_n hx hb d_T_init_58 rfl (lv_at hl 0 rfl) ?_
  refine lv_iconst (v := 3) hx hb d_T_init_59 (by decide) ?_
  refine lv_icmp_ge (tgt := 82) hx hb d_T_init_60 rfl (fun hc41 => by first | exact absurd hc41 (by decide) | exact absurd (by decide) hc41) (fun hc41 => ?_)
  refine lv_aload_n hx hb d_T_init_63 rfl (lv_at hl 1 rfl) ?_
  refine va_get (D := (dC, dI)) (ci := 0) (v := .ref q6) (C := "VotedTriple") (T := F_T) (N := 11) hx hb hw in_T hown hK hP 0 rfl rfl 1 (by decide) (hw _ k_195) (fun _ h9 => h9) rfl d_T_init_64 ?_
  refine lv_iload_n hx hb d_T_init_67 rfl (lv_at hl 0 rfl) ?_
  refine va_new (ci := 2) (fs := [.null, .int 0, .int 0, .int 0, .int 0, .int 0, .int 0, .null, .int 0, .int 0, .int 0, .int 0, .int 0, .int 0, .int 0, .int 0, .int 0, .int 0, .int 0]) (C := "VotedTriple$VotedModule") (T := F_D) (N := 19) hx hb hw in_D ft_D tyok_D hown (hw _ k_40) (hw _ k_135) (hw _ k_7) hK hP hD hS hA rfl df_D (Nat.le_of_ble_eq_true rfl) (Nat.le_of_ble_eq_true rfl) d_T_init_68 (fun q42 H hP hD hS => ?_)
  have hP : va_P (dC, dI) classes [(h0, .inr (0, [.ref q1, .ref q6, .ref q8, .ref q15, .ref q20, .int 0, .int 0, .int 0, .int 0, .int 0, .int 0])), (q1, .inr (1, [.ref q4, .int 0])), (q4, .inl (cA5, 64, .inl (fun _ => 0))), (q6, .inl (cA7, 3, .inr (.inr (.inr (.inr (va_up (va_up (fun _ => none) 0 (some q26)) 1 (some q34))))))), (q8, .inr (3, [.ref r11, .int 0, .int 0, .int 0, .int 0, .int 0, .int 0, .ref o12, .ref w14, .int 0])), (o12, .inr (5, [.ref k13, .int 0])), (q15, .inr (4, [.ref q18, .int 0])), (q18, .inl (cA19, 64, .inl (fun _ => 0))), (q20, .inr (5, [.ref q23, .int 0])), (q23, .inl (cA24, 300, .inl (fun _ => 0))), (q26, .inr (2, [.ref r29, .int 0, .int 0, .int 0, .int 0, .int 0, .int 0, .ref k31, .int 0, .int 0, .int 0, .int 0, .int 0, .int 0, .int 0, .int 0, .int 0, .int 0, .int 0])), (r29, .inl (cr30, 8, .inl (fun _ => 0))), (k31, .inl (ck32, 32, .inl (fun _ => 0))), (q34, .inr (2, [.ref r37, .int 0, .int 0, .int 0, .int 0, .int 0, .int 0, .ref k39, .int 0, .int 0, .int 0, .int 0, .int 0, .int 0, .int 0, .int 0, .int 0, .int 0, .int 0])), (r37, .inl (cr38, 8, .inl (fun _ => 0))), (k39, .inl (ck40, 32, .inl (fun _ => 0))), (q42, .inr (2, [.null, .int 0, .int 0, .int 0, .int 0, .int 0, .int 0, .null, .int 0, .int 0, .int 0, .int 0, .int 0, .int 0, .int 0, .int 0, .int 0, .int 0, .int 0]))] H := hP
  have hD : va_D A [(h0, .inr (0, [.ref q1, .ref q6, .ref q8, .ref q15, .ref q20, .int 0, .int 0, .int 0, .int 0, .int 0, .int 0])), (q1, .inr (1, [.ref q4, .int 0])), (q4, .inl (cA5, 64, .inl (fun _ => 0))), (q6, .inl (cA7, 3, .inr (.inr (.inr (.inr (va_up (va_up (fun _ => none) 0 (some q26)) 1 (some q34))))))), (q8, .inr (3, [.ref r11, .int 0, .int 0, .int 0, .int 0, .int 0, .int 0, .ref o12, .ref w14, .int 0])), (o12, .inr (5, [.ref k13, .int 0])), (q15, .inr (4, [.ref q18, .int 0])), (q18, .inl (cA19, 64, .inl (fun _ => 0))), (q20, .inr (5, [.ref q23, .int 0])), (q23, .inl (cA24, 300, .inl (fun _ => 0))), (q26, .inr (2, [.ref r29, .int 0, .int 0, .int 0, .int 0, .int 0, .int 0, .ref k31, .int 0, .int 0, .int 0, .int 0, .int 0, .int 0, .int 0, .int 0, .int 0, .int 0, .int 0])), (r29, .inl (cr30, 8, .inl (fun _ => 0))), (k31, .inl (ck32, 32, .inl (fun _ => 0))), (q34, .inr (2, [.ref r37, .int 0, .int 0, .int 0, .int 0, .int 0, .int 0, .ref k39, .int 0, .int 0, .int 0, .int 0, .int 0, .int 0, .int 0, .int 0, .int 0, .int 0, .int 0])), (r37, .inl (cr38, 8, .inl (fun _ => 0))), (k39, .inl (ck40, 32, .inl (fun _ => 0))), (q42, .inr (2, [.null, .int 0, .int 0, .int 0, .int 0, .int 0, .int 0, .null, .int 0, .int 0, .int 0, .int 0, .int 0, .int 0, .int 0, .int 0, .int 0, .int 0, .int 0]))] := hD
  refine W.widen (k := 19) (n := 926) (Nat.le_of_ble_eq_true rfl) (Nat.le_of_ble_eq_true rfl) ?_
  refine lv_dup hx hb d_T_init_71 rfl ?_
  have hPc := hP.sub (ws' := [(q42, .inr (2, [.null, .int 0, .int 0, .int 0, .int 0, .int 0, .int 0, .null, .int 0, .int 0, .int 0, .int 0, .int 0, .int 0, .int 0, .int 0, .int 0, .int 0, .int 0]))]) [16] rfl
  have hKc := hK.sub (tys' := []) [] rfl
  have hDc := hD.sub (ws' := [(q42, .inr (2, [.null, .int 0, .int 0, .int 0, .int 0, .int 0, .int 0, .null, .int 0, .int 0, .int 0, .int 0, .int 0, .int 0, .int 0, .int 0, .int 0, .int 0, .int 0]))]) [16] (by decide) rfl
  have hFc := va_free (wc := [(q42, .inr (2, [.null, .int 0, .int 0, .int 0, .int 0, .int 0, .int 0, .null, .int 0, .int 0, .int 0, .int 0, .int 0, .int 0, .int 0, .int 0, .int 0, .int 0, .int 0]))]) hD hS hA [16] rfl
  refine va_callv (va_runIN (As := []) (rest := [.ref q42, .int 2, .ref q6]) ⟨hx, hb, hml, hown, hw⟩ (c_D_init l dC dI q42 H.size) ⟨va_cnB 0 hw (gd (k_138)) rfl rfl rfl (nw_136 hnw) (hw _ k_7) (by decide +kernel) ⟨Nat.le_of_ble_eq_true rfl, Nat.le_of_ble_eq_true rfl⟩, rfl, hw _ k_137⟩ ⟨fun a U g mk q => by obtain ⟨q0, q1, qP, qK, qD, qN⟩ := q; exact ⟨q0, q1, qP, va_K.moved (u := U) (U := U.calling g mk a) (Vm.Alike.refl U.vm) qK, qD, nw_vm (u := U) (U := U.calling g mk a) rfl qN⟩, fun U hU hW => ⟨rfl, by rw [hU], by rw [hU]; exact hPc, va_K.moved hW.alike hKc, hDc.weaken (fun _ _ _ _ => trivial), nw_warm hW hnw⟩⟩ rfl rfl hl.1 rfl (lv_room (Nat.le_of_ble_eq_true rfl)) d_T_init_72 ⟨Nat.le_of_ble_eq_true rfl, Nat.le_of_ble_eq_true rfl⟩) hS (fun q _ h => hFc q h) hFc (fun u9 t H1 locs ht hvm hr44 hB hz1 hk1 hS => ?_)
  obtain ⟨r45, cr46, k47, ck48⟩ := u9
  obtain ⟨hP1, hK1, hD1⟩ := hB
  rw [ht] at hP1
  have hK1 := va_K.moved hvm.symm hK1
  try dsimp only at hr44 hP1 hK1 hD1
  obtain ⟨hP, hD⟩ := va_join (wr := [(h0, .inr (0, [.ref q1, .ref q6, .ref q8, .ref q15, .ref q20, .int 0, .int 0, .int 0, .int 0, .int 0, .int 0])), (q1, .inr (1, [.ref q4, .int 0])), (q4, .inl (cA5, 64, .inl (fun _ => 0))), (q6, .inl (cA7, 3, .inr (.inr (.inr (.inr (va_up (va_up (fun _ => none) 0 (some q26)) 1 (some q34))))))), (q8, .inr (3, [.ref r11, .int 0, .int 0, .int 0, .int 0, .int 0, .int 0, .ref o12, .ref w14, .int 0])), (o12, .inr (5, [.ref k13, .int 0])), (q15, .inr (4, [.ref q18, .int 0])), (q18, .inl (cA19, 64, .inl (fun _ => 0))), (q20, .inr (5, [.ref q23, .int 0])), (q23, .inl (cA24, 300, .inl (fun _ => 0))), (q26, .inr (2, [.ref r29, .int 0, .int 0, .int 0, .int 0, .int 0, .int 0, .ref k31, .int 0, .int 0, .int 0, .int 0, .int 0, .int 0, .int 0, .int 0, .int 0, .int 0, .int 0])), (r29, .inl (cr30, 8, .inl (fun _ => 0))), (k31, .inl (ck32, 32, .inl (fun _ => 0))), (q34, .inr (2, [.ref r37, .int 0, .int 0, .int 0, .int 0, .int 0, .int 0, .ref k39, .int 0, .int 0, .int 0, .int 0, .int 0, .int 0, .int 0, .int 0, .int 0, .int 0, .int 0])), (r37, .inl (cr38, 8, .inl (fun _ => 0))), (k39, .inl (ck40, 32, .inl (fun _ => 0)))]) (w1 := [(q42, .inr (2, [.ref r45, .int 0, .int 0, .int 0, .int 0, .int 0, .int 0, .ref k47, .int 0, .int 0, .int 0, .int 0, .int 0, .int 0, .int 0, .int 0, .int 0, .int 0, .int 0])), (r45, .inl (cr46, 8, .inl (fun _ => 0))), (k47, .inl (ck48, 32, .inl (fun _ => 0)))]) hP hD [16] [0, 1, 2, 3, 4, 5, 6, 7, 8, 9, 10, 11, 12, 13, 14, 15] rfl rfl (by decide) (by decide) hk1 hFc hP1 hD1
  have hK := (hK.sub (tys' := [(cA5, .int), (cA7, .object "VotedTriple$VotedModule"), (cA19, .int), (cA24, .int), (cr30, .int), (ck32, .int), (cr38, .int), (ck40, .int)]) [0, 1, 2, 3, 4, 5, 6, 7] rfl).app hK1
  generalize H1 = H at hP hS ⊢
  have hP : va_P (dC, dI) classes [(h0, .inr (0, [.ref q1, .ref q6, .ref q8, .ref q15, .ref q20, .int 0, .int 0, .int 0, .int 0, .int 0, .int 0])), (q1, .inr (1, [.ref q4, .int 0])), (q4, .inl (cA5, 64, .inl (fun _ => 0))), (q6, .inl (cA7, 3, .inr (.inr (.inr (.inr (va_up (va_up (fun _ => none) 0 (some q26)) 1 (some q34))))))), (q8, .inr (3, [.ref r11, .int 0, .int 0, .int 0, .int 0, .int 0, .int 0, .ref o12, .ref w14, .int 0])), (o12, .inr (5, [.ref k13, .int 0])), (q15, .inr (4, [.ref q18, .int 0])), (q18, .inl (cA19, 64, .inl (fun _ => 0))), (q20, .inr (5, [.ref q23, .int 0])), (q23, .inl (cA24, 300, .inl (fun _ => 0))), (q26, .inr (2, [.ref r29, .int 0, .int 0, .int 0, .int 0, .int 0, .int 0, .ref k31, .int 0, .int 0, .int 0, .int 0, .int 0, .int 0, .int 0, .int 0, .int 0, .int 0, .int 0])), (r29, .inl (cr30, 8, .inl (fun _ => 0))), (k31, .inl (ck32, 32, .inl (fun _ => 0))), (q34, .inr (2, [.ref r37, .int 0, .int 0, .int 0, .int 0, .int 0, .int 0, .ref k39, .int 0, .int 0, .int 0, .int 0, .int 0, .int 0, .int 0, .int 0, .int 0, .int 0, .int 0])), (r37, .inl (cr38, 8, .inl (fun _ => 0))), (k39, .inl (ck40, 32, .inl (fun _ => 0))), (q42, .inr (2, [.ref r45, .int 0, .int 0, .int 0, .int 0, .int 0, .int 0, .ref k47, .int 0, .int 0, .int 0, .int 0, .int 0, .int 0, .int 0, .int 0, .int 0, .int 0, .int 0])), (r45, .inl (cr46, 8, .inl (fun _ => 0))), (k47, .inl (ck48, 32, .inl (fun _ => 0)))] H := hP
  have hD : va_D A [(h0, .inr (0, [.ref q1, .ref q6, .ref q8, .ref q15, .ref q20, .int 0, .int 0, .int 0, .int 0, .int 0, .int 0])), (q1, .inr (1, [.ref q4, .int 0])), (q4, .inl (cA5, 64, .inl (fun _ => 0))), (q6, .inl (cA7, 3, .inr (.inr (.inr (.inr (va_up (va_up (fun _ => none) 0 (some q26)) 1 (some q34))))))), (q8, .inr (3, [.ref r11, .int 0, .int 0, .int 0, .int 0, .int 0, .int 0, .ref o12, .ref w14, .int 0])), (o12, .inr (5, [.ref k13, .int 0])), (q15, .inr (4, [.ref q18, .int 0])), (q18, .inl (cA19, 64, .inl (fun _ => 0))), (q20, .inr (5, [.ref q23, .int 0])), (q23, .inl (cA24, 300, .inl (fun _ => 0))), (q26, .inr (2, [.ref r29, .int 0, .int 0, .int 0, .int 0, .int 0, .int 0, .ref k31, .int 0, .int 0, .int 0, .int 0, .int 0, .int 0, .int 0, .int 0, .int 0, .int 0, .int 0])), (r29, .inl (cr30, 8, .inl (fun _ => 0))), (k31, .inl (ck32, 32, .inl (fun _ => 0))), (q34, .inr (2, [.ref r37, .int 0, .int 0, .int 0, .int 0, .int 0, .int 0, .ref k39, .int 0, .int 0, .int 0, .int 0, .int 0, .int 0, .int 0, .int 0, .int 0, .int 0, .int 0])), (r37, .inl (cr38, 8, .inl (fun _ => 0))), (k39, .inl (ck40, 32, .inl (fun _ => 0))), (q42, .inr (2, [.ref r45, .int 0, .int 0, .int 0, .int 0, .int 0, .int 0, .ref k47, .int 0, .int 0, .int 0, .int 0, .int 0, .int 0, .int 0, .int 0, .int 0, .int 0, .int 0])), (r45, .inl (cr46, 8, .inl (fun _ => 0))), (k47, .inl (ck48, 32, .inl (fun _ => 0)))] := hD
  have hK : va_K (dC, dI) classes [(cA5, .int), (cA7, .object "VotedTriple$VotedModule"), (cA19, .int), (cA24, .int), (cr30, .int), (ck32, .int), (cr38, .int), (ck40, .int), (cr46, .int), (ck48, .int)] s := hK
  refine W.widen (k := 21) (n := 966) (Nat.le_of_ble_eq_true rfl) (Nat.le_of_ble_eq_true rfl) ?_
  refine va_astq hx hb hK hP hD hS 3 1 16 2 rfl rfl rfl rfl (by unfold vp_in; decide) d_T_init_75 (fun H locs hP hD hS => ?_)
  have hP : va_P (dC, dI) classes [(h0, .inr (0, [.ref q1, .ref q6, .ref q8, .ref q15, .ref q20, .int 0, .int 0, .int 0, .int 0, .int 0, .int 0])), (q1, .inr (1, [.ref q4, .int 0])), (q4, .inl (cA5, 64, .inl (fun _ => 0))), (q6, .inl (cA7, 3, .inr (.inr (.inr (.inr (va_up (va_up (va_up (fun _ => none) 0 (some q26)) 1 (some q34)) 2 (some q42))))))), (q8, .inr (3, [.ref r11, .int 0, .int 0, .int 0, .int 0, .int 0, .int 0, .ref o12, .ref w14, .int 0])), (o12, .inr (5, [.ref k13, .int 0])), (q15, .inr (4, [.ref q18, .int 0])), (q18, .inl (cA19, 64, .inl (fun _ => 0))), (q20, .inr (5, [.ref q23, .int 0])), (q23, .inl (cA24, 300, .inl (fun _ => 0))), (q26, .inr (2, [.ref r29, .int 0, .int 0, .int 0, .int 0, .int 0, .int 0, .ref k31, .int 0, .int 0, .int 0, .int 0, .int 0, .int 0, .int 0, .int 0, .int 0, .int 0, .int 0])), (r29, .inl (cr30, 8, .inl (fun _ => 0))), (k31, .inl (ck32, 32, .inl (fun _ => 0))), (q34, .inr (2, [.ref r37, .int 0, .int 0, .int 0, .int 0, .int 0, .int 0, .ref k39, .int 0, .int 0, .int 0, .int 0, .int 0, .int 0, .int 0, .int 0, .int 0, .int 0, .int 0])), (r37, .inl (cr38, 8, .inl (fun _ => 0))), (k39, .inl (ck40, 32, .inl (fun _ => 0))), (q42, .inr (2, [.ref r45, .int 0, .int 0, .int 0, .int 0, .int 0, .int 0, .ref k47, .int 0, .int 0, .int 0, .int 0, .int 0, .int 0, .int 0, .int 0, .int 0, .int 0, .int 0])), (r45, .inl (cr46, 8, .inl (fun _ => 0))), (k47, .inl (ck48, 32, .inl (fun _ => 0)))] H := hP
  have hD : va_D A [(h0, .inr (0, [.ref q1, .ref q6, .ref q8, .ref q15, .ref q20, .int 0, .int 0, .int 0, .int 0, .int 0, .int 0])), (q1, .inr (1, [.ref q4, .int 0])), (q4, .inl (cA5, 64, .inl (fun _ => 0))), (q6, .inl (cA7, 3, .inr (.inr (.inr (.inr (va_up (va_up (va_up (fun _ => none) 0 (some q26)) 1 (some q34)) 2 (some q42))))))), (q8, .inr (3, [.ref r11, .int 0, .int 0, .int 0, .int 0, .int 0, .int 0, .ref o12, .ref w14, .int 0])), (o12, .inr (5, [.ref k13, .int 0])), (q15, .inr (4, [.ref q18, .int 0])), (q18, .inl (cA19, 64, .inl (fun _ => 0))), (q20, .inr (5, [.ref q23, .int 0])), (q23, .inl (cA24, 300, .inl (fun _ => 0))), (q26, .inr (2, [.ref r29, .int 0, .int 0, .int 0, .int 0, .int 0, .int 0, .ref k31, .int 0, .int 0, .int 0, .int 0, .int 0, .int 0, .int 0, .int 0, .int 0, .int 0, .int 0])), (r29, .inl (cr30, 8, .inl (fun _ => 0))), (k31, .inl (ck32, 32, .inl (fun _ => 0))), (q34, .inr (2, [.ref r37, .int 0, .int 0, .int 0, .int 0, .int 0, .int 0, .ref k39, .int 0, .int 0, .int 0, .int 0, .int 0, .int 0, .int 0, .int 0, .int 0, .int 0, .int 0])), (r37, .inl (cr38, 8, .inl (fun _ => 0))), (k39, .inl (ck40, 32, .inl (fun _ => 0))), (q42, .inr (2, [.ref r45, .int 0, .int 0, .int 0, .int 0, .int 0, .int 0, .ref k47, .int 0, .int 0, .int 0, .int 0, .int 0, .int 0, .int 0, .int 0, .int 0, .int 0, .int 0])), (r45, .inl (cr46, 8, .inl (fun _ => 0))), (k47, .inl (ck48, 32, .inl (fun _ => 0)))] := hD
  refine lv_iinc (k := 0) (v := 3) hx hb d_T_init_76 hl rfl rfl (by decide) rfl (fun ls hl => ?_)
  have hl : lv_has ls 2 [(1, .int 3), (0, .ref h0)] := hl
  refine lv_goto (tgt := 58) hx hb d_T_init_79 rfl ?_
  refine lv_iload_n hx hb d_T_init_58 rfl (lv_at hl 0 rfl) ?_
  refine lv_iconst (v := 3) hx hb d_T_init_59 (by decide) ?_
  refine lv_icmp_ge (tgt := 82) hx hb d_T_init_60 rfl (fun hc49 => ?_) (fun hc49 => by first | exact absurd (by decide) hc49 | exact absurd hc49 (by decide))
  have hP9 := hP.sub (ws' := [(h0, .inr (0, [.ref q1, .ref q6, .ref q8, .ref q15, .ref q20, .int 0, .int 0, .int 0, .int 0, .int 0, .int 0])), (q1, .inr (1, [.ref q4, .int 0])), (q4, .inl (cA5, 64, .inl (fun _ => 0))), (q8, .inr (3, [.ref r11, .int 0, .int 0, .int 0, .int 0, .int 0, .int 0, .ref o12, .ref w14, .int 0])), (o12, .inr (5, [.ref k13, .int 0])), (q15, .inr (4, [.ref q18, .int 0])), (q20, .inr (5, [.ref q23, .int 0]))]) [0, 1, 2, 4, 5, 6, 8] rfl
  have hD9 := hD.sub (ws' := [(h0, .inr (0, [.ref q1, .ref q6, .ref q8, .ref q15, .ref q20, .int 0, .int 0, .int 0, .int 0, .int 0, .int 0])), (q1, .inr (1, [.ref q4, .int 0])), (q4, .inl (cA5, 64, .inl (fun _ => 0))), (q8, .inr (3, [.ref r11, .int 0, .int 0, .int 0, .int 0, .int 0, .int 0, .ref o12, .ref w14, .int 0])), (o12, .inr (5, [.ref k13, .int 0])), (q15, .inr (4, [.ref q18, .int 0])), (q20, .inr (5, [.ref q23, .int 0]))]) [0, 1, 2, 4, 5, 6, 8] (by decide) rfl
  have hK9 := hK.sub (tys' := [(cA5, .int)]) [0] rfl
  refine W.widen (k := 21) (n := 966) (Nat.le_of_ble_eq_true rfl) (Nat.le_of_ble_eq_true rfl) ?_
  exact W.vret hx hb hr (fun t ht hW => ⟨⟨(q1, q6, q8, q15, q20, q4, cA5, r11, o12, k13, w14, q18, q23), rfl, trivial, by rw [ht]; exact hP9, va_K.moved hW.alike hK9, hD9⟩, hS.F ht⟩) hS.2.2 d_T_init_82
