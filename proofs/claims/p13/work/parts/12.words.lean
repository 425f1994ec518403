set_option maxHeartbeats 4000000 in
set_option maxRecDepth 100000 in
theorem c_N_forget (l : Launch) (dC : Nat → ClassId) (dI : Nat → Nat → Nat) (h0 w9 : Nat) (v9 : Int32) (sz : Nat) : Met l y_N_forget (tbw y_N_forget b_N_forget 1 none) ({ frames := 0, cells := 0, slots := 0, locals := 0 }) (va_Pc [.ref h0] (fun U => U.heap.size = sz ∧ va_P (dC, dI) classes [(h0, .inr (4, [.ref w9, .int v9]))] U.heap ∧ va_K (dC, dI) classes [] U ∧ va_D (fun _ => True) [(h0, .inr (4, [.ref w9, .int v9]))])) (va_Qv (fun (u9 : Unit) => match u9 with | _ => True) (fun (u9 : Unit) t => match u9 with | _ => va_P (dC, dI) classes [(h0, .inr (4, [.ref w9, .int 0]))] t.heap ∧ va_K (dC, dI) classes [] t ∧ va_D (va_A [(h0, .inr (4, [.ref w9, .int v9]))] sz) [(h0, .inr (4, [.ref w9, .int 0]))]) (va_A [(h0, .inr (4, [.ref w9, .int v9]))] sz)) 0 0 (va_A [(h0, .inr (4, [.ref w9, .int v9]))] sz) := by
  refine Met.ofW (cc := b_N_forget) (maxL := 1) (ret := none) (by decide) rfl ?_
  intro p e s m args below meth c s₁ B hml hv
  obtain ⟨rfl, hsz, hP, hK, hD0⟩ := hv
  have hx := B.exec
  have hb := B.bytes
  have hr := B.returns
  have hts := atoms_spec (ws := (tbw y_N_forget b_N_forget 1 none)) B.pre
  have hw : ∀ z9 ∈ tb, z9.before ([.ref h0] : List Value).toArray s = true := fun z9 h => hts z9 (List.mem_cons_of_mem _ h)
  have hown : s.vm.findClass "VotedTriple$WordsIn" = some m.cls := findClass_of_methodNamed B.named
  have hlocks := B.notSynchronized
  subst hsz
  replace hD := hD0.self (sz := s.heap.size)
  generalize hAe : va_A [(h0, .inr (4, [.ref w9, .int v9]))] s.heap.size = A at hD ⊢
  have hA : ∀ q : Nat, s.heap.size ≤ q → A q := fun q h => by rw [← hAe]; exact Or.inr h
  have hS : va_S A s.heap s.heap [] := va_S.rf
  replace hl := lv_entry ([.ref h0]) (n := 1) (Nat.le_of_ble_eq_true rfl)
  rw [lg_entry_eq]
  generalize (lg_sl ([.ref h0]) ++ List.replicate (1 - (lg_sl ([.ref h0])).length) Slot.unset).toArray = ls at hl ⊢
  replace hl : lv_has ls 1 [(0, .ref h0)] := hl
  refine lv_aload_n hx hb d_N_forget_0 rfl (lv_at hl 0 rfl) ?_
  refine lv_iconst (v := 0) hx hb d_N_forget_1 (by decide) ?_
  refine va_put (D := (dC, dI)) (ci := 4) (v := .int 0) (ty := .int) (C := "VotedTriple$WordsIn") (T := F_N) (N := 2) hx hb hw in_N ft_N tyok_N nm_N hown hK hP hD hS 0 rfl rfl 1 (by decide) (hw _ k_125) (fun _ h9 => h9) rfl (by decide +kernel) rfl rfl (Nat.le_of_ble_eq_true rfl) d_N_forget_2 (fun H locs hP hD hS => ?_)
  replace hP : va_P (dC, dI) classes [(h0, .inr (4, [.ref w9, .int 0]))] H := hP
  replace hD : va_D A [(h0, .inr (4, [.ref w9, .int 0]))] := hD
  have hP9 := hP.sub (ws' := [(h0, .inr (4, [.ref w9, .int 0]))]) [0] rfl
  have hD9 := hD.sub (ws' := [(h0, .inr (4, [.ref w9, .int 0]))]) [0] (by decide) rfl
  have hK9 := hK.sub (tys' := []) [] rfl
  refine W.widen (k := 0) (n := 0) (Nat.le_of_ble_eq_true rfl) (Nat.le_of_ble_eq_true rfl) ?_
  exact W.vret hx hb hr (fun t ht hW => ⟨⟨(), rfl, trivial, by rw [ht]; exact hP9, va_K.moved hW.alike hK9, hD9⟩, hS.F ht⟩) hS.2.2 d_N_forget_5

set_option maxHeartbeats 4000000 in
set_option maxRecDepth 100000 in
theorem c_O_forget (l : Launch) (dC : Nat → ClassId) (dI : Nat → Nat → Nat) (h0 w9 : Nat) (v9 : Int32) (sz : Nat) : Met l y_O_forget (tbw y_O_forget b_O_forget 1 none) ({ frames := 0, cells := 0, slots := 0, locals := 0 }) (va_Pc [.ref h0] (fun U => U.heap.size = sz ∧ va_P (dC, dI) classes [(h0, .inr (5, [.ref w9, .int v9]))] U.heap ∧ va_K (dC, dI) classes [] U ∧ va_D (fun _ => True) [(h0, .inr (5, [.ref w9, .int v9]))])) (va_Qv (fun (u9 : Unit) => match u9 with | _ => True) (fun (u9 : Unit) t => match u9 with | _ => va_P (dC, dI) classes [(h0, .inr (5, [.ref w9, .int 0]))] t.heap ∧ va_K (dC, dI) classes [] t ∧ va_D (va_A [(h0, .inr (5, [.ref w9, .int v9]))] sz) [(h0, .inr (5, [.ref w9, .int 0]))]) (va_A [(h0, .inr (5, [.ref w9, .int v9]))] sz)) 0 0 (va_A [(h0, .inr (5, [.ref w9, .int v9]))] sz) := by
  refine Met.ofW (cc := b_O_forget) (maxL := 1) (ret := none) (by decide) rfl ?_
  intro p e s m args below meth c s₁ B hml hv
  obtain ⟨rfl, hsz, hP, hK, hD0⟩ := hv
  have hx := B.exec
  have hb := B.bytes
  have hr := B.returns
  have hts := atoms_spec (ws := (tbw y_O_forget b_O_forget 1 none)) B.pre
  have hw : ∀ z9 ∈ tb, z9.before ([.ref h0] : List Value).toArray s = true := fun z9 h => hts z9 (List.mem_cons_of_mem _ h)
  have hown : s.vm.findClass "VotedTriple$WordsOut" = some m.cls := findClass_of_methodNamed B.named
  have hlocks := B.notSynchronized
  subst hsz
  replace hD := hD0.self (sz := s.heap.size)
  generalize hAe : va_A [(h0, .inr (5, [.ref w9, .int v9]))] s.heap.size = A at hD ⊢
  have hA : ∀ q : Nat, s.heap.size ≤ q → A q := fun q h => by rw [← hAe]; exact Or.inr h
  have hS : va_S A s.heap s.heap [] := va_S.rf
  replace hl := lv_entry ([.ref h0]) (n := 1) (Nat.le_of_ble_eq_true rfl)
  rw [lg_entry_eq]
  generalize (lg_sl ([.ref h0]) ++ List.replicate (1 - (lg_sl ([.ref h0])).length) Slot.unset).toArray = ls at hl ⊢
  replace hl : lv_has ls 1 [(0, .ref h0)] := hl
  refine lv_aload_n hx hb d_O_forget_0 rfl (lv_at hl 0 rfl) ?_
  refine lv_iconst (v := 0) hx hb d_O_forget_1 (by decide) ?_
  refine va_put (D := (dC, dI)) (ci := 5) (v := .int 0) (ty := .int) (C := "VotedTriple$WordsOut") (T := F_O) (N := 2) hx hb hw in_O ft_O tyok_O nm_O hown hK hP hD hS 0 rfl rfl 1 (by decide) (hw _ k_59) (fun _ h9 => h9) rfl (by decide +kernel) rfl rfl (Nat.le_of_ble_eq_true rfl) d_O_forget_2 (fun H locs hP hD hS => ?_)
  replace hP : va_P (dC, dI) classes [(h0, .inr (5, [.ref w9, .int 0]))] H := hP
  replace hD : va_D A [(h0, .inr (5, [.ref w9, .int 0]))] := hD
  have hP9 := hP.sub (ws' := [(h0, .inr (5, [.ref w9, .int 0]))]) [0] rfl
  have hD9 := hD.sub (ws' := [(h0, .inr (5, [.ref w9, .int 0]))]) [0] (by decide) rfl
  have hK9 := hK.sub (tys' := []) [] rfl
  refine W.widen (k := 0) (n := 0) (Nat.le_of_ble_eq_true rfl) (Nat.le_of_ble_eq_true rfl) ?_
  exact W.vret hx hb hr (fun t ht hW => ⟨⟨(), rfl, trivial, by rw [ht]; exact hP9, va_K.moved hW.alike hK9, hD9⟩, hS.F ht⟩) hS.2.2 d_O_forget_5

set_option maxHeartbeats 4000000 in
set_option maxRecDepth 100000 in
theorem c_N_wordAt (l : Launch) (dC : Nat → ClassId) (dI : Nat → Nat → Nat) (h0 w9 k : Nat) (cw : ClassId) (wd : Nat → Int32) (x : Int32) (hk : k ≤ 64) (hwd : wdI 64 wd) : Met l y_N_wordAt (tbw y_N_wordAt b_N_wordAt 2 (some .int)) ({ frames := 0, cells := 0, slots := 0, locals := 0 }) (va_Pc [.ref h0, .int x] (fun U => va_P (dC, dI) classes [(h0, .inr (4, [.ref w9, .int (nI k)])), (w9, .inl (cw, 64, .inl wd))] U.heap ∧ va_K (dC, dI) classes [(cw, .int)] U)) (vp_Si (fun r => (is16 r) ∧ r = s_N_wordAt k wd x)) 0 0 (fun _ => False) := by
  refine Met.ofW (cc := b_N_wordAt) (maxL := 2) (ret := (some .int)) (by decide) rfl ?_
  intro p e s m args below meth c s₁ B hml hv
  obtain ⟨rfl, hP, hK⟩ := hv
  have hx := B.exec
  have hb := B.bytes
  have hr := B.returns
  have hts := atoms_spec (ws := (tbw y_N_wordAt b_N_wordAt 2 (some .int))) B.pre
  have hw : ∀ z9 ∈ tb, z9.before ([.ref h0, .int x] : List Value).toArray s = true := fun z9 h => hts z9 (List.mem_cons_of_mem _ h)
  have hown : s.vm.findClass "VotedTriple$WordsIn" = some m.cls := findClass_of_methodNamed B.named
  have hlocks := B.notSynchronized
  replace hl := lv_entry ([.ref h0, .int x]) (n := 2) (Nat.le_of_ble_eq_true rfl)
  rw [lg_entry_eq]
  generalize (lg_sl ([.ref h0, .int x]) ++ List.replicate (2 - (lg_sl ([.ref h0, .int x])).length) Slot.unset).toArray = ls at hl ⊢
  replace hl : lv_has ls 2 [(0, .ref h0), (1, .int x)] := hl
  generalize hSP : s_N_wordAt k wd x = SP
  refine lv_iload_n hx hb d_N_wordAt_0 rfl (lv_at hl 1 rfl) ?_
  refine lv_if_lt (tgt := 21) hx hb d_N_wordAt_1 rfl (fun hc1 => ?_) (fun hc1 => ?_)
  · --  x < 0
    refine lv_iconst (v := 0) hx hb d_N_wordAt_21 (by decide) ?_
    exact W.iret (v := 0) hx hb hr (fun t ht _ => ⟨_, rfl, ⟨is16_0, (by rw [← hSP, s_N_wordAt]; try (rw [if_pos hc1]); all_goals rfl)⟩, ht⟩) (fun _ h => by cases h) d_N_wordAt_22
  · --  ¬ x < 0
    refine lv_iload_n hx hb d_N_wordAt_4 rfl (lv_at hl 1 rfl) ?_
    refine lv_aload_n hx hb d_N_wordAt_5 rfl (lv_at hl 0 rfl) ?_
    refine va_get (D := (dC, dI)) (ci := 4) (v := .int (nI k)) (C := "VotedTriple$WordsIn") (T := F_N) (N := 2) hx hb hw in_N hown hK hP 0 rfl rfl 1 (by decide) (hw _ k_125) (fun _ h9 => h9) rfl d_N_wordAt_6 ?_
    refine lv_icmp_ge (tgt := 21) hx hb d_N_wordAt_9 rfl (fun hc2 => ?_) (fun hc2 => ?_)
    · --  (nI k) ≤ x
      refine lv_iconst (v := 0) hx hb d_N_wordAt_21 (by decide) ?_
      exact W.iret (v := 0) hx hb hr (fun t ht _ => ⟨_, rfl, ⟨is16_0, (by rw [← hSP, s_N_wordAt]; try (rw [if_neg hc1]); try (rw [if_pos hc2]); all_goals rfl)⟩, ht⟩) (fun _ h => by cases h) d_N_wordAt_22
    · --  ¬ (nI k) ≤ x
      refine lv_aload_n hx hb d_N_wordAt_12 rfl (lv_at hl 0 rfl) ?_
      refine va_get (D := (dC, dI)) (ci := 4) (v := .ref w9) (C := "VotedTriple$WordsIn") (T := F_N) (N := 2) hx hb hw in_N hown hK hP 0 rfl rfl 0 (by decide) (hw _ k_124) (fun _ h9 => h9) rfl d_N_wordAt_13 ?_
      refine lv_iload_n hx hb d_N_wordAt_16 rfl (lv_at hl 1 rfl) ?_
      refine va_iald hx hb hK hP 1 0 rfl rfl (lt_in hc1 hc2 hk (by decide)) d_N_wordAt_17 ?_
      refine lv_goto (tgt := 22) hx hb d_N_wordAt_18 rfl ?_
      exact W.iret (v := (wd (Int32.toNatClampNeg x))) hx hb hr (fun t ht _ => ⟨_, rfl, ⟨(rg_at hwd (lt_in hc1 hc2 hk (by decide)) (by decide)), (by rw [← hSP, s_N_wordAt]; try (rw [if_neg hc1]); try (rw [if_neg hc2]); all_goals rfl)⟩, ht⟩) (fun _ h => by cases h) d_N_wordAt_22

set_option maxHeartbeats 4000000 in
set_option maxRecDepth 100000 in
theorem c_N_add (l : Launch) (dC : Nat → ClassId) (dI : Nat → Nat → Nat) (h0 w9 k : Nat) (cw : ClassId) (wd : Nat → Int32) (x : Int32) (hk : k ≤ 64) (hwd : wdI 64 wd) (hx0 : is16 x) (sz : Nat) : Met l y_N_add (tbw y_N_add b_N_add 2 (some .boolean)) ({ frames := 0, cells := 0, slots := 0, locals := 0 }) (va_Pc [.ref h0, .int x] (fun U => U.heap.size = sz ∧ va_P (dC, dI) classes [(h0, .inr (4, [.ref w9, .int (nI k)])), (w9, .inl (cw, 64, .inl wd))] U.heap ∧ va_K (dC, dI) classes [(cw, .int)] U ∧ va_D (fun _ => True) [(h0, .inr (4, [.ref w9, .int (nI k)])), (w9, .inl (cw, 64, .inl wd))])) (va_Qi (fun (r : Int32) (u9 : Nat × (Nat → Int32)) => match u9 with | (k2, w2) => (r = bI (decide (k < 64)) ∧ k2 = (if k < 64 then k + 1 else k) ∧ wdI 64 w2) ∧ (r, k2, w2) = s_N_add k wd x) (fun (u9 : Nat × (Nat → Int32)) t => match u9 with | (k2, w2) => va_P (dC, dI) classes [(h0, .inr (4, [.ref w9, .int (nI k2)])), (w9, .inl (cw, 64, .inl w2))] t.heap ∧ va_K (dC, dI) classes [(cw, .int)] t ∧ va_D (va_A [(h0, .inr (4, [.ref w9, .int (nI k)])), (w9, .inl (cw, 64, .inl wd))] sz) [(h0, .inr (4, [.ref w9, .int (nI k2)])), (w9, .inl (cw, 64, .inl w2))]) (va_A [(h0, .inr (4, [.ref w9, .int (nI k)])), (w9, .inl (cw, 64, .inl wd))] sz)) 0 0 (va_A [(h0, .inr (4, [.ref w9, .int (nI k)])), (w9, .inl (cw, 64, .inl wd))] sz) := by
  refine Met.ofW (cc := b_N_add) (maxL := 2) (ret := (some .boolean)) (by decide) rfl ?_
  intro p e s m args below meth c s₁ B hml hv
  obtain ⟨rfl, hsz, hP, hK, hD0⟩ := hv
  have hx := B.exec
  have hb := B.bytes
  have hr := B.returns
  have hts := atoms_spec (ws := (tbw y_N_add b_N_add 2 (some .boolean))) B.pre
  have hw : ∀ z9 ∈ tb, z9.before ([.ref h0, .int x] : List Value).toArray s = true := fun z9 h => hts z9 (List.mem_cons_of_mem _ h)
  have hown : s.vm.findClass "VotedTriple$WordsIn" = some m.cls := findClass_of_methodNamed B.named
  have hlocks := B.notSynchronized
  subst hsz
  replace hD := hD0.self (sz := s.heap.size)
  generalize hAe : va_A [(h0, .inr (4, [.ref w9, .int (nI k)])), (w9, .inl (cw, 64, .inl wd))] s.heap.size = A at hD ⊢
  have hA : ∀ q : Nat, s.heap.size ≤ q → A q := fun q h => by rw [← hAe]; exact Or.inr h
  have hS : va_S A s.heap s.heap [] := va_S.rf
  replace hl := lv_entry ([.ref h0, .int x]) (n := 2) (Nat.le_of_ble_eq_true rfl)
  rw [lg_entry_eq]
  generalize (lg_sl ([.ref h0, .int x]) ++ List.replicate (2 - (lg_sl ([.ref h0, .int x])).length) Slot.unset).toArray = ls at hl ⊢
  replace hl : lv_has ls 2 [(0, .ref h0), (1, .int x)] := hl
  generalize hSP : s_N_add k wd x = SP
  refine lv_aload_n hx hb d_N_add_0 rfl (lv_at hl 0 rfl) ?_
  refine va_get (D := (dC, dI)) (ci := 4) (v := .int (nI k)) (C := "VotedTriple$WordsIn") (T := F_N) (N := 2) hx hb hw in_N hown hK hP 0 rfl rfl 1 (by decide) (hw _ k_125) (fun _ h9 => h9) rfl d_N_add_1 ?_
  refine lv_bipush (v := 64) hx hb d_N_add_4 (by decide) ?_
  refine lv_icmp_lt (tgt := 11) hx hb d_N_add_6 rfl (fun hc1 => ?_) (fun hc1 => ?_)
  · --  (nI k) < 64
    refine lv_aload_n hx hb d_N_add_11 rfl (lv_at hl 0 rfl) ?_
    refine va_get (D := (dC, dI)) (ci := 4) (v := .ref w9) (C := "VotedTriple$WordsIn") (T := F_N) (N := 2) hx hb hw in_N hown hK hP 0 rfl rfl 0 (by decide) (hw _ k_124) (fun _ h9 => h9) rfl d_N_add_12 ?_
    refine lv_aload_n hx hb d_N_add_15 rfl (lv_at hl 0 rfl) ?_
    refine va_get (D := (dC, dI)) (ci := 4) (v := .int (nI k)) (C := "VotedTriple$WordsIn") (T := F_N) (N := 2) hx hb hw in_N hown hK hP 0 rfl rfl 1 (by decide) (hw _ k_125) (fun _ h9 => h9) rfl d_N_add_16 ?_
    refine lv_iload_n hx hb d_N_add_19 rfl (lv_at hl 1 rfl) ?_
    refine va_iast hx hb hK hP hD hS 1 0 rfl rfl (vp_in_nI (lt_lt (N := 64) rfl hc1 (by omega) (by decide)) (by decide)) d_N_add_20 (fun H locs hP hD hS => ?_)
    replace hP : va_P (dC, dI) classes [(h0, .inr (4, [.ref w9, .int (nI k)])), (w9, .inl (cw, 64, .inl (upd wd (Int32.toNatClampNeg (nI k)) x)))] H := hP
    replace hD : va_D A [(h0, .inr (4, [.ref w9, .int (nI k)])), (w9, .inl (cw, 64, .inl (upd wd (Int32.toNatClampNeg (nI k)) x)))] := hD
    refine lv_aload_n hx hb d_N_add_21 rfl (lv_at hl 0 rfl) ?_
    refine lv_dup hx hb d_N_add_22 rfl ?_
    refine va_get (D := (dC, dI)) (ci := 4) (v := .int (nI k)) (C := "VotedTriple$WordsIn") (T := F_N) (N := 2) hx hb hw in_N hown hK hP 0 rfl rfl 1 (by decide) (hw _ k_125) (fun _ h9 => h9) rfl d_N_add_23 ?_
    refine lv_iconst (v := 1) hx hb d_N_add_26 (by decide) ?_
    refine lv_iadd hx hb d_N_add_27 ?_
    rw [nI_1 k]
    refine va_put (D := (dC, dI)) (ci := 4) (v := .int (nI (k + 1))) (ty := .int) (C := "VotedTriple$WordsIn") (T := F_N) (N := 2) hx hb hw in_N ft_N tyok_N nm_N hown hK hP hD hS 0 rfl rfl 1 (by decide) (hw _ k_125) (fun _ h9 => h9) rfl (by decide +kernel) rfl rfl (Nat.le_of_ble_eq_true rfl) d_N_add_28 (fun H locs hP hD hS => ?_)
    replace hP : va_P (dC, dI) classes [(h0, .inr (4, [.ref w9, .int (nI (k + 1))])), (w9, .inl (cw, 64, .inl (upd wd (Int32.toNatClampNeg (nI k)) x)))] H := hP
    replace hD : va_D A [(h0, .inr (4, [.ref w9, .int (nI (k + 1))])), (w9, .inl (cw, 64, .inl (upd wd (Int32.toNatClampNeg (nI k)) x)))] := hD
    refine lv_iconst (v := 1) hx hb d_N_add_31 (by decide) ?_
    have h9 := lt_lt (N := 64) rfl hc1 (by omega) (by decide)
    have hP9 := hP.sub (ws' := [(h0, .inr (4, [.ref w9, .int (nI (k + 1))])), (w9, .inl (cw, 64, .inl (upd wd (Int32.toNatClampNeg (nI k)) x)))]) [0, 1] rfl
    have hD9 := hD.sub (ws' := [(h0, .inr (4, [.ref w9, .int (nI (k + 1))])), (w9, .inl (cw, 64, .inl (upd wd (Int32.toNatClampNeg (nI k)) x)))]) [0, 1] (by decide) rfl
    have hK9 := hK.sub (tys' := [(cw, .int)]) [0] rfl
    refine W.widen (k := 0) (n := 0) (Nat.le_of_ble_eq_true rfl) (Nat.le_of_ble_eq_true rfl) ?_
    exact W.zret (v := 1) (ty := .boolean) hx hb hr rfl (fun t ht hW => ⟨⟨_, (k + 1, upd wd (Int32.toNatClampNeg (nI k)) x), rfl, ⟨⟨by rw [decide_eq_true h9]; rfl, by rw [if_pos h9], rgI_upd hwd hx0⟩, (by rw [← hSP, s_N_add]; try (rw [if_pos hc1]); all_goals rfl)⟩, by rw [ht]; exact hP9, va_K.moved hW.alike hK9, hD9⟩, hS.F ht⟩) hS.2.2 d_N_add_32
  · --  ¬ (nI k) < 64
    refine lv_iconst (v := 0) hx hb d_N_add_9 (by decide) ?_
    have h9 := nlt_ge (N := 64) rfl hc1 (by omega) (by decide)
    have hP9 := hP.sub (ws' := [(h0, .inr (4, [.ref w9, .int (nI k)])), (w9, .inl (cw, 64, .inl wd))]) [0, 1] rfl
    have hD9 := hD.sub (ws' := [(h0, .inr (4, [.ref w9, .int (nI k)])), (w9, .inl (cw, 64, .inl wd))]) [0, 1] (by decide) rfl
    have hK9 := hK.sub (tys' := [(cw, .int)]) [0] rfl
    refine W.widen (k := 0) (n := 0) (Nat.le_of_ble_eq_true rfl) (Nat.le_of_ble_eq_true rfl) ?_
    exact W.zret (v := 0) (ty := .boolean) hx hb hr rfl (fun t ht hW => ⟨⟨_, (k, wd), rfl, ⟨⟨by rw [decide_eq_false (by omega)]; rfl, by rw [if_neg (by omega)], hwd⟩, (by rw [← hSP, s_N_add]; try (rw [if_neg hc1]); all_goals rfl)⟩, by rw [ht]; exact hP9, va_K.moved hW.alike hK9, hD9⟩, hS.F ht⟩) hS.2.2 d_N_add_10

set_option maxHeartbeats 4000000 in
set_option maxRecDepth 100000 in
theorem c_O_add (l : Launch) (dC : Nat → ClassId) (dI : Nat → Nat → Nat) (h0 w9 k : Nat) (cw : ClassId) (wd : Nat → Int32) (x : Int32) (hk : k + 1 < 2 ^ 31) (sz : Nat) : Met l y_O_add (tbw y_O_add b_O_add 2 none) ({ frames := 0, cells := 0, slots := 0, locals := 0 }) (va_Pc [.ref h0, .int x] (fun U => U.heap.size = sz ∧ va_P (dC, dI) classes [(h0, .inr (5, [.ref w9, .int (nI k)])), (w9, .inl (cw, 300, .inl wd))] U.heap ∧ va_K (dC, dI) classes [(cw, .int)] U ∧ va_D (fun _ => True) [(h0, .inr (5, [.ref w9, .int (nI k)])), (w9, .inl (cw, 300, .inl wd))])) (va_Qv (fun (u9 : (Nat → Int32)) => match u9 with | w2 => (True) ∧ (w2) = s_O_add k wd x) (fun (u9 : (Nat → Int32)) t => match u9 with | w2 => va_P (dC, dI) classes [(h0, .inr (5, [.ref w9, .int (nI (k + 1))])), (w9, .inl (cw, 300, .inl w2))] t.heap ∧ va_K (dC, dI) classes [(cw, .int)] t ∧ va_D (va_A [(h0, .inr (5, [.ref w9, .int (nI k)])), (w9, .inl (cw, 300, .inl wd))] sz) [(h0, .inr (5, [.ref w9, .int (nI (k + 1))])), (w9, .inl (cw, 300, .inl w2))]) (va_A [(h0, .inr (5, [.ref w9, .int (nI k)])), (w9, .inl (cw, 300, .inl wd))] sz)) 0 0 (va_A [(h0, .inr (5, [.ref w9, .int (nI k)])), (w9, .inl (cw, 300, .inl wd))] sz) := by
  refine Met.ofW (cc := b_O_add) (maxL := 2) (ret := none) (by decide) rfl ?_
  intro p e s m args below meth c s₁ B hml hv
  obtain ⟨rfl, hsz, hP, hK, hD0⟩ := hv
  have hx := B.exec
  have hb := B.bytes
  have hr := B.returns
  have hts := atoms_spec (ws := (tbw y_O_add b_O_add 2 none)) B.pre
  have hw : ∀ z9 ∈ tb, z9.before ([.ref h0, .int x] : List Value).toArray s = true := fun z9 h => hts z9 (List.mem_cons_of_mem _ h)
  have hown : s.vm.findClass "VotedTriple$WordsOut" = some m.cls := findClass_of_methodNamed B.named
  have hlocks := B.notSynchronized
  subst hsz
  replace hD := hD0.self (sz := s.heap.size)
  generalize hAe : va_A [(h0, .inr (5, [.ref w9, .int (nI k)])), (w9, .inl (cw, 300, .inl wd))] s.heap.size = A at hD ⊢
  have hA : ∀ q : Nat, s.heap.size ≤ q → A q := fun q h => by rw [← hAe]; exact Or.inr h
  have hS : va_S A s.heap s.heap [] := va_S.rf
  replace hl := lv_entry ([.ref h0, .int x]) (n := 2) (Nat.le_of_ble_eq_true rfl)
  rw [lg_entry_eq]
  generalize (lg_sl ([.ref h0, .int x]) ++ List.replicate (2 - (lg_sl ([.ref h0, .int x])).length) Slot.unset).toArray = ls at hl ⊢
  replace hl : lv_has ls 2 [(0, .ref h0), (1, .int x)] := hl
  generalize hSP : s_O_add k wd x = SP
  refine lv_aload_n hx hb d_O_add_0 rfl (lv_at hl 0 rfl) ?_
  refine va_get (D := (dC, dI)) (ci := 5) (v := .int (nI k)) (C := "VotedTriple$WordsOut") (T := F_O) (N := 2) hx hb hw in_O hown hK hP 0 rfl rfl 1 (by decide) (hw _ k_59) (fun _ h9 => h9) rfl d_O_add_1 ?_
  refine lv_sipush (v := 300) hx hb d_O_add_4 (by decide) ?_
  refine lv_icmp_ge (tgt := 20) hx hb d_O_add_7 rfl (fun hc1 => ?_) (fun hc1 => ?_)
  · --  300 ≤ (nI k)
    refine lv_aload_n hx hb d_O_add_20 rfl (lv_at hl 0 rfl) ?_
    refine lv_dup hx hb d_O_add_21 rfl ?_
    refine va_get (D := (dC, dI)) (ci := 5) (v := .int (nI k)) (C := "VotedTriple$WordsOut") (T := F_O) (N := 2) hx hb hw in_O hown hK hP 0 rfl rfl 1 (by decide) (hw _ k_59) (fun _ h9 => h9) rfl d_O_add_22 ?_
    refine lv_iconst (v := 1) hx hb d_O_add_25 (by decide) ?_
    refine lv_iadd hx hb d_O_add_26 ?_
    rw [nI_1 k]
    refine va_put (D := (dC, dI)) (ci := 5) (v := .int (nI (k + 1))) (ty := .int) (C := "VotedTriple$WordsOut") (T := F_O) (N := 2) hx hb hw in_O ft_O tyok_O nm_O hown hK hP hD hS 0 rfl rfl 1 (by decide) (hw _ k_59) (fun _ h9 => h9) rfl (by decide +kernel) rfl rfl (Nat.le_of_ble_eq_true rfl) d_O_add_27 (fun H locs hP hD hS => ?_)
    replace hP : va_P (dC, dI) classes [(h0, .inr (5, [.ref w9, .int (nI (k + 1))])), (w9, .inl (cw, 300, .inl wd))] H := hP
    replace hD : va_D A [(h0, .inr (5, [.ref w9, .int (nI (k + 1))])), (w9, .inl (cw, 300, .inl wd))] := hD
    have hP9 := hP.sub (ws' := [(h0, .inr (5, [.ref w9, .int (nI (k + 1))])), (w9, .inl (cw, 300, .inl wd))]) [0, 1] rfl
    have hD9 := hD.sub (ws' := [(h0, .inr (5, [.ref w9, .int (nI (k + 1))])), (w9, .inl (cw, 300, .inl wd))]) [0, 1] (by decide) rfl
    have hK9 := hK.sub (tys' := [(cw, .int)]) [0] rfl
    refine W.widen (k := 0) (n := 0) (Nat.le_of_ble_eq_true rfl) (Nat.le_of_ble_eq_true rfl) ?_
    exact W.vret hx hb hr (fun t ht hW => ⟨⟨(wd), rfl, ⟨trivial, (by rw [← hSP, s_O_add]; try (rw [if_pos hc1]); all_goals rfl)⟩, by rw [ht]; exact hP9, va_K.moved hW.alike hK9, hD9⟩, hS.F ht⟩) hS.2.2 d_O_add_30
  · --  ¬ 300 ≤ (nI k)
    refine lv_aload_n hx hb d_O_add_10 rfl (lv_at hl 0 rfl) ?_
    refine va_get (D := (dC, dI)) (ci := 5) (v := .ref w9) (C := "VotedTriple$WordsOut") (T := F_O) (N := 2) hx hb hw in_O hown hK hP 0 rfl rfl 0 (by decide) (hw _ k_57) (fun _ h9 => h9) rfl d_O_add_11 ?_
    refine lv_aload_n hx hb d_O_add_14 rfl (lv_at hl 0 rfl) ?_
    refine va_get (D := (dC, dI)) (ci := 5) (v := .int (nI k)) (C := "VotedTriple$WordsOut") (T := F_O) (N := 2) hx hb hw in_O hown hK hP 0 rfl rfl 1 (by decide) (hw _ k_59) (fun _ h9 => h9) rfl d_O_add_15 ?_
    refine lv_iload_n hx hb d_O_add_18 rfl (lv_at hl 1 rfl) ?_
    refine va_iast hx hb hK hP hD hS 1 0 rfl rfl (vp_in_nI (nle_lt (N := 300) rfl hc1 (by omega) (by decide)) (by decide)) d_O_add_19 (fun H locs hP hD hS => ?_)
    replace hP : va_P (dC, dI) classes [(h0, .inr (5, [.ref w9, .int (nI k)])), (w9, .inl (cw, 300, .inl (upd wd (Int32.toNatClampNeg (nI k)) x)))] H := hP
    replace hD : va_D A [(h0, .inr (5, [.ref w9, .int (nI k)])), (w9, .inl (cw, 300, .inl (upd wd (Int32.toNatClampNeg (nI k)) x)))] := hD
    refine lv_aload_n hx hb d_O_add_20 rfl (lv_at hl 0 rfl) ?_
    refine lv_dup hx hb d_O_add_21 rfl ?_
    refine va_get (D := (dC, dI)) (ci := 5) (v := .int (nI k)) (C := "VotedTriple$WordsOut") (T := F_O) (N := 2) hx hb hw in_O hown hK hP 0 rfl rfl 1 (by decide) (hw _ k_59) (fun _ h9 => h9) rfl d_O_add_22 ?_
    refine lv_iconst (v := 1) hx hb d_O_add_25 (by decide) ?_
    refine lv_iadd hx hb d_O_add_26 ?_
    rw [nI_1 k]
    refine va_put (D := (dC, dI)) (ci := 5) (v := .int (nI (k + 1))) (ty := .int) (C := "VotedTriple$WordsOut") (T := F_O) (N := 2) hx hb hw in_O ft_O tyok_O nm_O hown hK hP hD hS 0 rfl rfl 1 (by decide) (hw _ k_59) (fun _ h9 => h9) rfl (by decide +kernel) rfl rfl (Nat.le_of_ble_eq_true rfl) d_O_add_27 (fun H locs hP hD hS => ?_)
    replace hP : va_P (dC, dI) classes [(h0, .inr (5, [.ref w9, .int (nI (k + 1))])), (w9, .inl (cw, 300, .inl (upd wd (Int32.toNatClampNeg (nI k)) x)))] H := hP
    replace hD : va_D A [(h0, .inr (5, [.ref w9, .int (nI (k + 1))])), (w9, .inl (cw, 300, .inl (upd wd (Int32.toNatClampNeg (nI k)) x)))] := hD
    have hP9 := hP.sub (ws' := [(h0, .inr (5, [.ref w9, .int (nI (k + 1))])), (w9, .inl (cw, 300, .inl (upd wd (Int32.toNatClampNeg (nI k)) x)))]) [0, 1] rfl
    have hD9 := hD.sub (ws' := [(h0, .inr (5, [.ref w9, .int (nI (k + 1))])), (w9, .inl (cw, 300, .inl (upd wd (Int32.toNatClampNeg (nI k)) x)))]) [0, 1] (by decide) rfl
    have hK9 := hK.sub (tys' := [(cw, .int)]) [0] rfl
    refine W.widen (k := 0) (n := 0) (Nat.le_of_ble_eq_true rfl) (Nat.le_of_ble_eq_true rfl) ?_
    exact W.vret hx hb hr (fun t ht hW => ⟨⟨(upd wd (Int32.toNatClampNeg (nI k)) x), rfl, ⟨trivial, (by rw [← hSP, s_O_add]; try (rw [if_neg hc1]); all_goals rfl)⟩, by rw [ht]; exact hP9, va_K.moved hW.alike hK9, hD9⟩, hS.F ht⟩) hS.2.2 d_O_add_30

set_option maxHeartbeats 4000000 in
set_option maxRecDepth 100000 in
theorem c_O_keeps (l : Launch) (dC : Nat → ClassId) (dI : Nat → Nat → Nat) (h0 w9 : Nat) (v9 x : Int32) : Met l y_O_keeps (tbw y_O_keeps b_O_keeps 2 (some .boolean)) ({ frames := 0, cells := 0, slots := 0, locals := 0 }) (va_Pc [.ref h0, .int x] (fun U => va_P (dC, dI) classes [(h0, .inr (5, [.ref w9, .int v9]))] U.heap ∧ va_K (dC, dI) classes [] U)) (vp_Si (fun r => r = bI (kpB v9 x))) 0 0 (fun _ => False) := by
  refine Met.ofW (cc := b_O_keeps) (maxL := 2) (ret := (some .boolean)) (by decide) rfl ?_
  intro p e s m args below meth c s₁ B hml hv
  obtain ⟨rfl, hP, hK⟩ := hv
  have hx := B.exec
  have hb := B.bytes
  have hr := B.returns
  have hts := atoms_spec (ws := (tbw y_O_keeps b_O_keeps 2 (some .boolean))) B.pre
  have hw : ∀ z9 ∈ tb, z9.before ([.ref h0, .int x] : List Value).toArray s = true := fun z9 h => hts z9 (List.mem_cons_of_mem _ h)
  have hown : s.vm.findClass "VotedTriple$WordsOut" = some m.cls := findClass_of_methodNamed B.named
  have hlocks := B.notSynchronized
  replace hl := lv_entry ([.ref h0, .int x]) (n := 2) (Nat.le_of_ble_eq_true rfl)
  rw [lg_entry_eq]
  generalize (lg_sl ([.ref h0, .int x]) ++ List.replicate (2 - (lg_sl ([.ref h0, .int x])).length) Slot.unset).toArray = ls at hl ⊢
  replace hl : lv_has ls 2 [(0, .ref h0), (1, .int x)] := hl
  refine lv_iload_n hx hb d_O_keeps_0 rfl (lv_at hl 1 rfl) ?_
  refine lv_if_lt (tgt := 23) hx hb d_O_keeps_1 rfl (fun hc1 => ?_) (fun hc1 => ?_)
  · --  x < 0
    refine lv_iconst (v := 0) hx hb d_O_keeps_23 (by decide) ?_
    exact W.zret (v := 0) (ty := .boolean) hx hb hr rfl (fun t ht _ => ⟨_, rfl, (by simp [bI, kpB, hc1]), ht⟩) (fun _ h => by cases h) d_O_keeps_24
  · --  ¬ x < 0
    refine lv_iload_n hx hb d_O_keeps_4 rfl (lv_at hl 1 rfl) ?_
    refine lv_aload_n hx hb d_O_keeps_5 rfl (lv_at hl 0 rfl) ?_
    refine va_get (D := (dC, dI)) (ci := 5) (v := .int v9) (C := "VotedTriple$WordsOut") (T := F_O) (N := 2) hx hb hw in_O hown hK hP 0 rfl rfl 1 (by decide) (hw _ k_59) (fun _ h9 => h9) rfl d_O_keeps_6 ?_
    refine lv_icmp_ge (tgt := 23) hx hb d_O_keeps_9 rfl (fun hc2 => ?_) (fun hc2 => ?_)
    · --  v9 ≤ x
      refine lv_iconst (v := 0) hx hb d_O_keeps_23 (by decide) ?_
      exact W.zret (v := 0) (ty := .boolean) hx hb hr rfl (fun t ht _ => ⟨_, rfl, (by simp [bI, kpB, hc1, hc2]), ht⟩) (fun _ h => by cases h) d_O_keeps_24
    · --  ¬ v9 ≤ x
      refine lv_iload_n hx hb d_O_keeps_12 rfl (lv_at hl 1 rfl) ?_
      refine lv_sipush (v := 300) hx hb d_O_keeps_13 (by decide) ?_
      refine lv_icmp_ge (tgt := 23) hx hb d_O_keeps_16 rfl (fun hc3 => ?_) (fun hc3 => ?_)
      · --  300 ≤ x
        refine lv_iconst (v := 0) hx hb d_O_keeps_23 (by decide) ?_
        exact W.zret (v := 0) (ty := .boolean) hx hb hr rfl (fun t ht _ => ⟨_, rfl, (by simp [bI, kpB, hc1, hc2, hc3]), ht⟩) (fun _ h => by cases h) d_O_keeps_24
      · --  ¬ 300 ≤ x
        refine lv_iconst (v := 1) hx hb d_O_keeps_19 (by decide) ?_
        refine lv_goto (tgt := 24) hx hb d_O_keeps_20 rfl ?_
        exact W.zret (v := 1) (ty := .boolean) hx hb hr rfl (fun t ht _ => ⟨_, rfl, (by simp [bI, kpB, hc1, hc2, hc3]), ht⟩) (fun _ h => by cases h) d_O_keeps_24
