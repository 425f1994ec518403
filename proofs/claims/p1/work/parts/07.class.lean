set_option maxHeartbeats 4000000 in
set_option maxRecDepth 100000 in
theorem c_P_put_0 (l : Launch) (dC : Nat → ClassId) (dI : Nat → Nat → Nat) (h0 q : Nat) (cA : ClassId) (f : Nat → Int32) (i w : Int32) (sz : Nat) : Met l y_P_put (tbw y_P_put b_P_put 3 (some .boolean)) ({ frames := 2, cells := 0, slots := 0, locals := 40 }) (va_Pc [.ref h0, .int i, .int w] (fun U => U.heap.size = sz ∧ va_P (dC, dI) classes [(h0, .inr (1, [.ref q, .int 0])), (q, .inl (cA, 64, .inl f))] U.heap ∧ va_K (dC, dI) classes [(cA, .int)] U ∧ va_D (fun _ => True) [(h0, .inr (1, [.ref q, .int 0])), (q, .inl (cA, 64, .inl f))])) (va_Qi (fun (r : Int32) (u9 : Unit) => match u9 with | _ => r = bI (prF i w)) (fun (u9 : Unit) t => match u9 with | _ => va_P (dC, dI) classes [] t.heap ∧ va_K (dC, dI) classes [] t ∧ va_D (va_A [(h0, .inr (1, [.ref q, .int 0])), (q, .inl (cA, 64, .inl f))] sz) []) (va_A [(h0, .inr (1, [.ref q, .int 0])), (q, .inl (cA, 64, .inl f))] sz)) 0 0 (va_A [(h0, .inr (1, [.ref q, .int 0])), (q, .inl (cA, 64, .inl f))] sz) := by
  refine Met.ofW (cc := b_P_put) (maxL := 3) (ret := (some .boolean)) (by decide) rfl ?_
  intro p e s m args below meth c s₁ B hml hv
  obtain ⟨rfl, hsz, hP, hK, hD0⟩ := hv
  have hx := B.exec
  have hb := B.bytes
  have hr := B.returns
  have hts := atoms_spec (ws := (tbw y_P_put b_P_put 3 (some .boolean))) B.pre
  have hw : ∀ z9 ∈ tb, z9.before ([.ref h0, .int i, .int w] : List Value).toArray s = true := fun z9 h => hts z9 (List.mem_cons_of_mem _ h)
  have hown : s.vm.findClass "VotedTriple$Program" = some m.cls := findClass_of_methodNamed B.named
  have hlocks := B.notSynchronized
  subst hsz
  have hD := hD0.self (sz := s.heap.size)
  generalize hAe : va_A [(h0, .inr (1, [.ref q, .int 0])), (q, .inl (cA, 64, .inl f))] s.heap.size = A at hD ⊢
  have hA : ∀ q : Nat, s.heap.size ≤ q → A q := fun q h => by rw [← hAe]; exact Or.inr h
  have hS : va_S A s.heap s.heap [] := va_S.rf
  have hl := lv_entry ([.ref h0, .int i, .int w]) (n := 3) (Nat.le_of_ble_eq_true rfl)
  rw [lg_entry_eq]
  generalize (lg_sl ([.ref h0, .int i, .int w]) ++ List.replicate (3 - (lg_sl ([.ref h0, .int i, .int w])).length) Slot.unset).toArray = ls at hl ⊢
  have hl : lv_has ls 3 [(0, .ref h0), (1, .int i), (2, .int w)] := hl
  refine lv_iload_n hx hb d_P_put_0 rfl (lv_at hl 1 rfl) ?_
  refine lv_if_lt (tgt := 25) hx hb d_P_put_1 rfl (fun hc1 => ?_) (fun hc1 => ?_)
  · --  i < 0
    refine lv_iconst (v := 0) hx hb d_P_put_25 (by decide) ?_
    have hP9 := hP.sub (ws' := []) [] rfl
    have hD9 := hD.sub (ws' := []) [] (by decide) rfl
    have hK9 := hK.sub (tys' := []) [] rfl
    refine W.widen (k := 0) (n := 0) (Nat.le_of_ble_eq_true rfl) (Nat.le_of_ble_eq_true rfl) ?_
    exact W.zret (v := 0) (ty := .boolean) hx hb hr rfl (fun t ht hW => ⟨⟨_, (), rfl, (by rw [prF_neg hc1]; rfl), by rw [ht]; exact hP9, va_K.moved hW.alike hK9, hD9⟩, hS.F ht⟩) hS.2.2 d_P_put_26
  · --  ¬ i < 0
    refine lv_iload_n hx hb d_P_put_4 rfl (lv_at hl 1 rfl) ?_
    refine lv_aload_n hx hb d_P_put_5 rfl (lv_at hl 0 rfl) ?_
    refine va_get (D := (dC, dI)) (ci := 1) (v := .int 0) (C := "VotedTriple$Program") (T := F_P) (N := 2) hx hb hw in_P hown hK hP 0 rfl rfl 1 (by decide) (hw _ k_33) (fun _ h9 => h9) rfl d_P_put_6 ?_
    refine lv_icmp_gt (tgt := 25) hx hb d_P_put_9 rfl (fun hc2 => ?_) (fun hc2 => ?_)
    · --  0 < i
      refine lv_iconst (v := 0) hx hb d_P_put_25 (by decide) ?_
      have hP9 := hP.sub (ws' := []) [] rfl
      have hD9 := hD.sub (ws' := []) [] (by decide) rfl
      have hK9 := hK.sub (tys' := []) [] rfl
      refine W.widen (k := 0) (n := 0) (Nat.le_of_ble_eq_true rfl) (Nat.le_of_ble_eq_true rfl) ?_
      exact W.zret (v := 0) (ty := .boolean) hx hb hr rfl (fun t ht hW => ⟨⟨_, (), rfl, (by rw [prF_pos hc2]; rfl), by rw [ht]; exact hP9, va_K.moved hW.alike hK9, hD9⟩, hS.F ht⟩) hS.2.2 d_P_put_26
    · --  ¬ 0 < i
      refine lv_iload_n hx hb d_P_put_12 rfl (lv_at hl 1 rfl) ?_
      refine lv_bipush (v := 64) hx hb d_P_put_13 (by decide) ?_
      refine lv_icmp_ge (tgt := 25) hx hb d_P_put_15 rfl (fun hc3 => ?_) (fun hc3 => ?_)
      · --  64 ≤ i
        refine lv_iconst (v := 0) hx hb d_P_put_25 (by decide) ?_
        have e0 := eq0_of hc1 hc2
        have hP9 := hP.sub (ws' := []) [] rfl
        have hD9 := hD.sub (ws' := []) [] (by decide) rfl
        have hK9 := hK.sub (tys' := []) [] rfl
        refine W.widen (k := 0) (n := 0) (Nat.le_of_ble_eq_true rfl) (Nat.le_of_ble_eq_true rfl) ?_
        exact W.zret (v := 0) (ty := .boolean) hx hb hr rfl (fun t ht hW => ⟨⟨_, (), rfl, absurd hc3 (by rw [e0]; decide), by rw [ht]; exact hP9, va_K.moved hW.alike hK9, hD9⟩, hS.F ht⟩) hS.2.2 d_P_put_26
      · --  ¬ 64 ≤ i
        refine lv_iload_n hx hb d_P_put_18 rfl (lv_at hl 2 rfl) ?_
        refine vp_callSi (va_runS (As := [.int w]) (rest := []) ⟨hx, hb, hml, hown, hw⟩ (c_P_isInstruction l dC dI w) (va_cwS 1 hw (gdS (k_238) (k_236) (k_237) (k_2)) rfl rfl rfl (by decide +kernel) ⟨Nat.le_of_ble_eq_true rfl, Nat.le_of_ble_eq_true rfl⟩) ⟨fun _ _ _ _ q => q, fun _ _ _ => ⟨rfl, trivial⟩⟩ rfl rfl hl.1 rfl (lv_room (Nat.le_of_ble_eq_true rfl)) d_P_put_19 ⟨Nat.le_of_ble_eq_true rfl, Nat.le_of_ble_eq_true rfl⟩).run (fun r4 hr5 => ?_)
        subst hr5
        refine lv_if_ne (tgt := 27) hx hb d_P_put_22 rfl (fun hc6 => ?_) (fun hc6 => ?_)
        · --  ¬ (bI (isIn w)) = 0
          refine lv_aload_n hx hb d_P_put_27 rfl (lv_at hl 0 rfl) ?_
          refine va_get (D := (dC, dI)) (ci := 1) (v := .ref q) (C := "VotedTriple$Program") (T := F_P) (N := 2) hx hb hw in_P hown hK hP 0 rfl rfl 0 (by decide) (hw _ k_32) (fun _ h9 => h9) rfl d_P_put_28 ?_
          refine lv_iload_n hx hb d_P_put_31 rfl (lv_at hl 1 rfl) ?_
          refine lv_iload_n hx hb d_P_put_32 rfl (lv_at hl 2 rfl) ?_
          refine va_iast hx hb hK hP hD hS 1 0 rfl rfl (in_of (N := 64) rfl hc1 hc3) d_P_put_33 (fun H locs hP hD hS => ?_)
          have hP : va_P (dC, dI) classes [(h0, .inr (1, [.ref q, .int 0])), (q, .inl (cA, 64, .inl (upd f i.toNatClampNeg w)))] H := hP
          have hD : va_D A [(h0, .inr (1, [.ref q, .int 0])), (q, .inl (cA, 64, .inl (upd f i.toNatClampNeg w)))] := hD
          refine lv_iload_n hx hb d_P_put_34 rfl (lv_at hl 1 rfl) ?_
          refine lv_aload_n hx hb d_P_put_35 rfl (lv_at hl 0 rfl) ?_
          refine va_get (D := (dC, dI)) (ci := 1) (v := .int 0) (C := "VotedTriple$Program") (T := F_P) (N := 2) hx hb hw in_P hown hK hP 0 rfl rfl 1 (by decide) (hw _ k_33) (fun _ h9 => h9) rfl d_P_put_36 ?_
          refine lv_icmp_ne (tgt := 52) hx hb d_P_put_39 rfl (fun hc7 => ?_) (fun hc7 => ?_)
          · --  ¬ i = 0
            refine lv_iconst (v := 1) hx hb d_P_put_52 (by decide) ?_
            have e0 := eq0_of hc1 hc2
            have hP9 := hP.sub (ws' := []) [] rfl
            have hD9 := hD.sub (ws' := []) [] (by decide) rfl
            have hK9 := hK.sub (tys' := []) [] rfl
            refine W.widen (k := 0) (n := 0) (Nat.le_of_ble_eq_true rfl) (Nat.le_of_ble_eq_true rfl) ?_
            exact W.zret (v := 1) (ty := .boolean) hx hb hr rfl (fun t ht hW => ⟨⟨_, (), rfl, (by simp [prF, bI, bI_t hc6, e0]), by rw [ht]; exact hP9, va_K.moved hW.alike hK9, hD9⟩, hS.F ht⟩) hS.2.2 d_P_put_53
          · --  i = 0
            refine lv_aload_n hx hb d_P_put_42 rfl (lv_at hl 0 rfl) ?_
            refine lv_dup hx hb d_P_put_43 rfl ?_
            refine va_get (D := (dC, dI)) (ci := 1) (v := .int 0) (C := "VotedTriple$Program") (T := F_P) (N := 2) hx hb hw in_P hown hK hP 0 rfl rfl 1 (by decide) (hw _ k_33) (fun _ h9 => h9) rfl d_P_put_44 ?_
            refine lv_iconst (v := 1) hx hb d_P_put_47 (by decide) ?_
            refine lv_iadd hx hb d_P_put_48 ?_
            refine va_put (D := (dC, dI)) (ci := 1) (v := .int (0 + 1)) (ty := .int) (C := "VotedTriple$Program") (T := F_P) (N := 2) hx hb hw in_P ft_P tyok_P nm_P hown hK hP hD hS 0 rfl rfl 1 (by decide) (hw _ k_33) (fun _ h9 => h9) rfl (by decide +kernel) rfl rfl (Nat.le_of_ble_eq_true rfl) d_P_put_49 (fun H locs hP hD hS => ?_)
            have hP : va_P (dC, dI) classes [(h0, .inr (1, [.ref q, .int (0 + 1)])), (q, .inl (cA, 64, .inl (upd f i.toNatClampNeg w)))] H := hP
            have hD : va_D A [(h0, .inr (1, [.ref q, .int (0 + 1)])), (q, .inl (cA, 64, .inl (upd f i.toNatClampNeg w)))] := hD
            refine lv_iconst (v := 1) hx hb d_P_put_52 (by decide) ?_
            have e0 := eq0_of hc1 hc2
            have hP9 := hP.sub (ws' := []) [] rfl
            have hD9 := hD.sub (ws' := []) [] (by decide) rfl
            have hK9 := hK.sub (tys' := []) [] rfl
            refine W.widen (k := 0) (n := 0) (Nat.le_of_ble_eq_true rfl) (Nat.le_of_ble_eq_true rfl) ?_
            exact W.zret (v := 1) (ty := .boolean) hx hb hr rfl (fun t ht hW => ⟨⟨_, (), rfl, (by simp [prF, bI, bI_t hc6, e0]), by rw [ht]; exact hP9, va_K.moved hW.alike hK9, hD9⟩, hS.F ht⟩) hS.2.2 d_P_put_53
        · --  (bI (isIn w)) = 0
          refine lv_iconst (v := 0) hx hb d_P_put_25 (by decide) ?_
          have hP9 := hP.sub (ws' := []) [] rfl
          have hD9 := hD.sub (ws' := []) [] (by decide) rfl
          have hK9 := hK.sub (tys' := []) [] rfl
          refine W.widen (k := 0) (n := 0) (Nat.le_of_ble_eq_true rfl) (Nat.le_of_ble_eq_true rfl) ?_
          exact W.zret (v := 0) (ty := .boolean) hx hb hr rfl (fun t ht hW => ⟨⟨_, (), rfl, (by simp [prF, bI, bI_f hc6]), by rw [ht]; exact hP9, va_K.moved hW.alike hK9, hD9⟩, hS.F ht⟩) hS.2.2 d_P_put_26

set_option maxHeartbeats 4000000 in
set_option maxRecDepth 100000 in
theorem c_P_canRun_0 (l : Launch) (dC : Nat → ClassId) (dI : Nat → Nat → Nat) (h0 q : Nat) : Met l y_P_canRun (tbw y_P_canRun b_P_canRun 3 (some .boolean)) ({ frames := 0, cells := 0, slots := 0, locals := 0 }) (va_Pc [.ref h0] (fun U => va_P (dC, dI) classes [(h0, .inr (1, [.ref q, .int 0]))] U.heap ∧ va_K (dC, dI) classes [] U)) (vp_Si (fun r => r = 0)) 0 0 (fun _ => False) := by
  refine Met.ofW (cc := b_P_canRun) (maxL := 3) (ret := (some .boolean)) (by decide) rfl ?_
  intro p e s m args below meth c s₁ B hml hv
  obtain ⟨rfl, hP, hK⟩ := hv
  have hx := B.exec
  have hb := B.bytes
  have hr := B.returns
  have hts := atoms_spec (ws := (tbw y_P_canRun b_P_canRun 3 (some .boolean))) B.pre
  have hw : ∀ z9 ∈ tb, z9.before ([.ref h0] : List Value).toArray s = true := fun z9 h => hts z9 (List.mem_cons_of_mem _ h)
  have hown : s.vm.findClass "VotedTriple$Program" = some m.cls := findClass_of_methodNamed B.named
  have hlocks := B.notSynchronized
  have hl := lv_entry ([.ref h0]) (n := 3) (Nat.le_of_ble_eq_true rfl)
  rw [lg_entry_eq]
  generalize (lg_sl ([.ref h0]) ++ List.replicate (3 - (lg_sl ([.ref h0])).length) Slot.unset).toArray = ls at hl ⊢
  have hl : lv_has ls 3 [(0, .ref h0)] := hl
  refine lv_iconst (v := 0) hx hb d_P_canRun_0 (by decide) ?_
  refine lv_istore_n hx hb d_P_canRun_1 rfl hl (by decide) rfl (fun ls hl => ?_)
  have hl : lv_has ls 3 [(1, .int 0), (0, .ref h0)] := hl
  refine lv_iload_n hx hb d_P_canRun_2 rfl (lv_at hl 0 rfl) ?_
  refine lv_aload_n hx hb d_P_canRun_3 rfl (lv_at hl 1 rfl) ?_
  refine va_get (D := (dC, dI)) (ci := 1) (v := .int 0) (C := "VotedTriple$Program") (T := F_P) (N := 2) hx hb hw in_P hown hK hP 0 rfl rfl 1 (by decide) (hw _ k_33) (fun _ h9 => h9) rfl d_P_canRun_4 ?_
  refine lv_icmp_ge (tgt := 56) hx hb d_P_canRun_7 rfl (fun hc1 => ?_) (fun hc1 => by first | exact absurd (by decide) hc1 | exact absurd hc1 (by decide))
  refine lv_aload_n hx hb d_P_canRun_56 rfl (lv_at hl 1 rfl) ?_
  refine va_get (D := (dC, dI)) (ci := 1) (v := .int 0) (C := "VotedTriple$Program") (T := F_P) (N := 2) hx hb hw in_P hown hK hP 0 rfl rfl 1 (by decide) (hw _ k_33) (fun _ h9 => h9) rfl d_P_canRun_57 ?_
  refine lv_if_le (tgt := 67) hx hb d_P_canRun_60 rfl (fun hc2 => ?_) (fun hc2 => by first | exact absurd (by decide) hc2 | exact absurd hc2 (by decide))
  refine lv_iconst (v := 0) hx hb d_P_canRun_67 (by decide) ?_
  exact W.zret (v := 0) (ty := .boolean) hx hb hr rfl (fun t ht _ => ⟨_, rfl, rfl, ht⟩) (fun _ h => by cases h) d_P_canRun_68

set_option maxHeartbeats 4000000 in
set_option maxRecDepth 100000 in
theorem c_O_keeps_0 (l : Launch) (dC : Nat → ClassId) (dI : Nat → Nat → Nat) (h0 q : Nat) (i : Int32) : Met l y_O_keeps (tbw y_O_keeps b_O_keeps 2 (some .boolean)) ({ frames := 0, cells := 0, slots := 0, locals := 0 }) (va_Pc [.ref h0, .int i] (fun U => va_P (dC, dI) classes [(h0, .inr (5, [.ref q, .int 0]))] U.heap ∧ va_K (dC, dI) classes [] U)) (vp_Si (fun r => r = 0)) 0 0 (fun _ => False) := by
  refine Met.ofW (cc := b_O_keeps) (maxL := 2) (ret := (some .boolean)) (by decide) rfl ?_
  intro p e s m args below meth c s₁ B hml hv
  obtain ⟨rfl, hP, hK⟩ := hv
  have hx := B.exec
  have hb := B.bytes
  have hr := B.returns
  have hts := atoms_spec (ws := (tbw y_O_keeps b_O_keeps 2 (some .boolean))) B.pre
  have hw : ∀ z9 ∈ tb, z9.before ([.ref h0, .int i] : List Value).toArray s = true := fun z9 h => hts z9 (List.mem_cons_of_mem _ h)
  have hown : s.vm.findClass "VotedTriple$WordsOut" = some m.cls := findClass_of_methodNamed B.named
  have hlocks := B.notSynchronized
  have hl := lv_entry ([.ref h0, .int i]) (n := 2) (Nat.le_of_ble_eq_true rfl)
  rw [lg_entry_eq]
  generalize (lg_sl ([.ref h0, .int i]) ++ List.replicate (2 - (lg_sl ([.ref h0, .int i])).length) Slot.unset).toArray = ls at hl ⊢
  have hl : lv_has ls 2 [(0, .ref h0), (1, .int i)] := hl
  refine lv_iload_n hx hb d_O_keeps_0 rfl (lv_at hl 1 rfl) ?_
  refine lv_if_lt (tgt := 23) hx hb d_O_keeps_1 rfl (fun hc1 => ?_) (fun hc1 => ?_)
  · --  i < 0
    refine lv_iconst (v := 0) hx hb d_O_keeps_23 (by decide) ?_
    exact W.zret (v := 0) (ty := .boolean) hx hb hr rfl (fun t ht _ => ⟨_, rfl, rfl, ht⟩) (fun _ h => by cases h) d_O_keeps_24
  · --  ¬ i < 0
    refine lv_iload_n hx hb d_O_keeps_4 rfl (lv_at hl 1 rfl) ?_
    refine lv_aload_n hx hb d_O_keeps_5 rfl (lv_at hl 0 rfl) ?_
    refine va_get (D := (dC, dI)) (ci := 5) (v := .int 0) (C := "VotedTriple$WordsOut") (T := F_O) (N := 2) hx hb hw in_O hown hK hP 0 rfl rfl 1 (by decide) (hw _ k_59) (fun _ h9 => h9) rfl d_O_keeps_6 ?_
    refine lv_icmp_ge (tgt := 23) hx hb d_O_keeps_9 rfl (fun hc2 => ?_) (fun hc2 => ?_)
    · --  0 ≤ i
      refine lv_iconst (v := 0) hx hb d_O_keeps_23 (by decide) ?_
      exact W.zret (v := 0) (ty := .boolean) hx hb hr rfl (fun t ht _ => ⟨_, rfl, rfl, ht⟩) (fun _ h => by cases h) d_O_keeps_24
    · --  ¬ 0 ≤ i
      refine lv_iload_n hx hb d_O_keeps_12 rfl (lv_at hl 1 rfl) ?_
      refine lv_sipush (v := 300) hx hb d_O_keeps_13 (by decide) ?_
      refine lv_icmp_ge (tgt := 23) hx hb d_O_keeps_16 rfl (fun hc3 => ?_) (fun hc3 => ?_)
      · --  300 ≤ i
        refine lv_iconst (v := 0) hx hb d_O_keeps_23 (by decide) ?_
        exact W.zret (v := 0) (ty := .boolean) hx hb hr rfl (fun t ht _ => ⟨_, rfl, rfl, ht⟩) (fun _ h => by cases h) d_O_keeps_24
      · --  ¬ 300 ≤ i
        refine lv_iconst (v := 1) hx hb d_O_keeps_19 (by decide) ?_
        refine lv_goto (tgt := 24) hx hb d_O_keeps_20 rfl ?_
        exact W.zret (v := 1) (ty := .boolean) hx hb hr rfl (fun t ht _ => ⟨_, rfl, absurd (eq0_of hc1 (fun hh => hc2 (by rw [Int32.le_iff_toInt_le]; rw [Int32.lt_iff_toInt_lt] at hh; omega))) (fun e9 => hc2 (by rw [e9]; decide)), ht⟩) (fun _ h => by cases h) d_O_keeps_24

set_option maxHeartbeats 4000000 in
set_option maxRecDepth 100000 in
theorem c_T_hasModule (l : Launch) (dC : Nat → ClassId) (dI : Nat → Nat → Nat) (h0 a0 a1 a2 a3 a4 : Nat) (sf sg n1 n2 n3 : Int32) (st k : Int32) : Met l y_T_hasModule (tbw y_T_hasModule b_T_hasModule 2 (some .boolean)) ({ frames := 0, cells := 0, slots := 0, locals := 0 }) (va_Pc [.ref h0, .int k] (fun U => va_P (dC, dI) classes [(h0, .inr (0, [.ref a0, .ref a1, .ref a2, .ref a3, .ref a4, .int st, .int sf, .int sg, .int n1, .int n2, .int n3]))] U.heap ∧ va_K (dC, dI) classes [] U)) (vp_Si (fun r => r = bI (hasM st k))) 0 0 (fun _ => False) := by
  refine Met.ofW (cc := b_T_hasModule) (maxL := 2) (ret := (some .boolean)) (by decide) rfl ?_
  intro p e s m args below meth c s₁ B hml hv
  obtain ⟨rfl, hP, hK⟩ := hv
  have hx := B.exec
  have hb := B.bytes
  have hr := B.returns
  have hts := atoms_spec (ws := (tbw y_T_hasModule b_T_hasModule 2 (some .boolean))) B.pre
  have hw : ∀ z9 ∈ tb, z9.before ([.ref h0, .int k] : List Value).toArray s = true := fun z9 h => hts z9 (List.mem_cons_of_mem _ h)
  have hown : s.vm.findClass "VotedTriple" = some m.cls := findClass_of_methodNamed B.named
  have hlocks := B.notSynchronized
  have hl := lv_entry ([.ref h0, .int k]) (n := 2) (Nat.le_of_ble_eq_true rfl)
  rw [lg_entry_eq]
  generalize (lg_sl ([.ref h0, .int k]) ++ List.replicate (2 - (lg_sl ([.ref h0, .int k])).length) Slot.unset).toArray = ls at hl ⊢
  have hl : lv_has ls 2 [(0, .ref h0), (1, .int k)] := hl
  refine lv_aload_n hx hb d_T_hasModule_0 rfl (lv_at hl 0 rfl) ?_
  refine va_get (D := (dC, dI)) (ci := 0) (v := .int st) (C := "VotedTriple") (T := F_T) (N := 11) hx hb hw in_T hown hK hP 0 rfl rfl 5 (by decide) (hw _ k_199) (fun _ h9 => h9) rfl d_T_hasModule_1 ?_
  refine lv_if_eq (tgt := 20) hx hb d_T_hasModule_4 rfl (fun hc1 => ?_) (fun hc1 => ?_)
  · --  st = 0
    refine lv_iconst (v := 0) hx hb d_T_hasModule_20 (by decide) ?_
    exact W.zret (v := 0) (ty := .boolean) hx hb hr rfl (fun t ht _ => ⟨_, rfl, (by simp [bI, hasM, hc1]), ht⟩) (fun _ h => by cases h) d_T_hasModule_21
  · --  ¬ st = 0
    refine lv_iload_n hx hb d_T_hasModule_7 rfl (lv_at hl 1 rfl) ?_
    refine lv_if_lt (tgt := 20) hx hb d_T_hasModule_8 rfl (fun hc2 => ?_) (fun hc2 => ?_)
    · --  k < 0
      refine lv_iconst (v := 0) hx hb d_T_hasModule_20 (by decide) ?_
      exact W.zret (v := 0) (ty := .boolean) hx hb hr rfl (fun t ht _ => ⟨_, rfl, (by simp [bI, hasM, hc1, hc2]), ht⟩) (fun _ h => by cases h) d_T_hasModule_21
    · --  ¬ k < 0
      refine lv_iload_n hx hb d_T_hasModule_11 rfl (lv_at hl 1 rfl) ?_
      refine lv_iconst (v := 3) hx hb d_T_hasModule_12 (by decide) ?_
      refine lv_icmp_ge (tgt := 20) hx hb d_T_hasModule_13 rfl (fun hc3 => ?_) (fun hc3 => ?_)
      · --  3 ≤ k
        refine lv_iconst (v := 0) hx hb d_T_hasModule_20 (by decide) ?_
        exact W.zret (v := 0) (ty := .boolean) hx hb hr rfl (fun t ht _ => ⟨_, rfl, (by simp [bI, hasM, hc1, hc2, hc3]), ht⟩) (fun _ h => by cases h) d_T_hasModule_21
      · --  ¬ 3 ≤ k
        refine lv_iconst (v := 1) hx hb d_T_hasModule_16 (by decide) ?_
        refine lv_goto (tgt := 21) hx hb d_T_hasModule_17 rfl ?_
        exact W.zret (v := 1) (ty := .boolean) hx hb hr rfl (fun t ht _ => ⟨_, rfl, (by simp [bI, hasM, hc1, hc2, hc3]), ht⟩) (fun _ h => by cases h) d_T_hasModule_21

set_option maxHeartbeats 4000000 in
set_option maxRecDepth 100000 in
theorem c_T_freeze_0 (l : Launch) (dC : Nat → ClassId) (dI : Nat → Nat → Nat) (h0 a0 a1 a2 a3 a4 : Nat) (sf sg n1 n2 n3 : Int32) (x y : Int32) : Met l y_T_freeze (tbw y_T_freeze b_T_freeze 3 (some .boolean)) ({ frames := 1, cells := 0, slots := 0, locals := 21 }) (va_Pc [.ref h0, .int x, .int y] (fun U => va_P (dC, dI) classes [(h0, .inr (0, [.ref a0, .ref a1, .ref a2, .ref a3, .ref a4, .int 0, .int sf, .int sg, .int n1, .int n2, .int n3]))] U.heap ∧ va_K (dC, dI) classes [] U)) (vp_Si (fun r => r = 0)) 0 0 (fun _ => False) := by
  refine Met.ofW (cc := b_T_freeze) (maxL := 3) (ret := (some .boolean)) (by decide) rfl ?_
  intro p e s m args below meth c s₁ B hml hv
  obtain ⟨rfl, hP, hK⟩ := hv
  have hx := B.exec
  have hb := B.bytes
  have hr := B.returns
  have hts := atoms_spec (ws := (tbw y_T_freeze b_T_freeze 3 (some .boolean))) B.pre
  have hw : ∀ z9 ∈ tb, z9.before ([.ref h0, .int x, .int y] : List Value).toArray s = true := fun z9 h => hts z9 (List.mem_cons_of_mem _ h)
  have hown : s.vm.findClass "VotedTriple" = some m.cls := findClass_of_methodNamed B.named
  have hlocks := B.notSynchronized
  have hl := lv_entry ([.ref h0, .int x, .int y]) (n := 3) (Nat.le_of_ble_eq_true rfl)
  rw [lg_entry_eq]
  generalize (lg_sl ([.ref h0, .int x, .int y]) ++ List.replicate (3 - (lg_sl ([.ref h0, .int x, .int y])).length) Slot.unset).toArray = ls at hl ⊢
  have hl : lv_has ls 3 [(0, .ref h0), (1, .int x), (2, .int y)] := hl
  refine lv_aload_n hx hb d_T_freeze_0 rfl (lv_at hl 0 rfl) ?_
  refine lv_iload_n hx hb d_T_freeze_1 rfl (lv_at hl 1 rfl) ?_
  have hPc := hP.sub (ws' := [(h0, .inr (0, [.ref a0, .ref a1, .ref a2, .ref a3, .ref a4, .int 0, .int sf, .int sg, .int n1, .int n2, .int n3]))]) [0] rfl
  have hKc := hK.sub (tys' := []) [] rfl
  refine vp_callSi (va_runV (C := "VotedTriple") (As := [.int x]) (rest := []) ⟨hx, hb, hml, hown, hw⟩ (c_T_hasModule l dC dI h0 a0 a1 a2 a3 a4 sf sg n1 n2 n3 0 x) (cwV 1 hw (gdV (k_339) (k_336) (k_338) (ks_0) (k_1)) rfl rfl rfl (by decide +kernel) ⟨Nat.le_of_ble_eq_true rfl, Nat.le_of_ble_eq_true rfl⟩) ⟨fun a U g mk q => ⟨q.1, q.2.1, va_K.moved (u := U) (U := U.calling g mk a) (Vm.Alike.refl U.vm) q.2.2⟩, va_recv hK hP rfl (q0 := 0) rfl, fun U hU hW => ⟨rfl, by rw [hU]; exact hPc, va_K.moved hW.alike hKc⟩⟩ rfl rfl hl.1 rfl (lv_room (Nat.le_of_ble_eq_true rfl)) d_T_freeze_2 ⟨Nat.le_of_ble_eq_true rfl, Nat.le_of_ble_eq_true rfl⟩).run (fun r1 hr2 => ?_)
  subst hr2
  refine lv_if_ne (tgt := 10) hx hb d_T_freeze_5 rfl (fun hc3 => by first | exact absurd hc3 (fun hh => hh (hasM_0 _)) | exact absurd (fun hh => hh (hasM_0 _)) hc3) (fun hc3 => ?_)
  refine lv_iconst (v := 0) hx hb d_T_freeze_8 (by decide) ?_
  exact W.zret (v := 0) (ty := .boolean) hx hb hr rfl (fun t ht _ => ⟨_, rfl, rfl, ht⟩) (fun _ h => by cases h) d_T_freeze_9

set_option maxHeartbeats 4000000 in
set_option maxRecDepth 100000 in
theorem c_T_skip_0 (l : Launch) (dC : Nat → ClassId) (dI : Nat → Nat → Nat) (h0 a0 a1 a2 a3 a4 : Nat) (sf sg n1 n2 n3 : Int32) (x : Int32) : Met l y_T_skip (tbw y_T_skip b_T_skip 2 (some .boolean)) ({ frames := 1, cells := 0, slots := 0, locals := 21 }) (va_Pc [.ref h0, .int x] (fun U => va_P (dC, dI) classes [(h0, .inr (0, [.ref a0, .ref a1, .ref a2, .ref a3, .ref a4, .int 0, .int sf, .int sg, .int n1, .int n2, .int n3]))] U.heap ∧ va_K (dC, dI) classes [] U)) (vp_Si (fun r => r = 0)) 0 0 (fun _ => False) := by
  refine Met.ofW (cc := b_T_skip) (maxL := 2) (ret := (some .boolean)) (by decide) rfl ?_
  intro p e s m args below meth c s₁ B hml hv
  obtain ⟨rfl, hP, hK⟩ := hv
  have hx := B.exec
  have hb := B.bytes
  have hr := B.returns
  have hts := atoms_spec (ws := (tbw y_T_skip b_T_skip 2 (some .boolean))) B.pre
  have hw : ∀ z9 ∈ tb, z9.before ([.ref h0, .int x] : List Value).toArray s = true := fun z9 h => hts z9 (List.mem_cons_of_mem _ h)
  have hown : s.vm.findClass "VotedTriple" = some m.cls := findClass_of_methodNamed B.named
  have hlocks := B.notSynchronized
  have hl := lv_entry ([.ref h0, .int x]) (n := 2) (Nat.le_of_ble_eq_true rfl)
  rw [lg_entry_eq]
  generalize (lg_sl ([.ref h0, .int x]) ++ List.replicate (2 - (lg_sl ([.ref h0, .int x])).length) Slot.unset).toArray = ls at hl ⊢
  have hl : lv_has ls 2 [(0, .ref h0), (1, .int x)] := hl
  refine lv_aload_n hx hb d_T_skip_0 rfl (lv_at hl 0 rfl) ?_
  refine lv_iload_n hx hb d_T_skip_1 rfl (lv_at hl 1 rfl) ?_
  have hPc := hP.sub (ws' := [(h0, .inr (0, [.ref a0, .ref a1, .ref a2, .ref a3, .ref a4, .int 0, .int sf, .int sg, .int n1, .int n2, .int n3]))]) [0] rfl
  have hKc := hK.sub (tys' := []) [] rfl
  refine vp_callSi (va_runV (C := "VotedTriple") (As := [.int x]) (rest := []) ⟨hx, hb, hml, hown, hw⟩ (c_T_hasModule l dC dI h0 a0 a1 a2 a3 a4 sf sg n1 n2 n3 0 x) (cwV 1 hw (gdV (k_339) (k_336) (k_338) (ks_0) (k_1)) rfl rfl rfl (by decide +kernel) ⟨Nat.le_of_ble_eq_true rfl, Nat.le_of_ble_eq_true rfl⟩) ⟨fun a U g mk q => ⟨q.1, q.2.1, va_K.moved (u := U) (U := U.calling g mk a) (Vm.Alike.refl U.vm) q.2.2⟩, va_recv hK hP rfl (q0 := 0) rfl, fun U hU hW => ⟨rfl, by rw [hU]; exact hPc, va_K.moved hW.alike hKc⟩⟩ rfl rfl hl.1 rfl (lv_room (Nat.le_of_ble_eq_true rfl)) d_T_skip_2 ⟨Nat.le_of_ble_eq_true rfl, Nat.le_of_ble_eq_true rfl⟩).run (fun r1 hr2 => ?_)
  subst hr2
  refine lv_if_ne (tgt := 10) hx hb d_T_skip_5 rfl (fun hc3 => by first | exact absurd hc3 (fun hh => hh (hasM_0 _)) | exact absurd (fun hh => hh (hasM_0 _)) hc3) (fun hc3 => ?_)
  refine lv_iconst (v := 0) hx hb d_T_skip_8 (by decide) ?_
  exact W.zret (v := 0) (ty := .boolean) hx hb hr rfl (fun t ht _ => ⟨_, rfl, rfl, ht⟩) (fun _ h => by cases h) d_T_skip_9

set_option maxHeartbeats 4000000 in
set_option maxRecDepth 100000 in
theorem c_T_swap_0 (l : Launch) (dC : Nat → ClassId) (dI : Nat → Nat → Nat) (h0 a0 a1 a2 a3 a4 : Nat) (sf sg n1 n2 n3 : Int32) (x : Int32) : Met l y_T_swap (tbw y_T_swap b_T_swap 3 (some .boolean)) ({ frames := 1, cells := 0, slots := 0, locals := 21 }) (va_Pc [.ref h0, .int x] (fun U => va_P (dC, dI) classes [(h0, .inr (0, [.ref a0, .ref a1, .ref a2, .ref a3, .ref a4, .int 0, .int sf, .int sg, .int n1, .int n2, .int n3]))] U.heap ∧ va_K (dC, dI) classes [] U)) (vp_Si (fun r => r = 0)) 0 0 (fun _ => False) := by
  refine Met.ofW (cc := b_T_swap) (maxL := 3) (ret := (some .boolean)) (by decide) rfl ?_
  intro p e s m args below meth c s₁ B hml hv
  obtain ⟨rfl, hP, hK⟩ := hv
  have hx := B.exec
  have hb := B.bytes
  have hr := B.returns
  have hts := atoms_spec (ws := (tbw y_T_swap b_T_swap 3 (some .boolean))) B.pre
  have hw : ∀ z9 ∈ tb, z9.before ([.ref h0, .int x] : List Value).toArray s = true := fun z9 h => hts z9 (List.mem_cons_of_mem _ h)
  have hown : s.vm.findClass "VotedTriple" = some m.cls := findClass_of_methodNamed B.named
  have hlocks := B.notSynchronized
  have hl := lv_entry ([.ref h0, .int x]) (n := 3) (Nat.le_of_ble_eq_true rfl)
  rw [lg_entry_eq]
  generalize (lg_sl ([.ref h0, .int x]) ++ List.replicate (3 - (lg_sl ([.ref h0, .int x])).length) Slot.unset).toArray = ls at hl ⊢
  have hl : lv_has ls 3 [(0, .ref h0), (1, .int x)] := hl
  refine lv_aload_n hx hb d_T_swap_0 rfl (lv_at hl 0 rfl) ?_
  refine lv_iload_n hx hb d_T_swap_1 rfl (lv_at hl 1 rfl) ?_
  have hPc := hP.sub (ws' := [(h0, .inr (0, [.ref a0, .ref a1, .ref a2, .ref a3, .ref a4, .int 0, .int sf, .int sg, .int n1, .int n2, .int n3]))]) [0] rfl
  have hKc := hK.sub (tys' := []) [] rfl
  refine vp_callSi (va_runV (C := "VotedTriple") (As := [.int x]) (rest := []) ⟨hx, hb, hml, hown, hw⟩ (c_T_hasModule l dC dI h0 a0 a1 a2 a3 a4 sf sg n1 n2 n3 0 x) (cwV 1 hw (gdV (k_339) (k_336) (k_338) (ks_0) (k_1)) rfl rfl rfl (by decide +kernel) ⟨Nat.le_of_ble_eq_true rfl, Nat.le_of_ble_eq_true rfl⟩) ⟨fun a U g mk q => ⟨q.1, q.2.1, va_K.moved (u := U) (U := U.calling g mk a) (Vm.Alike.refl U.vm) q.2.2⟩, va_recv hK hP rfl (q0 := 0) rfl, fun U hU hW => ⟨rfl, by rw [hU]; exact hPc, va_K.moved hW.alike hKc⟩⟩ rfl rfl hl.1 rfl (lv_room (Nat.le_of_ble_eq_true rfl)) d_T_swap_2 ⟨Nat.le_of_ble_eq_true rfl, Nat.le_of_ble_eq_true rfl⟩).run (fun r1 hr2 => ?_)
  subst hr2
  refine lv_if_eq (tgt := 15) hx hb d_T_swap_5 rfl (fun hc3 => ?_) (fun hc3 => by first | exact absurd (hasM_0 _) hc3 | exact absurd hc3 (hasM_0 _))
  refine lv_iconst (v := 0) hx hb d_T_swap_15 (by decide) ?_
  exact W.zret (v := 0) (ty := .boolean) hx hb hr rfl (fun t ht _ => ⟨_, rfl, rfl, ht⟩) (fun _ h => by cases h) d_T_swap_16

set_option maxHeartbeats 4000000 in
set_option maxRecDepth 100000 in
theorem c_T_module_0 (l : Launch) (dC : Nat → ClassId) (dI : Nat → Nat → Nat) (h0 a0 a1 a2 a3 a4 : Nat) (sf sg n1 n2 n3 : Int32) (x y : Int32) : Met l y_T_module (tbw y_T_module b_T_module 4 (some .int)) ({ frames := 1, cells := 0, slots := 0, locals := 21 }) (va_Pc [.ref h0, .int x, .int y] (fun U => va_P (dC, dI) classes [(h0, .inr (0, [.ref a0, .ref a1, .ref a2, .ref a3, .ref a4, .int 0, .int sf, .int sg, .int n1, .int n2, .int n3]))] U.heap ∧ va_K (dC, dI) classes [] U)) (vp_Si (fun r => r = (-1))) 0 0 (fun _ => False) := by
  refine Met.ofW (cc := b_T_module) (maxL := 4) (ret := (some .int)) (by decide) rfl ?_
  intro p e s m args below meth c s₁ B hml hv
  obtain ⟨rfl, hP, hK⟩ := hv
  have hx := B.exec
  have hb := B.bytes
  have hr := B.returns
  have hts := atoms_spec (ws := (tbw y_T_module b_T_module 4 (some .int))) B.pre
  have hw : ∀ z9 ∈ tb, z9.before ([.ref h0, .int x, .int y] : List Value).toArray s = true := fun z9 h => hts z9 (List.mem_cons_of_mem _ h)
  have hown : s.vm.findClass "VotedTriple" = some m.cls := findClass_of_methodNamed B.named
  have hlocks := B.notSynchronized
  have hl := lv_entry ([.ref h0, .int x, .int y]) (n := 4) (Nat.le_of_ble_eq_true rfl)
  rw [lg_entry_eq]
  generalize (lg_sl ([.ref h0, .int x, .int y]) ++ List.replicate (4 - (lg_sl ([.ref h0, .int x, .int y])).length) Slot.unset).toArray = ls at hl ⊢
  have hl : lv_has ls 4 [(0, .ref h0), (1, .int x), (2, .int y)] := hl
  refine lv_aload_n hx hb d_T_module_0 rfl (lv_at hl 0 rfl) ?_
  refine lv_iload_n hx hb d_T_module_1 rfl (lv_at hl 1 rfl) ?_
  have hPc := hP.sub (ws' := [(h0, .inr (0, [.ref a0, .ref a1, .ref a2, .ref a3, .ref a4, .int 0, .int sf, .int sg, .int n1, .int n2, .int n3]))]) [0] rfl
  have hKc := hK.sub (tys' := []) [] rfl
  refine vp_callSi (va_runV (C := "VotedTriple") (As := [.int x]) (rest := []) ⟨hx, hb, hml, hown, hw⟩ (c_T_hasModule l dC dI h0 a0 a1 a2 a3 a4 sf sg n1 n2 n3 0 x) (cwV 1 hw (gdV (k_339) (k_336) (k_338) (ks_0) (k_1)) rfl rfl rfl (by decide +kernel) ⟨Nat.le_of_ble_eq_true rfl, Nat.le_of_ble_eq_true rfl⟩) ⟨fun a U g mk q => ⟨q.1, q.2.1, va_K.moved (u := U) (U := U.calling g mk a) (Vm.Alike.refl U.vm) q.2.2⟩, va_recv hK hP rfl (q0 := 0) rfl, fun U hU hW => ⟨rfl, by rw [hU]; exact hPc, va_K.moved hW.alike hKc⟩⟩ rfl rfl hl.1 rfl (lv_room (Nat.le_of_ble_eq_true rfl)) d_T_module_2 ⟨Nat.le_of_ble_eq_true rfl, Nat.le_of_ble_eq_true rfl⟩).run (fun r1 hr2 => ?_)
  subst hr2
  refine lv_if_ne (tgt := 10) hx hb d_T_module_5 rfl (fun hc3 => by first | exact absurd hc3 (fun hh => hh (hasM_0 _)) | exact absurd (fun hh => hh (hasM_0 _)) hc3) (fun hc3 => ?_)
  refine lv_iconst (v := (-1)) hx hb d_T_module_8 (by decide) ?_
  exact W.iret (v := (-1)) hx hb hr (fun t ht _ => ⟨_, rfl, rfl, ht⟩) (fun _ h => by cases h) d_T_module_9

set_option maxHeartbeats 4000000 in
set_option maxRecDepth 100000 in
theorem c_T_register_0 (l : Launch) (dC : Nat → ClassId) (dI : Nat → Nat → Nat) (h0 a0 a1 a2 a3 a4 : Nat) (sf sg n1 n2 n3 : Int32) (x y : Int32) : Met l y_T_register (tbw y_T_register b_T_register 3 (some .int)) ({ frames := 1, cells := 0, slots := 0, locals := 21 }) (va_Pc [.ref h0, .int x, .int y] (fun U => va_P (dC, dI) classes [(h0, .inr (0, [.ref a0, .ref a1, .ref a2, .ref a3, .ref a4, .int 0, .int sf, .int sg, .int n1, .int n2, .int n3]))] U.heap ∧ va_K (dC, dI) classes [] U)) (vp_Si (fun r => r = (-1))) 0 0 (fun _ => False) := by
  refine Met.ofW (cc := b_T_register) (maxL := 3) (ret := (some .int)) (by decide) rfl ?_
  intro p e s m args below meth c s₁ B hml hv
  obtain ⟨rfl, hP, hK⟩ := hv
  have hx := B.exec
  have hb := B.bytes
  have hr := B.returns
  have hts := atoms_spec (ws := (tbw y_T_register b_T_register 3 (some .int))) B.pre
  have hw : ∀ z9 ∈ tb, z9.before ([.ref h0, .int x, .int y] : List Value).toArray s = true := fun z9 h => hts z9 (List.mem_cons_of_mem _ h)
  have hown : s.vm.findClass "VotedTriple" = some m.cls := findClass_of_methodNamed B.named
  have hlocks := B.notSynchronized
  have hl := lv_entry ([.ref h0, .int x, .int y]) (n := 3) (Nat.le_of_ble_eq_true rfl)
  rw [lg_entry_eq]
  generalize (lg_sl ([.ref h0, .int x, .int y]) ++ List.replicate (3 - (lg_sl ([.ref h0, .int x, .int y])).length) Slot.unset).toArray = ls at hl ⊢
  have hl : lv_has ls 3 [(0, .ref h0), (1, .int x), (2, .int y)] := hl
  refine lv_aload_n hx hb d_T_register_0 rfl (lv_at hl 0 rfl) ?_
  refine lv_iload_n hx hb d_T_register_1 rfl (lv_at hl 1 rfl) ?_
  have hPc := hP.sub (ws' := [(h0, .inr (0, [.ref a0, .ref a1, .ref a2, .ref a3, .ref a4, .int 0, .int sf, .int sg, .int n1, .int n2, .int n3]))]) [0] rfl
  have hKc := hK.sub (tys' := []) [] rfl
  refine vp_callSi (va_runV (C := "VotedTriple") (As := [.int x]) (rest := []) ⟨hx, hb, hml, hown, hw⟩ (c_T_hasModule l dC dI h0 a0 a1 a2 a3 a4 sf sg n1 n2 n3 0 x) (cwV 1 hw (gdV (k_339) (k_336) (k_338) (ks_0) (k_1)) rfl rfl rfl (by decide +kernel) ⟨Nat.le_of_ble_eq_true rfl, Nat.le_of_ble_eq_true rfl⟩) ⟨fun a U g mk q => ⟨q.1, q.2.1, va_K.moved (u := U) (U := U.calling g mk a) (Vm.Alike.refl U.vm) q.2.2⟩, va_recv hK hP rfl (q0 := 0) rfl, fun U hU hW => ⟨rfl, by rw [hU]; exact hPc, va_K.moved hW.alike hKc⟩⟩ rfl rfl hl.1 rfl (lv_room (Nat.le_of_ble_eq_true rfl)) d_T_register_2 ⟨Nat.le_of_ble_eq_true rfl, Nat.le_of_ble_eq_true rfl⟩).run (fun r1 hr2 => ?_)
  subst hr2
  refine lv_if_eq (tgt := 18) hx hb d_T_register_5 rfl (fun hc3 => ?_) (fun hc3 => by first | exact absurd (hasM_0 _) hc3 | exact absurd hc3 (hasM_0 _))
  refine lv_iconst (v := (-1)) hx hb d_T_register_18 (by decide) ?_
  exact W.iret (v := (-1)) hx hb hr (fun t ht _ => ⟨_, rfl, rfl, ht⟩) (fun _ h => by cases h) d_T_register_19

set_option maxHeartbeats 4000000 in
set_option maxRecDepth 100000 in
theorem c_T_code_0 (l : Launch) (dC : Nat → ClassId) (dI : Nat → Nat → Nat) (h0 a0 a1 a2 a3 a4 : Nat) (sf sg n1 n2 n3 : Int32) (x y : Int32) : Met l y_T_code (tbw y_T_code b_T_code 3 (some .int)) ({ frames := 1, cells := 0, slots := 0, locals := 21 }) (va_Pc [.ref h0, .int x, .int y] (fun U => va_P (dC, dI) classes [(h0, .inr (0, [.ref a0, .ref a1, .ref a2, .ref a3, .ref a4, .int 0, .int sf, .int sg, .int n1, .int n2, .int n3]))] U.heap ∧ va_K (dC, dI) classes [] U)) (vp_Si (fun r => r = (-1))) 0 0 (fun _ => False) := by
  refine Met.ofW (cc := b_T_code) (maxL := 3) (ret := (some .int)) (by decide) rfl ?_
  intro p e s m args below meth c s₁ B hml hv
  obtain ⟨rfl, hP, hK⟩ := hv
  have hx := B.exec
  have hb := B.bytes
  have hr := B.returns
  have hts := atoms_spec (ws := (tbw y_T_code b_T_code 3 (some .int))) B.pre
  have hw : ∀ z9 ∈ tb, z9.before ([.ref h0, .int x, .int y] : List Value).toArray s = true := fun z9 h => hts z9 (List.mem_cons_of_mem _ h)
  have hown : s.vm.findClass "VotedTriple" = some m.cls := findClass_of_methodNamed B.named
  have hlocks := B.notSynchronized
  have hl := lv_entry ([.ref h0, .int x, .int y]) (n := 3) (Nat.le_of_ble_eq_true rfl)
  rw [lg_entry_eq]
  generalize (lg_sl ([.ref h0, .int x, .int y]) ++ List.replicate (3 - (lg_sl ([.ref h0, .int x, .int y])).length) Slot.unset).toArray = ls at hl ⊢
  have hl : lv_has ls 3 [(0, .ref h0), (1, .int x), (2, .int y)] := hl
  refine lv_aload_n hx hb d_T_code_0 rfl (lv_at hl 0 rfl) ?_
  refine lv_iload_n hx hb d_T_code_1 rfl (lv_at hl 1 rfl) ?_
  have hPc := hP.sub (ws' := [(h0, .inr (0, [.ref a0, .ref a1, .ref a2, .ref a3, .ref a4, .int 0, .int sf, .int sg, .int n1, .int n2, .int n3]))]) [0] rfl
  have hKc := hK.sub (tys' := []) [] rfl
  refine vp_callSi (va_runV (C := "VotedTriple") (As := [.int x]) (rest := []) ⟨hx, hb, hml, hown, hw⟩ (c_T_hasModule l dC dI h0 a0 a1 a2 a3 a4 sf sg n1 n2 n3 0 x) (cwV 1 hw (gdV (k_339) (k_336) (k_338) (ks_0) (k_1)) rfl rfl rfl (by decide +kernel) ⟨Nat.le_of_ble_eq_true rfl, Nat.le_of_ble_eq_true rfl⟩) ⟨fun a U g mk q => ⟨q.1, q.2.1, va_K.moved (u := U) (U := U.calling g mk a) (Vm.Alike.refl U.vm) q.2.2⟩, va_recv hK hP rfl (q0 := 0) rfl, fun U hU hW => ⟨rfl, by rw [hU]; exact hPc, va_K.moved hW.alike hKc⟩⟩ rfl rfl hl.1 rfl (lv_room (Nat.le_of_ble_eq_true rfl)) d_T_code_2 ⟨Nat.le_of_ble_eq_true rfl, Nat.le_of_ble_eq_true rfl⟩).run (fun r1 hr2 => ?_)
  subst hr2
  refine lv_if_eq (tgt := 18) hx hb d_T_code_5 rfl (fun hc3 => ?_) (fun hc3 => by first | exact absurd (hasM_0 _) hc3 | exact absurd hc3 (hasM_0 _))
  refine lv_iconst (v := (-1)) hx hb d_T_code_18 (by decide) ?_
  exact W.iret (v := (-1)) hx hb hr (fun t ht _ => ⟨_, rfl, rfl, ht⟩) (fun _ h => by cases h) d_T_code_19

set_option maxHeartbeats 4000000 in
set_option maxRecDepth 100000 in
theorem c_T_input_0 (l : Launch) (dC : Nat → ClassId) (dI : Nat → Nat → Nat) (h0 a0 a1 a2 a3 a4 : Nat) (sf sg n1 n2 n3 : Int32) (x : Int32) : Met l y_T_input (tbw y_T_input b_T_input 2 (some .boolean)) ({ frames := 0, cells := 0, slots := 0, locals := 0 }) (va_Pc [.ref h0, .int x] (fun U => va_P (dC, dI) classes [(h0, .inr (0, [.ref a0, .ref a1, .ref a2, .ref a3, .ref a4, .int 0, .int sf, .int sg, .int n1, .int n2, .int n3]))] U.heap ∧ va_K (dC, dI) classes [] U)) (vp_Si (fun r => r = 0)) 0 0 (fun _ => False) := by
  refine Met.ofW (cc := b_T_input) (maxL := 2) (ret := (some .boolean)) (by decide) rfl ?_
  intro p e s m args below meth c s₁ B hml hv
  obtain ⟨rfl, hP, hK⟩ := hv
  have hx := B.exec
  have hb := B.bytes
  have hr := B.returns
  have hts := atoms_spec (ws := (tbw y_T_input b_T_input 2 (some .boolean))) B.pre
  have hw : ∀ z9 ∈ tb, z9.before ([.ref h0, .int x] : List Value).toArray s = true := fun z9 h => hts z9 (List.mem_cons_of_mem _ h)
  have hown : s.vm.findClass "VotedTriple" = some m.cls := findClass_of_methodNamed B.named
  have hlocks := B.notSynchronized
  have hl := lv_entry ([.ref h0, .int x]) (n := 2) (Nat.le_of_ble_eq_true rfl)
  rw [lg_entry_eq]
  generalize (lg_sl ([.ref h0, .int x]) ++ List.replicate (2 - (lg_sl ([.ref h0, .int x])).length) Slot.unset).toArray = ls at hl ⊢
  have hl : lv_has ls 2 [(0, .ref h0), (1, .int x)] := hl
  refine lv_aload_n hx hb d_T_input_0 rfl (lv_at hl 0 rfl) ?_
  refine va_get (D := (dC, dI)) (ci := 0) (v := .int 0) (C := "VotedTriple") (T := F_T) (N := 11) hx hb hw in_T hown hK hP 0 rfl rfl 5 (by decide) (hw _ k_199) (fun _ h9 => h9) rfl d_T_input_1 ?_
  refine lv_if_eq (tgt := 25) hx hb d_T_input_4 rfl (fun hc1 => ?_) (fun hc1 => by first | exact absurd (by decide) hc1 | exact absurd hc1 (by decide))
  refine lv_iconst (v := 0) hx hb d_T_input_25 (by decide) ?_
  exact W.zret (v := 0) (ty := .boolean) hx hb hr rfl (fun t ht _ => ⟨_, rfl, rfl, ht⟩) (fun _ h => by cases h) d_T_input_26

set_option maxHeartbeats 4000000 in
set_option maxRecDepth 100000 in
theorem c_T_currentMode_0 (l : Launch) (dC : Nat → ClassId) (dI : Nat → Nat → Nat) (h0 a0 a1 a2 a3 a4 : Nat) (sf sg n1 n2 n3 : Int32) : Met l y_T_currentMode (tbw y_T_currentMode b_T_currentMode 1 (some .int)) ({ frames := 0, cells := 0, slots := 0, locals := 0 }) (va_Pc [.ref h0] (fun U => va_P (dC, dI) classes [(h0, .inr (0, [.ref a0, .ref a1, .ref a2, .ref a3, .ref a4, .int 0, .int sf, .int sg, .int n1, .int n2, .int n3]))] U.heap ∧ va_K (dC, dI) classes [] U)) (vp_Si (fun r => r = (-1))) 0 0 (fun _ => False) := by
  refine Met.ofW (cc := b_T_currentMode) (maxL := 1) (ret := (some .int)) (by decide) rfl ?_
  intro p e s m args below meth c s₁ B hml hv
  obtain ⟨rfl, hP, hK⟩ := hv
  have hx := B.exec
  have hb := B.bytes
  have hr := B.returns
  have hts := atoms_spec (ws := (tbw y_T_currentMode b_T_currentMode 1 (some .int))) B.pre
  have hw : ∀ z9 ∈ tb, z9.before ([.ref h0] : List Value).toArray s = true := fun z9 h => hts z9 (List.mem_cons_of_mem _ h)
  have hown : s.vm.findClass "VotedTriple" = some m.cls := findClass_of_methodNamed B.named
  have hlocks := B.notSynchronized
  have hl := lv_entry ([.ref h0]) (n := 1) (Nat.le_of_ble_eq_true rfl)
  rw [lg_entry_eq]
  generalize (lg_sl ([.ref h0]) ++ List.replicate (1 - (lg_sl ([.ref h0])).length) Slot.unset).toArray = ls at hl ⊢
  have hl : lv_has ls 1 [(0, .ref h0)] := hl
  refine lv_aload_n hx hb d_T_currentMode_0 rfl (lv_at hl 0 rfl) ?_
  refine va_get (D := (dC, dI)) (ci := 0) (v := .int 0) (C := "VotedTriple") (T := F_T) (N := 11) hx hb hw in_T hown hK hP 0 rfl rfl 5 (by decide) (hw _ k_199) (fun _ h9 => h9) rfl d_T_currentMode_1 ?_
  refine lv_if_ne (tgt := 9) hx hb d_T_currentMode_4 rfl (fun hc1 => by first | exact absurd hc1 (by decide) | exact absurd (by decide) hc1) (fun hc1 => ?_)
  refine lv_iconst (v := (-1)) hx hb d_T_currentMode_7 (by decide) ?_
  exact W.iret (v := (-1)) hx hb hr (fun t ht _ => ⟨_, rfl, rfl, ht⟩) (fun _ h => by cases h) d_T_currentMode_8

set_option maxHeartbeats 4000000 in
set_option maxRecDepth 100000 in
theorem c_T_start_0 (l : Launch) (dC : Nat → ClassId) (dI : Nat → Nat → Nat) (h0 a0 a1 a2 a3 a4 : Nat) (sf sg n1 n2 n3 : Int32) (q : Nat) : Met l y_T_start (tbw y_T_start b_T_start 2 (some .boolean)) ({ frames := 1, cells := 0, slots := 0, locals := 22 }) (va_Pc [.ref h0] (fun U => va_P (dC, dI) classes [(h0, .inr (0, [.ref a0, .ref a1, .ref a2, .ref a3, .ref a4, .int 0, .int sf, .int sg, .int n1, .int n2, .int n3])), (a0, .inr (1, [.ref q, .int 0]))] U.heap ∧ va_K (dC, dI) classes [] U)) (vp_Si (fun r => r = 0)) 0 0 (fun _ => False) := by
  refine Met.ofW (cc := b_T_start) (maxL := 2) (ret := (some .boolean)) (by decide) rfl ?_
  intro p e s m args below meth c s₁ B hml hv
  obtain ⟨rfl, hP, hK⟩ := hv
  have hx := B.exec
  have hb := B.bytes
  have hr := B.returns
  have hts := atoms_spec (ws := (tbw y_T_start b_T_start 2 (some .boolean))) B.pre
  have hw : ∀ z9 ∈ tb, z9.before ([.ref h0] : List Value).toArray s = true := fun z9 h => hts z9 (List.mem_cons_of_mem _ h)
  have hown : s.vm.findClass "VotedTriple" = some m.cls := findClass_of_methodNamed B.named
  have hlocks := B.notSynchronized
  have hl := lv_entry ([.ref h0]) (n := 2) (Nat.le_of_ble_eq_true rfl)
  rw [lg_entry_eq]
  generalize (lg_sl ([.ref h0]) ++ List.replicate (2 - (lg_sl ([.ref h0])).length) Slot.unset).toArray = ls at hl ⊢
  have hl : lv_has ls 2 [(0, .ref h0)] := hl
  refine lv_aload_n hx hb d_T_start_0 rfl (lv_at hl 0 rfl) ?_
  refine va_get (D := (dC, dI)) (ci := 0) (v := .ref a0) (C := "VotedTriple") (T := F_T) (N := 11) hx hb hw in_T hown hK hP 0 rfl rfl 0 (by decide) (hw _ k_194) (fun _ h9 => h9) rfl d_T_start_1 ?_
  have hPc := hP.sub (ws' := [(a0, .inr (1, [.ref q, .int 0]))]) [1] rfl
  have hKc := hK.sub (tys' := []) [] rfl
  refine vp_callSi (va_runV (C := "VotedTriple$Program") (As := []) (rest := []) ⟨hx, hb, hml, hown, hw⟩ (c_P_canRun_0 l dC dI a0 q) (cwV 0 hw (gdV (k_261) (k_258) (k_259) (k_260) (k_2)) rfl rfl rfl (by decide +kernel) ⟨Nat.le_of_ble_eq_true rfl, Nat.le_of_ble_eq_true rfl⟩) ⟨fun a U g mk q => ⟨q.1, q.2.1, va_K.moved (u := U) (U := U.calling g mk a) (Vm.Alike.refl U.vm) q.2.2⟩, va_recv hK hP rfl (q0 := 1) rfl, fun U hU hW => ⟨rfl, by rw [hU]; exact hPc, va_K.moved hW.alike hKc⟩⟩ rfl rfl hl.1 rfl (lv_room (Nat.le_of_ble_eq_true rfl)) d_T_start_4 ⟨Nat.le_of_ble_eq_true rfl, Nat.le_of_ble_eq_true rfl⟩).run (fun r1 hr2 => ?_)
  subst hr2
  refine lv_if_ne (tgt := 12) hx hb d_T_start_7 rfl (fun hc3 => by first | exact absurd hc3 (by decide) | exact absurd (by decide) hc3) (fun hc3 => ?_)
  refine lv_iconst (v := 0) hx hb d_T_start_10 (by decide) ?_
  exact W.zret (v := 0) (ty := .boolean) hx hb hr rfl (fun t ht _ => ⟨_, rfl, rfl, ht⟩) (fun _ h => by cases h) d_T_start_11

set_option maxHeartbeats 4000000 in
set_option maxRecDepth 100000 in
theorem c_T_program_0 (l : Launch) (dC : Nat → ClassId) (dI : Nat → Nat → Nat) (h0 a0 a1 a2 a3 a4 : Nat) (sf sg n1 n2 n3 : Int32) (q : Nat) (cA : ClassId) (f : Nat → Int32) (i w : Int32) (sz : Nat) : Met l y_T_program (tbw y_T_program b_T_program 3 (some .boolean)) ({ frames := 3, cells := 0, slots := 0, locals := 62 }) (va_Pc [.ref h0, .int i, .int w] (fun U => U.heap.size = sz ∧ va_P (dC, dI) classes [(h0, .inr (0, [.ref a0, .ref a1, .ref a2, .ref a3, .ref a4, .int 0, .int sf, .int sg, .int n1, .int n2, .int n3])), (a0, .inr (1, [.ref q, .int 0])), (q, .inl (cA, 64, .inl f))] U.heap ∧ va_K (dC, dI) classes [(cA, .int)] U ∧ va_D (fun _ => True) [(h0, .inr (0, [.ref a0, .ref a1, .ref a2, .ref a3, .ref a4, .int 0, .int sf, .int sg, .int n1, .int n2, .int n3])), (a0, .inr (1, [.ref q, .int 0])), (q, .inl (cA, 64, .inl f))])) (va_Qi (fun (r : Int32) (u9 : Unit) => match u9 with | _ => r = bI (prF i w)) (fun (u9 : Unit) t => match u9 with | _ => va_P (dC, dI) classes [] t.heap ∧ va_K (dC, dI) classes [] t ∧ va_D (va_A [(h0, .inr (0, [.ref a0, .ref a1, .ref a2, .ref a3, .ref a4, .int 0, .int sf, .int sg, .int n1, .int n2, .int n3])), (a0, .inr (1, [.ref q, .int 0])), (q, .inl (cA, 64, .inl f))] sz) []) (va_A [(h0, .inr (0, [.ref a0, .ref a1, .ref a2, .ref a3, .ref a4, .int 0, .int sf, .int sg, .int n1, .int n2, .int n3])), (a0, .inr (1, [.ref q, .int 0])), (q, .inl (cA, 64, .inl f))] sz)) 0 0 (va_A [(h0, .inr (0, [.ref a0, .ref a1, .ref a2, .ref a3, .ref a4, .int 0, .int sf, .int sg, .int n1, .int n2, .int n3])), (a0, .inr (1, [.ref q, .int 0])), (q, .inl (cA, 64, .inl f))] sz) := by
  refine Met.ofW (cc := b_T_program) (maxL := 3) (ret := (some .boolean)) (by decide) rfl ?_
  intro p e s m args below meth c s₁ B hml hv
  obtain ⟨rfl, hsz, hP, hK, hD0⟩ := hv
  have hx := B.exec
  have hb := B.bytes
  have hr := B.returns
  have hts := atoms_spec (ws := (tbw y_T_program b_T_program 3 (some .boolean))) B.pre
  have hw : ∀ z9 ∈ tb, z9.before ([.ref h0, .int i, .int w] : List Value).toArray s = true := fun z9 h => hts z9 (List.mem_cons_of_mem _ h)
  have hown : s.vm.findClass "VotedTriple" = some m.cls := findClass_of_methodNamed B.named
  have hlocks := B.notSynchronized
  subst hsz
  have hD := hD0.self (sz := s.heap.size)
  generalize hAe : va_A [(h0, .inr (0, [.ref a0, .ref a1, .ref a2, .ref a3, .ref a4, .int 0, .int sf, .int sg, .int n1, .int n2, .int n3])), (a0, .inr (1, [.ref q, .int 0])), (q, .inl (cA, 64, .inl f))] s.heap.size = A at hD ⊢
  have hA : ∀ q : Nat, s.heap.size ≤ q → A q := fun q h => by rw [← hAe]; exact Or.inr h
  have hS : va_S A s.heap s.heap [] := va_S.rf
  have hl := lv_entry ([.ref h0, .int i, .int w]) (n := 3) (Nat.le_of_ble_eq_true rfl)
  rw [lg_entry_eq]
  generalize (lg_sl ([.ref h0, .int i, .int w]) ++ List.replicate (3 - (lg_sl ([.ref h0, .int i, .int w])).length) Slot.unset).toArray = ls at hl ⊢
  have hl : lv_has ls 3 [(0, .ref h0), (1, .int i), (2, .int w)] := hl
  refine lv_aload_n hx hb d_T_program_0 rfl (lv_at hl 0 rfl) ?_
  refine va_get (D := (dC, dI)) (ci := 0) (v := .int 0) (C := "VotedTriple") (T := F_T) (N := 11) hx hb hw in_T hown hK hP 0 rfl rfl 5 (by decide) (hw _ k_199) (fun _ h9 => h9) rfl d_T_program_1 ?_
  refine lv_if_ne (tgt := 23) hx hb d_T_program_4 rfl (fun hc1 => by first | exact absurd hc1 (by decide) | exact absurd (by decide) hc1) (fun hc1 => ?_)
  refine lv_aload_n hx hb d_T_program_7 rfl (lv_at hl 0 rfl) ?_
  refine va_get (D := (dC, dI)) (ci := 0) (v := .ref a0) (C := "VotedTriple") (T := F_T) (N := 11) hx hb hw in_T hown hK hP 0 rfl rfl 0 (by decide) (hw _ k_194) (fun _ h9 => h9) rfl d_T_program_8 ?_
  refine lv_iload_n hx hb d_T_program_11 rfl (lv_at hl 1 rfl) ?_
  refine lv_iload_n hx hb d_T_program_12 rfl (lv_at hl 2 rfl) ?_
  have hPc := hP.sub (ws' := [(a0, .inr (1, [.ref q, .int 0])), (q, .inl (cA, 64, .inl f))]) [1, 2] rfl
  have hKc := hK.sub (tys' := [(cA, .int)]) [0] rfl
  have hDc := hD.sub (ws' := [(a0, .inr (1, [.ref q, .int 0])), (q, .inl (cA, 64, .inl f))]) [1, 2] (by decide) rfl
  have hFc := va_free (wc := [(a0, .inr (1, [.ref q, .int 0])), (q, .inl (cA, 64, .inl f))]) hD hS hA [1, 2] rfl
  refine va_calli (va_runV (C := "VotedTriple$Program") (As := [.int i, .int w]) (rest := []) ⟨hx, hb, hml, hown, hw⟩ (c_P_put_0 l dC dI a0 q cA f i w s.heap.size) (cwV 2 hw (gdV (k_235) (k_232) (k_233) (k_234) (k_2)) rfl rfl rfl (by decide +kernel) ⟨Nat.le_of_ble_eq_true rfl, Nat.le_of_ble_eq_true rfl⟩) ⟨fun a U g mk q => by obtain ⟨q0, q1, qP, qK, qD⟩ := q; exact ⟨q0, q1, qP, va_K.moved (u := U) (U := U.calling g mk a) (Vm.Alike.refl U.vm) qK, qD⟩, va_recv hK hP rfl (q0 := 1) rfl, fun U hU hW => ⟨rfl, by rw [hU], by rw [hU]; exact hPc, va_K.moved hW.alike hKc, hDc.weaken (fun _ _ _ _ => trivial)⟩⟩ rfl rfl hl.1 rfl (lv_room (Nat.le_of_ble_eq_true rfl)) d_T_program_13 ⟨Nat.le_of_ble_eq_true rfl, Nat.le_of_ble_eq_true rfl⟩) hS (fun q _ h => hFc q h) hFc (fun r2 u9 t H1 locs ht hvm hr3 hB hz1 hk1 hS => ?_)
  obtain ⟨hP1, hK1, hD1⟩ := hB
  rw [ht] at hP1
  have hK1 := va_K.moved hvm.symm hK1
  try dsimp only at hr3 hP1 hK1 hD1
  obtain ⟨hP, hD⟩ := va_join (wr := [(h0, .inr (0, [.ref a0, .ref a1, .ref a2, .ref a3, .ref a4, .int 0, .int sf, .int sg, .int n1, .int n2, .int n3]))]) (w1 := []) hP hD [1, 2] [0] rfl rfl (by decide) (by decide) hk1 hFc hP1 hD1
  have hK := (hK.sub (tys' := []) [] rfl).app hK1
  generalize H1 = H at hP hS ⊢
  have hP : va_P (dC, dI) classes [(h0, .inr (0, [.ref a0, .ref a1, .ref a2, .ref a3, .ref a4, .int 0, .int sf, .int sg, .int n1, .int n2, .int n3]))] H := hP
  have hD : va_D A [(h0, .inr (0, [.ref a0, .ref a1, .ref a2, .ref a3, .ref a4, .int 0, .int sf, .int sg, .int n1, .int n2, .int n3]))] := hD
  have hK : va_K (dC, dI) classes [] s := hK
  refine W.widen (k := 0) (n := 0) (Nat.le_of_ble_eq_true rfl) (Nat.le_of_ble_eq_true rfl) ?_
  obtain rfl : r2 = bI (prF i w) := hr3
  refine lv_if_eq (tgt := 23) hx hb d_T_program_16 rfl (fun hc4 => ?_) (fun hc4 => ?_)
  · --  (bI (prF i w)) = 0
    refine lv_iconst (v := 0) hx hb d_T_program_23 (by decide) ?_
    have hP9 := hP.sub (ws' := []) [] rfl
    have hD9 := hD.sub (ws' := []) [] (by decide) rfl
    have hK9 := hK.sub (tys' := []) [] rfl
    refine W.widen (k := 0) (n := 0) (Nat.le_of_ble_eq_true rfl) (Nat.le_of_ble_eq_true rfl) ?_
    exact W.zret (v := 0) (ty := .boolean) hx hb hr rfl (fun t ht hW => ⟨⟨_, (), rfl, hc4.symm, by rw [ht]; exact hP9, va_K.moved hW.alike hK9, hD9⟩, hS.F ht⟩) hS.2.2 d_T_program_24
  · --  ¬ (bI (prF i w)) = 0
    refine lv_iconst (v := 1) hx hb d_T_program_19 (by decide) ?_
    refine lv_goto (tgt := 24) hx hb d_T_program_20 rfl ?_
    have hP9 := hP.sub (ws' := []) [] rfl
    have hD9 := hD.sub (ws' := []) [] (by decide) rfl
    have hK9 := hK.sub (tys' := []) [] rfl
    refine W.widen (k := 0) (n := 0) (Nat.le_of_ble_eq_true rfl) (Nat.le_of_ble_eq_true rfl) ?_
    exact W.zret (v := 1) (ty := .boolean) hx hb hr rfl (fun t ht hW => ⟨⟨_, (), rfl, (by rw [bI_t hc4]; rfl), by rw [ht]; exact hP9, va_K.moved hW.alike hK9, hD9⟩, hS.F ht⟩) hS.2.2 d_T_program_24

set_option maxHeartbeats 4000000 in
set_option maxRecDepth 100000 in
theorem c_T_allow (l : Launch) (dC : Nat → ClassId) (dI : Nat → Nat → Nat) (h0 a0 a1 a2 a3 a4 : Nat) (sf sg n1 n2 n3 : Int32) (v : Int32) (hv : narrow .boolean (.int v) = .int v ∧ fits .boolean (.int v) = true) (sz : Nat) : Met l y_T_allow (tbw y_T_allow b_T_allow 2 none) ({ frames := 0, cells := 0, slots := 0, locals := 0 }) (va_Pc [.ref h0, .int v] (fun U => U.heap.size = sz ∧ va_P (dC, dI) classes [(h0, .inr (0, [.ref a0, .ref a1, .ref a2, .ref a3, .ref a4, .int 0, .int sf, .int sg, .int n1, .int n2, .int n3]))] U.heap ∧ va_K (dC, dI) classes [] U ∧ va_D (fun _ => True) [(h0, .inr (0, [.ref a0, .ref a1, .ref a2, .ref a3, .ref a4, .int 0, .int sf, .int sg, .int n1, .int n2, .int n3]))])) (va_Qv (fun (u9 : Unit) => match u9 with | _ => True) (fun (u9 : Unit) t => match u9 with | _ => va_P (dC, dI) classes [] t.heap ∧ va_K (dC, dI) classes [] t ∧ va_D (va_A [(h0, .inr (0, [.ref a0, .ref a1, .ref a2, .ref a3, .ref a4, .int 0, .int sf, .int sg, .int n1, .int n2, .int n3]))] sz) []) (va_A [(h0, .inr (0, [.ref a0, .ref a1, .ref a2, .ref a3, .ref a4, .int 0, .int sf, .int sg, .int n1, .int n2, .int n3]))] sz)) 0 0 (va_A [(h0, .inr (0, [.ref a0, .ref a1, .ref a2, .ref a3, .ref a4, .int 0, .int sf, .int sg, .int n1, .int n2, .int n3]))] sz) := by
  refine Met.ofW (cc := b_T_allow) (maxL := 2) (ret := none) (by decide) rfl ?_
  intro p e s m args below meth c s₁ B hml hv
  obtain ⟨rfl, hsz, hP, hK, hD0⟩ := hv
  have hx := B.exec
  have hb := B.bytes
  have hr := B.returns
  have hts := atoms_spec (ws := (tbw y_T_allow b_T_allow 2 none)) B.pre
  have hw : ∀ z9 ∈ tb, z9.before ([.ref h0, .int v] : List Value).toArray s = true := fun z9 h => hts z9 (List.mem_cons_of_mem _ h)
  have hown : s.vm.findClass "VotedTriple" = some m.cls := findClass_of_methodNamed B.named
  have hlocks := B.notSynchronized
  subst hsz
  have hD := hD0.self (sz := s.heap.size)
  generalize hAe : va_A [(h0, .inr (0, [.ref a0, .ref a1, .ref a2, .ref a3, .ref a4, .int 0, .int sf, .int sg, .int n1, .int n2, .int n3]))] s.heap.size = A at hD ⊢
  have hA : ∀ q : Nat, s.heap.size ≤ q → A q := fun q h => by rw [← hAe]; exact Or.inr h
  have hS : va_S A s.heap s.heap [] := va_S.rf
  have hl := lv_entry ([.ref h0, .int v]) (n := 2) (Nat.le_of_ble_eq_true rfl)
  rw [lg_entry_eq]
  generalize (lg_sl ([.ref h0, .int v]) ++ List.replicate (2 - (lg_sl ([.ref h0, .int v])).length) Slot.unset).toArray = ls at hl ⊢
  have hl : lv_has ls 2 [(0, .ref h0), (1, .int v)] := hl
  refine lv_aload_n hx hb d_T_allow_0 rfl (lv_at hl 0 rfl) ?_
  refine lv_iload_n hx hb d_T_allow_1 rfl (lv_at hl 1 rfl) ?_
  refine va_put (D := (dC, dI)) (ci := 0) (v := .int v) (ty := .boolean) (C := "VotedTriple") (T := F_T) (N := 11) hx hb hw in_T ft_T tyok_T nm_T hown hK hP hD hS 0 rfl rfl 7 (by decide) (hw _ k_201) (fun _ h9 => h9) rfl (by decide +kernel) hv.1 hv.2 (Nat.le_of_ble_eq_true rfl) d_T_allow_2 (fun H locs hP hD hS => ?_)
  have hP : va_P (dC, dI) classes [(h0, .inr (0, [.ref a0, .ref a1, .ref a2, .ref a3, .ref a4, .int 0, .int sf, .int v, .int n1, .int n2, .int n3]))] H := hP
  have hD : va_D A [(h0, .inr (0, [.ref a0, .ref a1, .ref a2, .ref a3, .ref a4, .int 0, .int sf, .int v, .int n1, .int n2, .int n3]))] := hD
  have hP9 := hP.sub (ws' := []) [] rfl
  have hD9 := hD.sub (ws' := []) [] (by decide) rfl
  have hK9 := hK.sub (tys' := []) [] rfl
  refine W.widen (k := 0) (n := 0) (Nat.le_of_ble_eq_true rfl) (Nat.le_of_ble_eq_true rfl) ?_
  exact W.vret hx hb hr (fun t ht hW => ⟨⟨(), rfl, trivial, by rw [ht]; exact hP9, va_K.moved hW.alike hK9, hD9⟩, hS.F ht⟩) hS.2.2 d_T_allow_5

set_option maxHeartbeats 4000000 in
set_option maxRecDepth 100000 in
theorem c_T_state_0 (l : Launch) (dC : Nat → ClassId) (dI : Nat → Nat → Nat) (h0 a0 a1 a2 a3 a4 ok er eo ew ek nw9 : Nat) (x : Int32) : Met l y_T_state (tbw y_T_state b_T_state 2 (some .int)) ({ frames := 1, cells := 0, slots := 0, locals := 20 }) (va_Pc [.ref h0, .int x] (fun U => va_P (dC, dI) classes [(h0, .inr (0, [.ref a0, .ref a1, .ref a2, .ref a3, .ref a4, .int 0, .int 0, .int 0, .int 0, .int 0, .int 0])), (a4, .inr (5, [.ref ok, .int 0])), (a2, .inr (3, [.ref er, .int 0, .int 0, .int 0, .int 0, .int 0, .int 0, .ref eo, .ref ew, .int 0])), (eo, .inr (5, [.ref ek, .int 0])), (a3, .inr (4, [.ref nw9, .int 0]))] U.heap ∧ va_K (dC, dI) classes [] U)) (vp_Si (fun r => r = stF x)) 0 0 (fun _ => False) := by
  refine Met.ofW (cc := b_T_state) (maxL := 2) (ret := (some .int)) (by decide) rfl ?_
  intro p e s m args below meth c s₁ B hml hv
  obtain ⟨rfl, hP, hK⟩ := hv
  have hx := B.exec
  have hb := B.bytes
  have hr := B.returns
  have hts := atoms_spec (ws := (tbw y_T_state b_T_state 2 (some .int))) B.pre
  have hw : ∀ z9 ∈ tb, z9.before ([.ref h0, .int x] : List Value).toArray s = true := fun z9 h => hts z9 (List.mem_cons_of_mem _ h)
  have hown : s.vm.findClass "VotedTriple" = some m.cls := findClass_of_methodNamed B.named
  have hlocks := B.notSynchronized
  have hl := lv_entry ([.ref h0, .int x]) (n := 2) (Nat.le_of_ble_eq_true rfl)
  rw [lg_entry_eq]
  generalize (lg_sl ([.ref h0, .int x]) ++ List.replicate (2 - (lg_sl ([.ref h0, .int x])).length) Slot.unset).toArray = ls at hl ⊢
  have hl : lv_has ls 2 [(0, .ref h0), (1, .int x)] := hl
  refine lv_iload_n hx hb d_T_state_0 rfl (lv_at hl 1 rfl) ?_
  rcases sw6 (x) with hs1 | hs1 | hs1 | hs1 | hs1 | hs1 | hs1 | hs1
  · refine lv_tableIn (off := 43) (tgt := 44) hx hb d_T_state_1 (by rw [hs1]; decide) (by rw [hs1]; decide) (by rw [hs1]; decide) rfl ?_
    refine lv_aload_n hx hb d_T_state_44 rfl (lv_at hl 0 rfl) ?_
    have hPc := hP.sub (ws' := [(h0, .inr (0, [.ref a0, .ref a1, .ref a2, .ref a3, .ref a4, .int 0, .int 0, .int 0, .int 0, .int 0, .int 0]))]) [0] rfl
    have hKc := hK.sub (tys' := []) [] rfl
    refine vp_callSi (va_runV (C := "VotedTriple") (As := []) (rest := []) ⟨hx, hb, hml, hown, hw⟩ (c_T_currentMode_0 l dC dI h0 a0 a1 a2 a3 a4 0 0 0 0 0) (cwV 0 hw (gdV (k_383) (k_380) (k_382) (ks_3) (k_1)) rfl rfl rfl (by decide +kernel) ⟨Nat.le_of_ble_eq_true rfl, Nat.le_of_ble_eq_true rfl⟩) ⟨fun a U g mk q => ⟨q.1, q.2.1, va_K.moved (u := U) (U := U.calling g mk a) (Vm.Alike.refl U.vm) q.2.2⟩, va_recv hK hP rfl (q0 := 0) rfl, fun U hU hW => ⟨rfl, by rw [hU]; exact hPc, va_K.moved hW.alike hKc⟩⟩ rfl rfl hl.1 rfl (lv_room (Nat.le_of_ble_eq_true rfl)) d_T_state_45 ⟨Nat.le_of_ble_eq_true rfl, Nat.le_of_ble_eq_true rfl⟩).run (fun r2 hr3 => ?_)
    subst hr3
    exact W.iret (v := (-1)) hx hb hr (fun t ht _ => ⟨_, rfl, (by rw [hs1]; decide), ht⟩) (fun _ h => by cases h) d_T_state_48
  · refine lv_tableIn (off := 48) (tgt := 49) hx hb d_T_state_1 (by rw [hs1]; decide) (by rw [hs1]; decide) (by rw [hs1]; decide) rfl ?_
    refine lv_aload_n hx hb d_T_state_49 rfl (lv_at hl 0 rfl) ?_
    refine va_get (D := (dC, dI)) (ci := 0) (v := .int 0) (C := "VotedTriple") (T := F_T) (N := 11) hx hb hw in_T hown hK hP 0 rfl rfl 8 (by decide) (hw _ k_202) (fun _ h9 => h9) rfl d_T_state_50 ?_
    exact W.iret (v := 0) hx hb hr (fun t ht _ => ⟨_, rfl, (by rw [hs1]; decide), ht⟩) (fun _ h => by cases h) d_T_state_53
  · refine lv_tableIn (off := 53) (tgt := 54) hx hb d_T_state_1 (by rw [hs1]; decide) (by rw [hs1]; decide) (by rw [hs1]; decide) rfl ?_
    refine lv_aload_n hx hb d_T_state_54 rfl (lv_at hl 0 rfl) ?_
    refine va_get (D := (dC, dI)) (ci := 0) (v := .int 0) (C := "VotedTriple") (T := F_T) (N := 11) hx hb hw in_T hown hK hP 0 rfl rfl 9 (by decide) (hw _ k_203) (fun _ h9 => h9) rfl d_T_state_55 ?_
    exact W.iret (v := 0) hx hb hr (fun t ht _ => ⟨_, rfl, (by rw [hs1]; decide), ht⟩) (fun _ h => by cases h) d_T_state_58
  · refine lv_tableIn (off := 58) (tgt := 59) hx hb d_T_state_1 (by rw [hs1]; decide) (by rw [hs1]; decide) (by rw [hs1]; decide) rfl ?_
    refine lv_aload_n hx hb d_T_state_59 rfl (lv_at hl 0 rfl) ?_
    refine va_get (D := (dC, dI)) (ci := 0) (v := .ref a4) (C := "VotedTriple") (T := F_T) (N := 11) hx hb hw in_T hown hK hP 0 rfl rfl 4 (by decide) (hw _ k_198) (fun _ h9 => h9) rfl d_T_state_60 ?_
    refine va_get (D := (dC, dI)) (ci := 5) (v := .int 0) (C := "VotedTriple$WordsOut") (T := F_O) (N := 2) hx hb hw in_O hown hK hP 1 rfl rfl 1 (by decide) (hw _ k_60) (fun _ h9 => h9) rfl d_T_state_63 ?_
    exact W.iret (v := 0) hx hb hr (fun t ht _ => ⟨_, rfl, (by rw [hs1]; decide), ht⟩) (fun _ h => by cases h) d_T_state_66
  · refine lv_tableIn (off := 66) (tgt := 67) hx hb d_T_state_1 (by rw [hs1]; decide) (by rw [hs1]; decide) (by rw [hs1]; decide) rfl ?_
    refine lv_aload_n hx hb d_T_state_67 rfl (lv_at hl 0 rfl) ?_
    refine va_get (D := (dC, dI)) (ci := 0) (v := .ref a2) (C := "VotedTriple") (T := F_T) (N := 11) hx hb hw in_T hown hK hP 0 rfl rfl 2 (by decide) (hw _ k_196) (fun _ h9 => h9) rfl d_T_state_68 ?_
    refine va_get (D := (dC, dI)) (ci := 3) (v := .ref eo) (C := "VotedTriple$PerfectOne") (T := F_E) (N := 10) hx hb hw in_E hown hK hP 2 rfl rfl 7 (by decide) (hw _ k_67) (fun _ h9 => h9) rfl d_T_state_71 ?_
    refine va_get (D := (dC, dI)) (ci := 5) (v := .int 0) (C := "VotedTriple$WordsOut") (T := F_O) (N := 2) hx hb hw in_O hown hK hP 3 rfl rfl 1 (by decide) (hw _ k_60) (fun _ h9 => h9) rfl d_T_state_74 ?_
    exact W.iret (v := 0) hx hb hr (fun t ht _ => ⟨_, rfl, (by rw [hs1]; decide), ht⟩) (fun _ h => by cases h) d_T_state_77
  · refine lv_tableIn (off := 77) (tgt := 78) hx hb d_T_state_1 (by rw [hs1]; decide) (by rw [hs1]; decide) (by rw [hs1]; decide) rfl ?_
    refine lv_aload_n hx hb d_T_state_78 rfl (lv_at hl 0 rfl) ?_
    refine va_get (D := (dC, dI)) (ci := 0) (v := .ref a3) (C := "VotedTriple") (T := F_T) (N := 11) hx hb hw in_T hown hK hP 0 rfl rfl 3 (by decide) (hw _ k_197) (fun _ h9 => h9) rfl d_T_state_79 ?_
    refine va_get (D := (dC, dI)) (ci := 4) (v := .int 0) (C := "VotedTriple$WordsIn") (T := F_N) (N := 2) hx hb hw in_N hown hK hP 4 rfl rfl 1 (by decide) (hw _ k_127) (fun _ h9 => h9) rfl d_T_state_82 ?_
    refine lv_aload_n hx hb d_T_state_85 rfl (lv_at hl 0 rfl) ?_
    refine va_get (D := (dC, dI)) (ci := 0) (v := .int 0) (C := "VotedTriple") (T := F_T) (N := 11) hx hb hw in_T hown hK hP 0 rfl rfl 10 (by decide) (hw _ k_204) (fun _ h9 => h9) rfl d_T_state_86 ?_
    refine lv_isub hx hb d_T_state_89 ?_
    exact W.iret (v := (0 - 0)) hx hb hr (fun t ht _ => ⟨_, rfl, (by rw [hs1]; decide), ht⟩) (fun _ h => by cases h) d_T_state_90
  · refine lv_tableIn (off := 90) (tgt := 91) hx hb d_T_state_1 (by rw [hs1]; decide) (by rw [hs1]; decide) (by rw [hs1]; decide) rfl ?_
    refine lv_aload_n hx hb d_T_state_91 rfl (lv_at hl 0 rfl) ?_
    refine va_get (D := (dC, dI)) (ci := 0) (v := .int 0) (C := "VotedTriple") (T := F_T) (N := 11) hx hb hw in_T hown hK hP 0 rfl rfl 7 (by decide) (hw _ k_201) (fun _ h9 => h9) rfl d_T_state_92 ?_
    refine lv_if_eq (tgt := 102) hx hb d_T_state_95 rfl (fun hc4 => ?_) (fun hc4 => by first | exact absurd (by decide) hc4 | exact absurd hc4 (by decide))
    refine lv_iconst (v := 0) hx hb d_T_state_102 (by decide) ?_
    exact W.iret (v := 0) hx hb hr (fun t ht _ => ⟨_, rfl, (by rw [hs1]; decide), ht⟩) (fun _ h => by cases h) d_T_state_103
  · refine lv_tableOut (tgt := 104) hx hb d_T_state_1 hs1 rfl ?_
    refine lv_iconst (v := (-1)) hx hb d_T_state_104 (by decide) ?_
    exact W.iret (v := (-1)) hx hb hr (fun t ht _ => ⟨_, rfl, (by rw [stF_out hs1]), ht⟩) (fun _ h => by cases h) d_T_state_105
