set_option maxHeartbeats 4000000 in
set_option maxRecDepth 100000 in
theorem c_P_put (l : Launch) (dC : Nat → ClassId) (dI : Nat → Nat → Nat) (h0 q : Nat) (cA : ClassId) (cn : Nat) (f : Nat → Int32) (i w : Int32) (hc : prI cn f) (sz : Nat) : Met l y_P_put (tbw y_P_put b_P_put 3 (some .boolean)) ({ frames := 2, cells := 0, slots := 0, locals := 40 }) (va_Pc [.ref h0, .int i, .int w] (fun U => U.heap.size = sz ∧ va_P (dC, dI) classes [(h0, .inr (1, [.ref q, .int (nI cn)])), (q, .inl (cA, 64, .inl f))] U.heap ∧ va_K (dC, dI) classes [(cA, .int)] U ∧ va_D (fun _ => True) [(h0, .inr (1, [.ref q, .int (nI cn)])), (q, .inl (cA, 64, .inl f))])) (va_Qi (fun (r : Int32) (u9 : Nat × (Nat → Int32)) => match u9 with | (cn2, f2) => (r = bI (putB cn i w) ∧ cn2 = pN (putB cn i w) cn i ∧ f2 = pF (putB cn i w) f i w) ∧ (r, cn2, f2) = s_P_put cn f i w) (fun (u9 : Nat × (Nat → Int32)) t => match u9 with | (cn2, f2) => va_P (dC, dI) classes [(h0, .inr (1, [.ref q, .int (nI cn2)])), (q, .inl (cA, 64, .inl f2))] t.heap ∧ va_K (dC, dI) classes [(cA, .int)] t ∧ va_D (va_A [(h0, .inr (1, [.ref q, .int (nI cn)])), (q, .inl (cA, 64, .inl f))] sz) [(h0, .inr (1, [.ref q, .int (nI cn2)])), (q, .inl (cA, 64, .inl f2))]) (va_A [(h0, .inr (1, [.ref q, .int (nI cn)])), (q, .inl (cA, 64, .inl f))] sz)) 0 0 (va_A [(h0, .inr (1, [.ref q, .int (nI cn)])), (q, .inl (cA, 64, .inl f))] sz) := by
  refine Met.ofW (cc := b_P_put) (maxL := 3) (ret := (some .boolean)) (by decide) rfl ?_
  intro p e s m args below meth c s₁ B hml hv
  obtain ⟨rfl, hsz, hP, hK, hD0⟩ := hv
  have hx := B.exec
  have hb := B.bytes
  have hr := B.returns
  have hts := atoms_spec (ws := (tbw y_P_put b_P_put 3 (some .boolean))) B.pre
  have hw : ∀ z9 ∈ tb, z9.before ([.ref h0, .int i, .int w] : List Value).toArray s = true := fun z9 h => hts z9 (List.mem_cons_of_mem _ h)
  have hown : s.vm.findClass "VotedTriple$Program" = some m.cls := findClass_of_methodNamed B.named
  have hlocks := B.notSynchronized
  subst hsz
  replace hD := hD0.self (sz := s.heap.size)
  generalize hAe : va_A [(h0, .inr (1, [.ref q, .int (nI cn)])), (q, .inl (cA, 64, .inl f))] s.heap.size = A at hD ⊢
  have hA : ∀ q : Nat, s.heap.size ≤ q → A q := fun q h => by rw [← hAe]; exact Or.inr h
  have hS : va_S A s.heap s.heap [] := va_S.rf
  replace hl := lv_entry ([.ref h0, .int i, .int w]) (n := 3) (Nat.le_of_ble_eq_true rfl)
  rw [lg_entry_eq]
  generalize (lg_sl ([.ref h0, .int i, .int w]) ++ List.replicate (3 - (lg_sl ([.ref h0, .int i, .int w])).length) Slot.unset).toArray = ls at hl ⊢
  replace hl : lv_has ls 3 [(0, .ref h0), (1, .int i), (2, .int w)] := hl
  generalize hSP : s_P_put cn f i w = SP
  refine lv_iload_n hx hb d_P_put_0 rfl (lv_at hl 1 rfl) ?_
  refine lv_if_lt (tgt := 25) hx hb d_P_put_1 rfl (fun hc1 => ?_) (fun hc1 => ?_)
  · --  i < 0
    refine lv_iconst (v := 0) hx hb d_P_put_25 (by decide) ?_
    have b9 : putB cn i w = false := by simp [putB, hc1]
    have hP9 := hP.sub (ws' := [(h0, .inr (1, [.ref q, .int (nI cn)])), (q, .inl (cA, 64, .inl f))]) [0, 1] rfl
    have hD9 := hD.sub (ws' := [(h0, .inr (1, [.ref q, .int (nI cn)])), (q, .inl (cA, 64, .inl f))]) [0, 1] (by decide) rfl
    have hK9 := hK.sub (tys' := [(cA, .int)]) [0] rfl
    refine W.widen (k := 0) (n := 0) (Nat.le_of_ble_eq_true rfl) (Nat.le_of_ble_eq_true rfl) ?_
    exact W.zret (v := 0) (ty := .boolean) hx hb hr rfl (fun t ht hW => ⟨⟨_, (cn, f), rfl, ⟨⟨by rw [b9]; rfl, by rw [b9]; simp [pN], by rw [b9]; rfl⟩, (by rw [← hSP, s_P_put]; try (rw [if_pos hc1]); all_goals rfl)⟩, by rw [ht]; exact hP9, va_K.moved hW.alike hK9, hD9⟩, hS.F ht⟩) hS.2.2 d_P_put_26
  · --  ¬ i < 0
    refine lv_iload_n hx hb d_P_put_4 rfl (lv_at hl 1 rfl) ?_
    refine lv_aload_n hx hb d_P_put_5 rfl (lv_at hl 0 rfl) ?_
    refine va_get (D := (dC, dI)) (ci := 1) (v := .int (nI cn)) (C := "VotedTriple$Program") (T := F_P) (N := 2) hx hb hw in_P hown hK hP 0 rfl rfl 1 (by decide) (hw _ k_33) (fun _ h9 => h9) rfl d_P_put_6 ?_
    refine lv_icmp_gt (tgt := 25) hx hb d_P_put_9 rfl (fun hc2 => ?_) (fun hc2 => ?_)
    · --  (nI cn) < i
      refine lv_iconst (v := 0) hx hb d_P_put_25 (by decide) ?_
      have b9 : putB cn i w = false := by simp [putB, hc1, hc2]
      have hP9 := hP.sub (ws' := [(h0, .inr (1, [.ref q, .int (nI cn)])), (q, .inl (cA, 64, .inl f))]) [0, 1] rfl
      have hD9 := hD.sub (ws' := [(h0, .inr (1, [.ref q, .int (nI cn)])), (q, .inl (cA, 64, .inl f))]) [0, 1] (by decide) rfl
      have hK9 := hK.sub (tys' := [(cA, .int)]) [0] rfl
      refine W.widen (k := 0) (n := 0) (Nat.le_of_ble_eq_true rfl) (Nat.le_of_ble_eq_true rfl) ?_
      exact W.zret (v := 0) (ty := .boolean) hx hb hr rfl (fun t ht hW => ⟨⟨_, (cn, f), rfl, ⟨⟨by rw [b9]; rfl, by rw [b9]; simp [pN], by rw [b9]; rfl⟩, (by rw [← hSP, s_P_put]; try (rw [if_neg hc1]); try (rw [if_pos hc2]); all_goals rfl)⟩, by rw [ht]; exact hP9, va_K.moved hW.alike hK9, hD9⟩, hS.F ht⟩) hS.2.2 d_P_put_26
    · --  ¬ (nI cn) < i
      refine lv_iload_n hx hb d_P_put_12 rfl (lv_at hl 1 rfl) ?_
      refine lv_bipush (v := 64) hx hb d_P_put_13 (by decide) ?_
      refine lv_icmp_ge (tgt := 25) hx hb d_P_put_15 rfl (fun hc3 => ?_) (fun hc3 => ?_)
      · --  64 ≤ i
        refine lv_iconst (v := 0) hx hb d_P_put_25 (by decide) ?_
        have b9 : putB cn i w = false := by simp [putB, hc1, hc2, hc3]
        have hP9 := hP.sub (ws' := [(h0, .inr (1, [.ref q, .int (nI cn)])), (q, .inl (cA, 64, .inl f))]) [0, 1] rfl
        have hD9 := hD.sub (ws' := [(h0, .inr (1, [.ref q, .int (nI cn)])), (q, .inl (cA, 64, .inl f))]) [0, 1] (by decide) rfl
        have hK9 := hK.sub (tys' := [(cA, .int)]) [0] rfl
        refine W.widen (k := 0) (n := 0) (Nat.le_of_ble_eq_true rfl) (Nat.le_of_ble_eq_true rfl) ?_
        exact W.zret (v := 0) (ty := .boolean) hx hb hr rfl (fun t ht hW => ⟨⟨_, (cn, f), rfl, ⟨⟨by rw [b9]; rfl, by rw [b9]; simp [pN], by rw [b9]; rfl⟩, (by rw [← hSP, s_P_put]; try (rw [if_neg hc1]); try (rw [if_neg hc2]); try (rw [if_pos hc3]); all_goals rfl)⟩, by rw [ht]; exact hP9, va_K.moved hW.alike hK9, hD9⟩, hS.F ht⟩) hS.2.2 d_P_put_26
      · --  ¬ 64 ≤ i
        refine lv_iload_n hx hb d_P_put_18 rfl (lv_at hl 2 rfl) ?_
        refine vp_callSi (va_runS (As := [.int w]) (rest := []) ⟨hx, hb, hml, hown, hw⟩ (c_P_isInstruction l dC dI w) (va_cwS 1 hw (gdS (k_238) (k_236) (k_237) (k_2)) rfl rfl rfl (by decide +kernel) ⟨Nat.le_of_ble_eq_true rfl, Nat.le_of_ble_eq_true rfl⟩) ⟨fun _ _ _ _ q => q, fun _ _ _ => ⟨rfl, trivial⟩⟩ rfl rfl hl.1 rfl (lv_room (Nat.le_of_ble_eq_true rfl)) d_P_put_19 ⟨Nat.le_of_ble_eq_true rfl, Nat.le_of_ble_eq_true rfl⟩).run (fun r4 hr5 => ?_)
        subst hr5
        refine lv_if_ne (tgt := 27) hx hb d_P_put_22 rfl (fun hc6 => ?_) (fun hc6 => ?_)
        · --  ¬ (bI (isIn w)) = 0
          refine lv_aload_n hx hb d_P_put_27 rfl (lv_at hl 0 rfl) ?_
          refine va_get (D := (dC, dI)) (ci := 1) (v := .ref q) (C := "VotedTriple$Program") (T := F_P) (N := 2) hx hb hw in_P hown hK hP 0 rfl rfl 0 (by decide) (hw _ k_32) (fun _ h9 => h9) rfl d_P_put_28 ?_
          refine lv_iload_n hx hb d_P_put_31 rfl (lv_at hl 1 rfl) ?_
          refine lv_iload_n hx hb d_P_put_32 rfl (lv_at hl 2 rfl) ?_
          refine va_iast hx hb hK hP hD hS 1 0 rfl rfl (in_of (N := 64) rfl hc1 hc3) d_P_put_33 (fun H locs hP hD hS => ?_)
          replace hP : va_P (dC, dI) classes [(h0, .inr (1, [.ref q, .int (nI cn)])), (q, .inl (cA, 64, .inl (upd f (Int32.toNatClampNeg i) w)))] H := hP
          replace hD : va_D A [(h0, .inr (1, [.ref q, .int (nI cn)])), (q, .inl (cA, 64, .inl (upd f (Int32.toNatClampNeg i) w)))] := hD
          refine lv_iload_n hx hb d_P_put_34 rfl (lv_at hl 1 rfl) ?_
          refine lv_aload_n hx hb d_P_put_35 rfl (lv_at hl 0 rfl) ?_
          refine va_get (D := (dC, dI)) (ci := 1) (v := .int (nI cn)) (C := "VotedTriple$Program") (T := F_P) (N := 2) hx hb hw in_P hown hK hP 0 rfl rfl 1 (by decide) (hw _ k_33) (fun _ h9 => h9) rfl d_P_put_36 ?_
          refine lv_icmp_ne (tgt := 52) hx hb d_P_put_39 rfl (fun hc7 => ?_) (fun hc7 => ?_)
          · --  ¬ i = (nI cn)
            refine lv_iconst (v := 1) hx hb d_P_put_52 (by decide) ?_
            have b9 : putB cn i w = true := by simp [putB, hc1, hc2, hc3, bI_t hc6]
            have hP9 := hP.sub (ws' := [(h0, .inr (1, [.ref q, .int (nI cn)])), (q, .inl (cA, 64, .inl (upd f (Int32.toNatClampNeg i) w)))]) [0, 1] rfl
            have hD9 := hD.sub (ws' := [(h0, .inr (1, [.ref q, .int (nI cn)])), (q, .inl (cA, 64, .inl (upd f (Int32.toNatClampNeg i) w)))]) [0, 1] (by decide) rfl
            have hK9 := hK.sub (tys' := [(cA, .int)]) [0] rfl
            refine W.widen (k := 0) (n := 0) (Nat.le_of_ble_eq_true rfl) (Nat.le_of_ble_eq_true rfl) ?_
            exact W.zret (v := 1) (ty := .boolean) hx hb hr rfl (fun t ht hW => ⟨⟨_, (cn, upd f (Int32.toNatClampNeg i) w), rfl, ⟨⟨by rw [b9]; rfl, by rw [b9]; simp [pN, hc7], by rw [b9]; rfl⟩, (by rw [← hSP, s_P_put]; try (rw [if_neg hc1]); try (rw [if_neg hc2]); try (rw [if_neg hc3]); try (rw [if_neg hc6]); try (rw [if_neg hc7]); all_goals rfl)⟩, by rw [ht]; exact hP9, va_K.moved hW.alike hK9, hD9⟩, hS.F ht⟩) hS.2.2 d_P_put_53
          · --  i = (nI cn)
            refine lv_aload_n hx hb d_P_put_42 rfl (lv_at hl 0 rfl) ?_
            refine lv_dup hx hb d_P_put_43 rfl ?_
            refine va_get (D := (dC, dI)) (ci := 1) (v := .int (nI cn)) (C := "VotedTriple$Program") (T := F_P) (N := 2) hx hb hw in_P hown hK hP 0 rfl rfl 1 (by decide) (hw _ k_33) (fun _ h9 => h9) rfl d_P_put_44 ?_
            refine lv_iconst (v := 1) hx hb d_P_put_47 (by decide) ?_
            refine lv_iadd hx hb d_P_put_48 ?_
            rw [nI_1 cn]
            refine va_put (D := (dC, dI)) (ci := 1) (v := .int (nI (cn + 1))) (ty := .int) (C := "VotedTriple$Program") (T := F_P) (N := 2) hx hb hw in_P ft_P tyok_P nm_P hown hK hP hD hS 0 rfl rfl 1 (by decide) (hw _ k_33) (fun _ h9 => h9) rfl (by decide +kernel) rfl rfl (Nat.le_of_ble_eq_true rfl) d_P_put_49 (fun H locs hP hD hS => ?_)
            replace hP : va_P (dC, dI) classes [(h0, .inr (1, [.ref q, .int (nI (cn + 1))])), (q, .inl (cA, 64, .inl (upd f (Int32.toNatClampNeg i) w)))] H := hP
            replace hD : va_D A [(h0, .inr (1, [.ref q, .int (nI (cn + 1))])), (q, .inl (cA, 64, .inl (upd f (Int32.toNatClampNeg i) w)))] := hD
            refine lv_iconst (v := 1) hx hb d_P_put_52 (by decide) ?_
            have b9 : putB cn i w = true := by simp [putB, hc1, hc2, hc3, bI_t hc6]
            have hP9 := hP.sub (ws' := [(h0, .inr (1, [.ref q, .int (nI (cn + 1))])), (q, .inl (cA, 64, .inl (upd f (Int32.toNatClampNeg i) w)))]) [0, 1] rfl
            have hD9 := hD.sub (ws' := [(h0, .inr (1, [.ref q, .int (nI (cn + 1))])), (q, .inl (cA, 64, .inl (upd f (Int32.toNatClampNeg i) w)))]) [0, 1] (by decide) rfl
            have hK9 := hK.sub (tys' := [(cA, .int)]) [0] rfl
            refine W.widen (k := 0) (n := 0) (Nat.le_of_ble_eq_true rfl) (Nat.le_of_ble_eq_true rfl) ?_
            exact W.zret (v := 1) (ty := .boolean) hx hb hr rfl (fun t ht hW => ⟨⟨_, (cn + 1, upd f (Int32.toNatClampNeg i) w), rfl, ⟨⟨by rw [b9]; rfl, by rw [b9]; simp [pN, hc7], by rw [b9]; rfl⟩, (by rw [← hSP, s_P_put]; try (rw [if_neg hc1]); try (rw [if_neg hc2]); try (rw [if_neg hc3]); try (rw [if_neg hc6]); try (rw [if_pos hc7]); all_goals rfl)⟩, by rw [ht]; exact hP9, va_K.moved hW.alike hK9, hD9⟩, hS.F ht⟩) hS.2.2 d_P_put_53
        · --  (bI (isIn w)) = 0
          refine lv_iconst (v := 0) hx hb d_P_put_25 (by decide) ?_
          have b9 : putB cn i w = false := by simp [putB, hc1, hc2, hc3, bI_f hc6]
          have hP9 := hP.sub (ws' := [(h0, .inr (1, [.ref q, .int (nI cn)])), (q, .inl (cA, 64, .inl f))]) [0, 1] rfl
          have hD9 := hD.sub (ws' := [(h0, .inr (1, [.ref q, .int (nI cn)])), (q, .inl (cA, 64, .inl f))]) [0, 1] (by decide) rfl
          have hK9 := hK.sub (tys' := [(cA, .int)]) [0] rfl
          refine W.widen (k := 0) (n := 0) (Nat.le_of_ble_eq_true rfl) (Nat.le_of_ble_eq_true rfl) ?_
          exact W.zret (v := 0) (ty := .boolean) hx hb hr rfl (fun t ht hW => ⟨⟨_, (cn, f), rfl, ⟨⟨by rw [b9]; rfl, by rw [b9]; simp [pN], by rw [b9]; rfl⟩, (by rw [← hSP, s_P_put]; try (rw [if_neg hc1]); try (rw [if_neg hc2]); try (rw [if_neg hc3]); try (rw [if_pos hc6]); all_goals rfl)⟩, by rw [ht]; exact hP9, va_K.moved hW.alike hK9, hD9⟩, hS.F ht⟩) hS.2.2 d_P_put_26

set_option maxHeartbeats 4000000 in
set_option maxRecDepth 100000 in
theorem c_P_canRun (l : Launch) (dC : Nat → ClassId) (dI : Nat → Nat → Nat) (h0 q : Nat) (cA : ClassId) (cn : Nat) (f : Nat → Int32) (hc : prI cn f) : Met l y_P_canRun (tbw y_P_canRun b_P_canRun 3 (some .boolean)) ({ frames := 1, cells := 0, slots := 0, locals := 20 }) (va_Pc [.ref h0] (fun U => va_P (dC, dI) classes [(h0, .inr (1, [.ref q, .int (nI cn)])), (q, .inl (cA, 64, .inl f))] U.heap ∧ va_K (dC, dI) classes [(cA, .int)] U)) (vp_Si (fun r => r = bI (crB cn f))) 0 0 (fun _ => False) := by
  refine Met.ofW (cc := b_P_canRun) (maxL := 3) (ret := (some .boolean)) (by decide) rfl ?_
  intro p e s m args below meth c s₁ B hml hv
  obtain ⟨rfl, hP, hK⟩ := hv
  have hx := B.exec
  have hb := B.bytes
  have hr := B.returns
  have hts := atoms_spec (ws := (tbw y_P_canRun b_P_canRun 3 (some .boolean))) B.pre
  have hw : ∀ z9 ∈ tb, z9.before ([.ref h0] : List Value).toArray s = true := fun z9 h => hts z9 (List.mem_cons_of_mem _ h)
  have hown : s.vm.findClass "VotedTriple$Program" = some m.cls := findClass_of_methodNamed B.named
  have hlocks := B.notSynchronized
  replace hl := lv_entry ([.ref h0]) (n := 3) (Nat.le_of_ble_eq_true rfl)
  rw [lg_entry_eq]
  generalize (lg_sl ([.ref h0]) ++ List.replicate (3 - (lg_sl ([.ref h0])).length) Slot.unset).toArray = ls at hl ⊢
  replace hl : lv_has ls 3 [(0, .ref h0)] := hl
  have loop : ∀ (n9 : Nat) (i : Nat) (ls : Array Slot), i + n9 = cn → (∀ j, j < i → bad cn (f j) = false) →  lv_has ls 3 [(0, .ref h0), (1, .int (nI i))] → W p l e (headSpec (tbw y_P_canRun b_P_canRun 3 (some .boolean)) ({ frames := 1, cells := 0, slots := 0, locals := 20 })).room s m ([.ref h0] : List Value).toArray below meth c s.heap [] 0 0 (MQ below (vp_Si (fun r => r = bI (crB cn f))) ([.ref h0] : List Value).toArray s 0 0 (fun _ => False)) (F0 m 2 ls []) := by
    intro n9
    induction n9 with
    | zero =>
      intro i ls hn9 hall hl
      refine lv_iload_n hx hb d_P_canRun_2 rfl (lv_at hl 1 rfl) ?_
      refine lv_aload_n hx hb d_P_canRun_3 rfl (lv_at hl 0 rfl) ?_
      refine va_get (D := (dC, dI)) (ci := 1) (v := .int (nI cn)) (C := "VotedTriple$Program") (T := F_P) (N := 2) hx hb hw in_P hown hK hP 0 rfl rfl 1 (by decide) (hw _ k_33) (fun _ h9 => h9) rfl d_P_canRun_4 ?_
      refine lv_icmp_ge (tgt := 56) hx hb d_P_canRun_7 rfl (fun hc1 => ?_) (fun hc1 => by first | exact absurd (by rw [show i = cn by omega]; exact Int32.le_refl _) hc1 | exact absurd hc1 (by rw [show i = cn by omega]; exact Int32.le_refl _))
      refine lv_aload_n hx hb d_P_canRun_56 rfl (lv_at hl 0 rfl) ?_
      refine va_get (D := (dC, dI)) (ci := 1) (v := .int (nI cn)) (C := "VotedTriple$Program") (T := F_P) (N := 2) hx hb hw in_P hown hK hP 0 rfl rfl 1 (by decide) (hw _ k_33) (fun _ h9 => h9) rfl d_P_canRun_57 ?_
      refine lv_if_le (tgt := 67) hx hb d_P_canRun_60 rfl (fun hc2 => ?_) (fun hc2 => ?_)
      · --  (nI cn) ≤ 0
        refine lv_iconst (v := 0) hx hb d_P_canRun_67 (by decide) ?_
        have b9 := crB_t (cn := cn) (f := f) (fun j hj => hall j (by omega))
        exact W.zret (v := 0) (ty := .boolean) hx hb hr rfl (fun t ht _ => ⟨_, rfl, (by rw [b9, npos_nI hc.1 (by simpa using hc2)]; rfl), ht⟩) (fun _ h => by cases h) d_P_canRun_68
      · --  ¬ (nI cn) ≤ 0
        refine lv_iconst (v := 1) hx hb d_P_canRun_63 (by decide) ?_
        refine lv_goto (tgt := 68) hx hb d_P_canRun_64 rfl ?_
        have b9 := crB_t (cn := cn) (f := f) (fun j hj => hall j (by omega))
        exact W.zret (v := 1) (ty := .boolean) hx hb hr rfl (fun t ht _ => ⟨_, rfl, (by rw [b9, decide_eq_true (pos_nI hc.1 (by simpa using hc2))]; rfl), ht⟩) (fun _ h => by cases h) d_P_canRun_68
    | succ n9 ih =>
      intro i ls hn9 hall hl
      refine lv_iload_n hx hb d_P_canRun_2 rfl (lv_at hl 1 rfl) ?_
      refine lv_aload_n hx hb d_P_canRun_3 rfl (lv_at hl 0 rfl) ?_
      refine va_get (D := (dC, dI)) (ci := 1) (v := .int (nI cn)) (C := "VotedTriple$Program") (T := F_P) (N := 2) hx hb hw in_P hown hK hP 0 rfl rfl 1 (by decide) (hw _ k_33) (fun _ h9 => h9) rfl d_P_canRun_4 ?_
      refine lv_icmp_ge (tgt := 56) hx hb d_P_canRun_7 rfl (fun hc3 => by first | exact absurd hc3 (fun h9 => absurd ((nI_leI (by have := hc.1; omega) (by have := hc.1; omega)).mp h9) (by omega)) | exact absurd (fun h9 => absurd ((nI_leI (by have := hc.1; omega) (by have := hc.1; omega)).mp h9) (by omega)) hc3) (fun hc3 => ?_)
      refine lv_aload_n hx hb d_P_canRun_10 rfl (lv_at hl 0 rfl) ?_
      refine va_get (D := (dC, dI)) (ci := 1) (v := .ref q) (C := "VotedTriple$Program") (T := F_P) (N := 2) hx hb hw in_P hown hK hP 0 rfl rfl 0 (by decide) (hw _ k_32) (fun _ h9 => h9) rfl d_P_canRun_11 ?_
      refine lv_iload_n hx hb d_P_canRun_14 rfl (lv_at hl 1 rfl) ?_
      refine va_iald hx hb hK hP 1 0 rfl rfl (vp_in_nI (by have := hc.1; omega) (by decide)) d_P_canRun_15 ?_
      refine vp_callSi (va_runS (As := [.int (f (Int32.toNatClampNeg (nI i)))]) (rest := []) ⟨hx, hb, hml, hown, hw⟩ (c_P_opOf l dC dI (f (Int32.toNatClampNeg (nI i)))) (va_cwS 1 hw (gdS (k_241) (k_239) (k_240) (k_2)) rfl rfl rfl (by decide +kernel) ⟨Nat.le_of_ble_eq_true rfl, Nat.le_of_ble_eq_true rfl⟩) ⟨fun _ _ _ _ q => q, fun _ _ _ => ⟨rfl, trivial⟩⟩ rfl rfl hl.1 rfl (lv_room (Nat.le_of_ble_eq_true rfl)) d_P_canRun_16 ⟨Nat.le_of_ble_eq_true rfl, Nat.le_of_ble_eq_true rfl⟩).run (fun r4 hr5 => ?_)
      subst hr5
      refine lv_istore_n hx hb d_P_canRun_19 rfl hl (by decide) rfl (fun ls hl => ?_)
      replace hl : lv_has ls 3 [(2, .int (ush (f (Int32.toNatClampNeg (nI i))) 24)), (0, .ref h0), (1, .int (nI i))] := hl
      refine lv_iload_n hx hb d_P_canRun_20 rfl (lv_at hl 0 rfl) ?_
      refine lv_bipush (v := 7) hx hb d_P_canRun_21 (by decide) ?_
      refine lv_icmp_eq (tgt := 32) hx hb d_P_canRun_23 rfl (fun hc6 => ?_) (fun hc6 => ?_)
      · --  (ush (f (Int32.toNatClampNeg (nI i))) 24) = 7
        refine lv_aload_n hx hb d_P_canRun_32 rfl (lv_at hl 1 rfl) ?_
        refine va_get (D := (dC, dI)) (ci := 1) (v := .ref q) (C := "VotedTriple$Program") (T := F_P) (N := 2) hx hb hw in_P hown hK hP 0 rfl rfl 0 (by decide) (hw _ k_32) (fun _ h9 => h9) rfl d_P_canRun_33 ?_
        refine lv_iload_n hx hb d_P_canRun_36 rfl (lv_at hl 2 rfl) ?_
        refine va_iald hx hb hK hP 1 0 rfl rfl (vp_in_nI (by have := hc.1; omega) (by decide)) d_P_canRun_37 ?_
        refine vp_callSi (va_runS (As := [.int (f (Int32.toNatClampNeg (nI i)))]) (rest := []) ⟨hx, hb, hml, hown, hw⟩ (c_P_bOf l dC dI (f (Int32.toNatClampNeg (nI i)))) (va_cwS 1 hw (gdS (k_250) (k_248) (k_249) (k_2)) rfl rfl rfl (by decide +kernel) ⟨Nat.le_of_ble_eq_true rfl, Nat.le_of_ble_eq_true rfl⟩) ⟨fun _ _ _ _ q => q, fun _ _ _ => ⟨rfl, trivial⟩⟩ rfl rfl hl.1 rfl (lv_room (Nat.le_of_ble_eq_true rfl)) d_P_canRun_38 ⟨Nat.le_of_ble_eq_true rfl, Nat.le_of_ble_eq_true rfl⟩).run (fun r7 hr8 => ?_)
        subst hr8
        refine lv_aload_n hx hb d_P_canRun_41 rfl (lv_at hl 1 rfl) ?_
        refine va_get (D := (dC, dI)) (ci := 1) (v := .int (nI cn)) (C := "VotedTriple$Program") (T := F_P) (N := 2) hx hb hw in_P hown hK hP 0 rfl rfl 1 (by decide) (hw _ k_33) (fun _ h9 => h9) rfl d_P_canRun_42 ?_
        refine lv_icmp_lt (tgt := 50) hx hb d_P_canRun_45 rfl (fun hc9 => ?_) (fun hc9 => ?_)
        · --  (wB (f (Int32.toNatClampNeg (nI i)))) < (nI cn)
          refine lv_iinc (k := 2) (v := nI (i + 1)) hx hb d_P_canRun_50 hl rfl (nI_1 i) (by decide) rfl (fun ls hl => ?_)
          replace hl : lv_has ls 3 [(1, .int (nI (i + 1))), (2, .int (ush (f (Int32.toNatClampNeg (nI i))) 24)), (0, .ref h0)] := hl
          refine lv_goto (tgt := 2) hx hb d_P_canRun_53 rfl ?_
          replace hl := lv_sub hl (l' := [(0, .ref h0), (1, .int (nI (i + 1)))]) [2, 0] rfl
          exact ih (i + 1) _ (by omega) (bad_s hall (by have h9 := (bad_l hc9); rwa [nI_clamp (by have := hc.1; omega)] at h9)) hl
        · --  ¬ (wB (f (Int32.toNatClampNeg (nI i)))) < (nI cn)
          refine lv_iconst (v := 0) hx hb d_P_canRun_48 (by decide) ?_
          exact W.zret (v := 0) (ty := .boolean) hx hb hr rfl (fun t ht _ => ⟨_, rfl, (crB_f (i := i) (by omega) (by have h9 := (bad_7 hc6 (by simpa using hc9)); rwa [nI_clamp (by have := hc.1; omega)] at h9)), ht⟩) (fun _ h => by cases h) d_P_canRun_49
      · --  ¬ (ush (f (Int32.toNatClampNeg (nI i))) 24) = 7
        refine lv_iload_n hx hb d_P_canRun_26 rfl (lv_at hl 0 rfl) ?_
        refine lv_bipush (v := 8) hx hb d_P_canRun_27 (by decide) ?_
        refine lv_icmp_ne (tgt := 50) hx hb d_P_canRun_29 rfl (fun hc10 => ?_) (fun hc10 => ?_)
        · --  ¬ (ush (f (Int32.toNatClampNeg (nI i))) 24) = 8
          refine lv_iinc (k := 2) (v := nI (i + 1)) hx hb d_P_canRun_50 hl rfl (nI_1 i) (by decide) rfl (fun ls hl => ?_)
          replace hl : lv_has ls 3 [(1, .int (nI (i + 1))), (2, .int (ush (f (Int32.toNatClampNeg (nI i))) 24)), (0, .ref h0)] := hl
          refine lv_goto (tgt := 2) hx hb d_P_canRun_53 rfl ?_
          replace hl := lv_sub hl (l' := [(0, .ref h0), (1, .int (nI (i + 1)))]) [2, 0] rfl
          exact ih (i + 1) _ (by omega) (bad_s hall (by have h9 := (bad_f (cn := cn) hc6 hc10); rwa [nI_clamp (by have := hc.1; omega)] at h9)) hl
        · --  (ush (f (Int32.toNatClampNeg (nI i))) 24) = 8
          refine lv_aload_n hx hb d_P_canRun_32 rfl (lv_at hl 1 rfl) ?_
          refine va_get (D := (dC, dI)) (ci := 1) (v := .ref q) (C := "VotedTriple$Program") (T := F_P) (N := 2) hx hb hw in_P hown hK hP 0 rfl rfl 0 (by decide) (hw _ k_32) (fun _ h9 => h9) rfl d_P_canRun_33 ?_
          refine lv_iload_n hx hb d_P_canRun_36 rfl (lv_at hl 2 rfl) ?_
          refine va_iald hx hb hK hP 1 0 rfl rfl (vp_in_nI (by have := hc.1; omega) (by decide)) d_P_canRun_37 ?_
          refine vp_callSi (va_runS (As := [.int (f (Int32.toNatClampNeg (nI i)))]) (rest := []) ⟨hx, hb, hml, hown, hw⟩ (c_P_bOf l dC dI (f (Int32.toNatClampNeg (nI i)))) (va_cwS 1 hw (gdS (k_250) (k_248) (k_249) (k_2)) rfl rfl rfl (by decide +kernel) ⟨Nat.le_of_ble_eq_true rfl, Nat.le_of_ble_eq_true rfl⟩) ⟨fun _ _ _ _ q => q, fun _ _ _ => ⟨rfl, trivial⟩⟩ rfl rfl hl.1 rfl (lv_room (Nat.le_of_ble_eq_true rfl)) d_P_canRun_38 ⟨Nat.le_of_ble_eq_true rfl, Nat.le_of_ble_eq_true rfl⟩).run (fun r11 hr12 => ?_)
          subst hr12
          refine lv_aload_n hx hb d_P_canRun_41 rfl (lv_at hl 1 rfl) ?_
          refine va_get (D := (dC, dI)) (ci := 1) (v := .int (nI cn)) (C := "VotedTriple$Program") (T := F_P) (N := 2) hx hb hw in_P hown hK hP 0 rfl rfl 1 (by decide) (hw _ k_33) (fun _ h9 => h9) rfl d_P_canRun_42 ?_
          refine lv_icmp_lt (tgt := 50) hx hb d_P_canRun_45 rfl (fun hc13 => ?_) (fun hc13 => ?_)
          · --  (wB (f (Int32.toNatClampNeg (nI i)))) < (nI cn)
            refine lv_iinc (k := 2) (v := nI (i + 1)) hx hb d_P_canRun_50 hl rfl (nI_1 i) (by decide) rfl (fun ls hl => ?_)
            replace hl : lv_has ls 3 [(1, .int (nI (i + 1))), (2, .int (ush (f (Int32.toNatClampNeg (nI i))) 24)), (0, .ref h0)] := hl
            refine lv_goto (tgt := 2) hx hb d_P_canRun_53 rfl ?_
            replace hl := lv_sub hl (l' := [(0, .ref h0), (1, .int (nI (i + 1)))]) [2, 0] rfl
            exact ih (i + 1) _ (by omega) (bad_s hall (by have h9 := (bad_l hc13); rwa [nI_clamp (by have := hc.1; omega)] at h9)) hl
          · --  ¬ (wB (f (Int32.toNatClampNeg (nI i)))) < (nI cn)
            refine lv_iconst (v := 0) hx hb d_P_canRun_48 (by decide) ?_
            exact W.zret (v := 0) (ty := .boolean) hx hb hr rfl (fun t ht _ => ⟨_, rfl, (crB_f (i := i) (by omega) (by have h9 := (bad_8 hc10 (by simpa using hc13)); rwa [nI_clamp (by have := hc.1; omega)] at h9)), ht⟩) (fun _ h => by cases h) d_P_canRun_49
  refine lv_iconst (v := 0) hx hb d_P_canRun_0 (by decide) ?_
  refine lv_istore_n hx hb d_P_canRun_1 rfl hl (by decide) rfl (fun ls hl => ?_)
  replace hl : lv_has ls 3 [(1, .int 0), (0, .ref h0)] := hl
  replace hl := lv_sub hl (l' := [(0, .ref h0), (1, .int 0)]) [1, 0] rfl
  exact loop cn 0 _ (by omega) (fun j hj => absurd hj (Nat.not_lt_zero j)) hl

set_option maxHeartbeats 4000000 in
set_option maxRecDepth 100000 in
theorem c_T_program (l : Launch) (dC : Nat → ClassId) (dI : Nat → Nat → Nat) (h0 : Nat) (p9 : Nat) (a9 : Nat) (e9 : Nat) (n9 : Nat) (o9 : Nat) (q9 : Nat) (cp : ClassId) (uT : Nat → Int32) (cn : Nat) (f : Nat → Int32) (x : Int32) (y : Int32) (hc : prI cn f) (sz : Nat) : Met l y_T_program (tbw y_T_program b_T_program 3 (some .boolean)) ({ frames := 3, cells := 0, slots := 0, locals := 62 }) (va_Pc [.ref h0, .int x, .int y] (fun U => U.heap.size = sz ∧ va_P (dC, dI) classes [(h0, .inr (0, oT uT p9 a9 e9 n9 o9)), (p9, .inr (1, [.ref q9, .int (nI cn)])), (q9, .inl (cp, 64, .inl f))] U.heap ∧ va_K (dC, dI) classes [(cp, .int)] U ∧ va_D (fun _ => True) [(h0, .inr (0, oT uT p9 a9 e9 n9 o9)), (p9, .inr (1, [.ref q9, .int (nI cn)])), (q9, .inl (cp, 64, .inl f))])) (va_Qi (fun (r : Int32) (u9 : Nat × (Nat → Int32)) => match u9 with | (cn2, f2) => (r = bI (prB uT cn x y) ∧ prI cn2 f2 ∧ cn2 = pN (prB uT cn x y) cn x ∧ f2 = pF (prB uT cn x y) f x y) ∧ (r, cn2, f2) = s_T_program uT cn f x y) (fun (u9 : Nat × (Nat → Int32)) t => match u9 with | (cn2, f2) => va_P (dC, dI) classes [(h0, .inr (0, oT uT p9 a9 e9 n9 o9)), (p9, .inr (1, [.ref q9, .int (nI cn2)])), (q9, .inl (cp, 64, .inl f2))] t.heap ∧ va_K (dC, dI) classes [(cp, .int)] t ∧ va_D (va_A [(h0, .inr (0, oT uT p9 a9 e9 n9 o9)), (p9, .inr (1, [.ref q9, .int (nI cn)])), (q9, .inl (cp, 64, .inl f))] sz) [(h0, .inr (0, oT uT p9 a9 e9 n9 o9)), (p9, .inr (1, [.ref q9, .int (nI cn2)])), (q9, .inl (cp, 64, .inl f2))]) (va_A [(h0, .inr (0, oT uT p9 a9 e9 n9 o9)), (p9, .inr (1, [.ref q9, .int (nI cn)])), (q9, .inl (cp, 64, .inl f))] sz)) 0 0 (va_A [(h0, .inr (0, oT uT p9 a9 e9 n9 o9)), (p9, .inr (1, [.ref q9, .int (nI cn)])), (q9, .inl (cp, 64, .inl f))] sz) := by
  refine Met.ofW (cc := b_T_program) (maxL := 3) (ret := (some .boolean)) (by decide) rfl ?_
  intro p e s m args below meth c s₁ B hml hv
  obtain ⟨rfl, hsz, hP, hK, hD0⟩ := hv
  have hx := B.exec
  have hb := B.bytes
  have hr := B.returns
  have hts := atoms_spec (ws := (tbw y_T_program b_T_program 3 (some .boolean))) B.pre
  have hw : ∀ z9 ∈ tb, z9.before ([.ref h0, .int x, .int y] : List Value).toArray s = true := fun z9 h => hts z9 (List.mem_cons_of_mem _ h)
  have hown : s.vm.findClass "VotedTriple" = some m.cls := findClass_of_methodNamed B.named
  have hlocks := B.notSynchronized
  subst hsz
  replace hD := hD0.self (sz := s.heap.size)
  generalize hAe : va_A [(h0, .inr (0, oT uT p9 a9 e9 n9 o9)), (p9, .inr (1, [.ref q9, .int (nI cn)])), (q9, .inl (cp, 64, .inl f))] s.heap.size = A at hD ⊢
  have hA : ∀ q : Nat, s.heap.size ≤ q → A q := fun q h => by rw [← hAe]; exact Or.inr h
  have hS : va_S A s.heap s.heap [] := va_S.rf
  replace hl := lv_entry ([.ref h0, .int x, .int y]) (n := 3) (Nat.le_of_ble_eq_true rfl)
  rw [lg_entry_eq]
  generalize (lg_sl ([.ref h0, .int x, .int y]) ++ List.replicate (3 - (lg_sl ([.ref h0, .int x, .int y])).length) Slot.unset).toArray = ls at hl ⊢
  replace hl : lv_has ls 3 [(0, .ref h0), (1, .int x), (2, .int y)] := hl
  generalize hSP : s_T_program uT cn f x y = SP
  refine lv_aload_n hx hb d_T_program_0 rfl (lv_at hl 0 rfl) ?_
  refine va_get (D := (dC, dI)) (ci := 0) (v := .int (uT 5)) (C := "VotedTriple") (T := F_T) (N := 11) hx hb hw in_T hown hK hP 0 rfl rfl 5 (by decide) (hw _ k_199) (fun _ h9 => h9) rfl d_T_program_1 ?_
  refine lv_if_ne (tgt := 23) hx hb d_T_program_4 rfl (fun hc1 => ?_) (fun hc1 => ?_)
  · --  ¬ (uT 5) = 0
    refine lv_iconst (v := 0) hx hb d_T_program_23 (by decide) ?_
    have b9 : prB uT cn x y = false := by simp [prB, hc1]
    have hP9 := hP.sub (ws' := [(h0, .inr (0, oT uT p9 a9 e9 n9 o9)), (p9, .inr (1, [.ref q9, .int (nI cn)])), (q9, .inl (cp, 64, .inl f))]) [0, 1, 2] rfl
    have hD9 := hD.sub (ws' := [(h0, .inr (0, oT uT p9 a9 e9 n9 o9)), (p9, .inr (1, [.ref q9, .int (nI cn)])), (q9, .inl (cp, 64, .inl f))]) [0, 1, 2] (by decide) rfl
    have hK9 := hK.sub (tys' := [(cp, .int)]) [0] rfl
    refine W.widen (k := 0) (n := 0) (Nat.le_of_ble_eq_true rfl) (Nat.le_of_ble_eq_true rfl) ?_
    exact W.zret (v := 0) (ty := .boolean) hx hb hr rfl (fun t ht hW => ⟨⟨_, (cn, f), rfl, ⟨⟨by rw [b9]; rfl, hc, by rw [b9]; rfl, by rw [b9]; rfl⟩, (by rw [← hSP, s_T_program]; try (rw [if_neg hc1]); all_goals rfl)⟩, by rw [ht]; exact hP9, va_K.moved hW.alike hK9, hD9⟩, hS.F ht⟩) hS.2.2 d_T_program_24
  · --  (uT 5) = 0
    refine lv_aload_n hx hb d_T_program_7 rfl (lv_at hl 0 rfl) ?_
    refine va_get (D := (dC, dI)) (ci := 0) (v := .ref p9) (C := "VotedTriple") (T := F_T) (N := 11) hx hb hw in_T hown hK hP 0 rfl rfl 0 (by decide) (hw _ k_194) (fun _ h9 => h9) rfl d_T_program_8 ?_
    refine lv_iload_n hx hb d_T_program_11 rfl (lv_at hl 1 rfl) ?_
    refine lv_iload_n hx hb d_T_program_12 rfl (lv_at hl 2 rfl) ?_
    replace hPc := hP.sub (ws' := [(p9, .inr (1, [.ref q9, .int (nI cn)])), (q9, .inl (cp, 64, .inl f))]) [1, 2] rfl
    replace hKc := hK.sub (tys' := [(cp, .int)]) [0] rfl
    replace hDc := hD.sub (ws' := [(p9, .inr (1, [.ref q9, .int (nI cn)])), (q9, .inl (cp, 64, .inl f))]) [1, 2] (by decide) rfl
    replace hFc := va_free (wc := [(p9, .inr (1, [.ref q9, .int (nI cn)])), (q9, .inl (cp, 64, .inl f))]) hD hS hA [1, 2] rfl
    refine va_calli (va_runV (C := "VotedTriple$Program") (As := [.int x, .int y]) (rest := []) ⟨hx, hb, hml, hown, hw⟩ (c_P_put l dC dI p9 q9 cp cn f x y hc s.heap.size) (cwV 2 hw (gdV (k_235) (k_232) (k_233) (k_234) (k_2)) rfl rfl rfl (by decide +kernel) ⟨Nat.le_of_ble_eq_true rfl, Nat.le_of_ble_eq_true rfl⟩) ⟨fun a U g mk q => by obtain ⟨q0, q1, qP, qK, qD⟩ := q; exact ⟨q0, q1, qP, va_K.moved (u := U) (U := U.calling g mk a) (Vm.Alike.refl U.vm) qK, qD⟩, va_recv hK hP rfl (q0 := 1) rfl, fun U hU hW => ⟨rfl, by rw [hU], by rw [hU]; exact hPc, va_K.moved hW.alike hKc, hDc.weaken (fun _ _ _ _ => trivial)⟩⟩ rfl rfl hl.1 rfl (lv_room (Nat.le_of_ble_eq_true rfl)) d_T_program_13 ⟨Nat.le_of_ble_eq_true rfl, Nat.le_of_ble_eq_true rfl⟩) hS (fun q _ h => hFc q h) hFc (fun r2 u9 t H1 locs ht hvm hr3 hB hz1 hk1 hS => ?_)
    obtain ⟨cn24, f25⟩ := u9
    obtain ⟨hP1, hK1, hD1⟩ := hB
    rw [ht] at hP1
    replace hK1 := va_K.moved hvm.symm hK1
    try dsimp only at hr3 hP1 hK1 hD1
    obtain ⟨hr3, hr3E⟩ := hr3
    obtain ⟨hPz, hDz⟩ := va_join (wr := [(h0, .inr (0, oT uT p9 a9 e9 n9 o9))]) (w1 := [(p9, .inr (1, [.ref q9, .int (nI cn24)])), (q9, .inl (cp, 64, .inl f25))]) hP hD [1, 2] [0] rfl rfl (by decide) (by decide) hk1 hFc hP1 hD1
    clear hP hD hPc hDc hP1 hD1 hFc
    have hP := hPz
    have hD := hDz
    clear hPz hDz
    replace hK := (hK.sub (tys' := []) [] rfl).app hK1
    clear hK1 hKc
    generalize H1 = H at hP hS ⊢
    replace hP : va_P (dC, dI) classes [(h0, .inr (0, oT uT p9 a9 e9 n9 o9)), (p9, .inr (1, [.ref q9, .int (nI cn24)])), (q9, .inl (cp, 64, .inl f25))] H := hP
    replace hD : va_D A [(h0, .inr (0, oT uT p9 a9 e9 n9 o9)), (p9, .inr (1, [.ref q9, .int (nI cn24)])), (q9, .inl (cp, 64, .inl f25))] := hD
    replace hK : va_K (dC, dI) classes [(cp, .int)] s := hK
    refine W.widen (k := 0) (n := 0) (Nat.le_of_ble_eq_true rfl) (Nat.le_of_ble_eq_true rfl) ?_
    obtain ⟨rfl, rfl, rfl⟩ := hr3
    refine lv_if_eq (tgt := 23) hx hb d_T_program_16 rfl (fun hc6 => ?_) (fun hc6 => ?_)
    · --  (bI (putB cn x y)) = 0
      refine lv_iconst (v := 0) hx hb d_T_program_23 (by decide) ?_
      have b9 : prB uT cn x y = putB cn x y := by rw [prB, decide_eq_true (by simpa using hc1), Bool.true_and]
      have hP9 := hP.sub (ws' := [(h0, .inr (0, oT uT p9 a9 e9 n9 o9)), (p9, .inr (1, [.ref q9, .int (nI (pN (putB cn x y) cn x))])), (q9, .inl (cp, 64, .inl (pF (putB cn x y) f x y)))]) [0, 1, 2] rfl
      have hD9 := hD.sub (ws' := [(h0, .inr (0, oT uT p9 a9 e9 n9 o9)), (p9, .inr (1, [.ref q9, .int (nI (pN (putB cn x y) cn x))])), (q9, .inl (cp, 64, .inl (pF (putB cn x y) f x y)))]) [0, 1, 2] (by decide) rfl
      have hK9 := hK.sub (tys' := [(cp, .int)]) [0] rfl
      refine W.widen (k := 0) (n := 0) (Nat.le_of_ble_eq_true rfl) (Nat.le_of_ble_eq_true rfl) ?_
      exact W.zret (v := 0) (ty := .boolean) hx hb hr rfl (fun t ht hW => ⟨⟨_, (pN (putB cn x y) cn x, pF (putB cn x y) f x y), rfl, ⟨⟨by rw [b9]; exact hc6.symm, prI_put hc, by rw [b9], by rw [b9]⟩, (by rw [← hSP, s_T_program]; try (rw [if_pos hc1]); try (rw [← hr3E, bnd_eq]); try dsimp only; try (rw [if_pos hc6]); all_goals rfl)⟩, by rw [ht]; exact hP9, va_K.moved hW.alike hK9, hD9⟩, hS.F ht⟩) hS.2.2 d_T_program_24
    · --  ¬ (bI (putB cn x y)) = 0
      refine lv_iconst (v := 1) hx hb d_T_program_19 (by decide) ?_
      refine lv_goto (tgt := 24) hx hb d_T_program_20 rfl ?_
      have b9 : prB uT cn x y = putB cn x y := by rw [prB, decide_eq_true (by simpa using hc1), Bool.true_and]
      have hP9 := hP.sub (ws' := [(h0, .inr (0, oT uT p9 a9 e9 n9 o9)), (p9, .inr (1, [.ref q9, .int (nI (pN (putB cn x y) cn x))])), (q9, .inl (cp, 64, .inl (pF (putB cn x y) f x y)))]) [0, 1, 2] rfl
      have hD9 := hD.sub (ws' := [(h0, .inr (0, oT uT p9 a9 e9 n9 o9)), (p9, .inr (1, [.ref q9, .int (nI (pN (putB cn x y) cn x))])), (q9, .inl (cp, 64, .inl (pF (putB cn x y) f x y)))]) [0, 1, 2] (by decide) rfl
      have hK9 := hK.sub (tys' := [(cp, .int)]) [0] rfl
      refine W.widen (k := 0) (n := 0) (Nat.le_of_ble_eq_true rfl) (Nat.le_of_ble_eq_true rfl) ?_
      exact W.zret (v := 1) (ty := .boolean) hx hb hr rfl (fun t ht hW => ⟨⟨_, (pN (putB cn x y) cn x, pF (putB cn x y) f x y), rfl, ⟨⟨by rw [b9]; exact bI_1 hc6, prI_put hc, by rw [b9], by rw [b9]⟩, (by rw [← hSP, s_T_program]; try (rw [if_pos hc1]); try (rw [← hr3E, bnd_eq]); try dsimp only; try (rw [if_neg hc6]); all_goals rfl)⟩, by rw [ht]; exact hP9, va_K.moved hW.alike hK9, hD9⟩, hS.F ht⟩) hS.2.2 d_T_program_24
