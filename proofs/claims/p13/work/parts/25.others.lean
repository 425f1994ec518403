set_option maxHeartbeats 4000000 in
set_option maxRecDepth 100000 in
theorem c_T_input (l : Launch) (dC : Nat → ClassId) (dI : Nat → Nat → Nat) (h0 : Nat) (p9 : Nat) (a9 : Nat) (e9 : Nat) (n9 : Nat) (o9 : Nat) (nw9 : Nat) (cN : ClassId) (uT : Nat → Int32) (kN : Nat) (wN : Nat → Int32) (x : Int32) (hkN : kN ≤ 64) (hwN : wdI 64 wN) (sz : Nat) : Met l y_T_input (tbw y_T_input b_T_input 2 (some .boolean)) ({ frames := 1, cells := 0, slots := 0, locals := 21 }) (va_Pc [.ref h0, .int x] (fun U => U.heap.size = sz ∧ va_P (dC, dI) classes [(h0, .inr (0, oT uT p9 a9 e9 n9 o9)), (n9, .inr (4, [.ref nw9, .int (nI kN)])), (nw9, .inl (cN, 64, .inl wN))] U.heap ∧ va_K (dC, dI) classes [(cN, .int)] U ∧ va_D (fun _ => True) [(h0, .inr (0, oT uT p9 a9 e9 n9 o9)), (n9, .inr (4, [.ref nw9, .int (nI kN)])), (nw9, .inl (cN, 64, .inl wN))])) (va_Qi (fun (r : Int32) (u9 : Nat × (Nat → Int32)) => match u9 with | (kN2, wN2) => (r = bI (inB uT kN) ∧ kN2 ≤ 64 ∧ wdI 64 wN2 ∧ kN2 = (if inB uT kN then kN + 1 else kN)) ∧ (r, kN2, wN2) = s_T_input uT kN wN x) (fun (u9 : Nat × (Nat → Int32)) t => match u9 with | (kN2, wN2) => va_P (dC, dI) classes [(h0, .inr (0, oT uT p9 a9 e9 n9 o9)), (n9, .inr (4, [.ref nw9, .int (nI kN2)])), (nw9, .inl (cN, 64, .inl wN2))] t.heap ∧ va_K (dC, dI) classes [(cN, .int)] t ∧ va_D (va_A [(h0, .inr (0, oT uT p9 a9 e9 n9 o9)), (n9, .inr (4, [.ref nw9, .int (nI kN)])), (nw9, .inl (cN, 64, .inl wN))] sz) [(h0, .inr (0, oT uT p9 a9 e9 n9 o9)), (n9, .inr (4, [.ref nw9, .int (nI kN2)])), (nw9, .inl (cN, 64, .inl wN2))]) (va_A [(h0, .inr (0, oT uT p9 a9 e9 n9 o9)), (n9, .inr (4, [.ref nw9, .int (nI kN)])), (nw9, .inl (cN, 64, .inl wN))] sz)) 0 0 (va_A [(h0, .inr (0, oT uT p9 a9 e9 n9 o9)), (n9, .inr (4, [.ref nw9, .int (nI kN)])), (nw9, .inl (cN, 64, .inl wN))] sz) := by
  refine Met.ofW (cc := b_T_input) (maxL := 2) (ret := (some .boolean)) (by decide) rfl ?_
  intro p e s m args below meth c s₁ B hml hv
  obtain ⟨rfl, hsz, hP, hK, hD0⟩ := hv
  have hx := B.exec
  have hb := B.bytes
  have hr := B.returns
  have hts := atoms_spec (ws := (tbw y_T_input b_T_input 2 (some .boolean))) B.pre
  have hw : ∀ z9 ∈ tb, z9.before ([.ref h0, .int x] : List Value).toArray s = true := fun z9 h => hts z9 (List.mem_cons_of_mem _ h)
  have hown : s.vm.findClass "VotedTriple" = some m.cls := findClass_of_methodNamed B.named
  have hlocks := B.notSynchronized
  subst hsz
  replace hD := hD0.self (sz := s.heap.size)
  generalize hAe : va_A [(h0, .inr (0, oT uT p9 a9 e9 n9 o9)), (n9, .inr (4, [.ref nw9, .int (nI kN)])), (nw9, .inl (cN, 64, .inl wN))] s.heap.size = A at hD ⊢
  have hA : ∀ q : Nat, s.heap.size ≤ q → A q := fun q h => by rw [← hAe]; exact Or.inr h
  have hS : va_S A s.heap s.heap [] := va_S.rf
  replace hl := lv_entry ([.ref h0, .int x]) (n := 2) (Nat.le_of_ble_eq_true rfl)
  rw [lg_entry_eq]
  generalize (lg_sl ([.ref h0, .int x]) ++ List.replicate (2 - (lg_sl ([.ref h0, .int x])).length) Slot.unset).toArray = ls at hl ⊢
  replace hl : lv_has ls 2 [(0, .ref h0), (1, .int x)] := hl
  generalize hSP : s_T_input uT kN wN x = SP
  refine lv_aload_n hx hb d_T_input_0 rfl (lv_at hl 0 rfl) ?_
  refine va_get (D := (dC, dI)) (ci := 0) (v := .int (uT 5)) (C := "VotedTriple") (T := F_T) (N := 11) hx hb hw in_T hown hK hP 0 rfl rfl 5 (by decide) (hw _ k_199) (fun _ h9 => h9) rfl d_T_input_1 ?_
  refine lv_if_eq (tgt := 25) hx hb d_T_input_4 rfl (fun hc1 => ?_) (fun hc1 => ?_)
  · --  (uT 5) = 0
    refine lv_iconst (v := 0) hx hb d_T_input_25 (by decide) ?_
    have b9 : inB uT kN = false := by simp [inB, hc1]
    have hP9 := hP.sub (ws' := [(h0, .inr (0, oT uT p9 a9 e9 n9 o9)), (n9, .inr (4, [.ref nw9, .int (nI kN)])), (nw9, .inl (cN, 64, .inl wN))]) [0, 1, 2] rfl
    have hD9 := hD.sub (ws' := [(h0, .inr (0, oT uT p9 a9 e9 n9 o9)), (n9, .inr (4, [.ref nw9, .int (nI kN)])), (nw9, .inl (cN, 64, .inl wN))]) [0, 1, 2] (by decide) rfl
    have hK9 := hK.sub (tys' := [(cN, .int)]) [0] rfl
    refine W.widen (k := 0) (n := 0) (Nat.le_of_ble_eq_true rfl) (Nat.le_of_ble_eq_true rfl) ?_
    exact W.zret (v := 0) (ty := .boolean) hx hb hr rfl (fun t ht hW => ⟨⟨_, (kN, wN), rfl, ⟨⟨by rw [b9]; rfl, hkN, hwN, by rw [b9]; rfl⟩, (by rw [← hSP, s_T_input]; try (rw [if_pos hc1]); all_goals rfl)⟩, by rw [ht]; exact hP9, va_K.moved hW.alike hK9, hD9⟩, hS.F ht⟩) hS.2.2 d_T_input_26
  · --  ¬ (uT 5) = 0
    refine lv_aload_n hx hb d_T_input_7 rfl (lv_at hl 0 rfl) ?_
    refine va_get (D := (dC, dI)) (ci := 0) (v := .ref n9) (C := "VotedTriple") (T := F_T) (N := 11) hx hb hw in_T hown hK hP 0 rfl rfl 3 (by decide) (hw _ k_197) (fun _ h9 => h9) rfl d_T_input_8 ?_
    refine lv_iload_n hx hb d_T_input_11 rfl (lv_at hl 1 rfl) ?_
    refine lv_ldc (v := 65535) hx hb hown (hw _ k_327) d_T_input_12 ?_
    refine lv_iand hx hb d_T_input_14 ?_
    replace hPc := hP.sub (ws' := [(n9, .inr (4, [.ref nw9, .int (nI kN)])), (nw9, .inl (cN, 64, .inl wN))]) [1, 2] rfl
    replace hKc := hK.sub (tys' := [(cN, .int)]) [0] rfl
    replace hDc := hD.sub (ws' := [(n9, .inr (4, [.ref nw9, .int (nI kN)])), (nw9, .inl (cN, 64, .inl wN))]) [1, 2] (by decide) rfl
    replace hFc := va_free (wc := [(n9, .inr (4, [.ref nw9, .int (nI kN)])), (nw9, .inl (cN, 64, .inl wN))]) hD hS hA [1, 2] rfl
    refine va_calli (va_runV (C := "VotedTriple$WordsIn") (As := [.int (x &&& (65535 : Int32))]) (rest := []) ⟨hx, hb, hml, hown, hw⟩ (c_N_add l dC dI n9 nw9 kN cN wN (x &&& (65535 : Int32)) hkN hwN (is16_m _) s.heap.size) (cwV 1 hw (gdV (k_331) (k_328) (k_329) (k_330) (k_6)) rfl rfl rfl (by decide +kernel) ⟨Nat.le_of_ble_eq_true rfl, Nat.le_of_ble_eq_true rfl⟩) ⟨fun a U g mk q => by obtain ⟨q0, q1, qP, qK, qD⟩ := q; exact ⟨q0, q1, qP, va_K.moved (u := U) (U := U.calling g mk a) (Vm.Alike.refl U.vm) qK, qD⟩, va_recv hK hP rfl (q0 := 1) rfl, fun U hU hW => ⟨rfl, by rw [hU], by rw [hU]; exact hPc, va_K.moved hW.alike hKc, hDc.weaken (fun _ _ _ _ => trivial)⟩⟩ rfl rfl hl.1 rfl (lv_room (Nat.le_of_ble_eq_true rfl)) d_T_input_15 ⟨Nat.le_of_ble_eq_true rfl, Nat.le_of_ble_eq_true rfl⟩) hS (fun q _ h => hFc q h) hFc (fun r2 u9 t H1 locs ht hvm hr3 hB hz1 hk1 hS => ?_)
    obtain ⟨k24, w25⟩ := u9
    obtain ⟨hP1, hK1, hD1⟩ := hB
    rw [ht] at hP1
    replace hK1 := va_K.moved hvm.symm hK1
    try dsimp only at hr3 hP1 hK1 hD1
    obtain ⟨hr3, hr3E⟩ := hr3
    obtain ⟨hPz, hDz⟩ := va_join (wr := [(h0, .inr (0, oT uT p9 a9 e9 n9 o9))]) (w1 := [(n9, .inr (4, [.ref nw9, .int (nI k24)])), (nw9, .inl (cN, 64, .inl w25))]) hP hD [1, 2] [0] rfl rfl (by decide) (by decide) hk1 hFc hP1 hD1
    clear hP hD hPc hDc hP1 hD1 hFc
    have hP := hPz
    have hD := hDz
    clear hPz hDz
    replace hK := (hK.sub (tys' := []) [] rfl).app hK1
    clear hK1 hKc
    generalize H1 = H at hP hS ⊢
    replace hP : va_P (dC, dI) classes [(h0, .inr (0, oT uT p9 a9 e9 n9 o9)), (n9, .inr (4, [.ref nw9, .int (nI k24)])), (nw9, .inl (cN, 64, .inl w25))] H := hP
    replace hD : va_D A [(h0, .inr (0, oT uT p9 a9 e9 n9 o9)), (n9, .inr (4, [.ref nw9, .int (nI k24)])), (nw9, .inl (cN, 64, .inl w25))] := hD
    replace hK : va_K (dC, dI) classes [(cN, .int)] s := hK
    refine W.widen (k := 0) (n := 0) (Nat.le_of_ble_eq_true rfl) (Nat.le_of_ble_eq_true rfl) ?_
    obtain ⟨rfl, hk2, hw2⟩ := hr3
    refine lv_if_eq (tgt := 25) hx hb d_T_input_18 rfl (fun hc6 => ?_) (fun hc6 => ?_)
    · --  (bI (decide (kN < 64))) = 0
      refine lv_iconst (v := 0) hx hb d_T_input_25 (by decide) ?_
      have b9 : inB uT kN = decide (kN < 64) := by simp [inB, hc1]
      have hP9 := hP.sub (ws' := [(h0, .inr (0, oT uT p9 a9 e9 n9 o9)), (n9, .inr (4, [.ref nw9, .int (nI k24)])), (nw9, .inl (cN, 64, .inl w25))]) [0, 1, 2] rfl
      have hD9 := hD.sub (ws' := [(h0, .inr (0, oT uT p9 a9 e9 n9 o9)), (n9, .inr (4, [.ref nw9, .int (nI k24)])), (nw9, .inl (cN, 64, .inl w25))]) [0, 1, 2] (by decide) rfl
      have hK9 := hK.sub (tys' := [(cN, .int)]) [0] rfl
      refine W.widen (k := 0) (n := 0) (Nat.le_of_ble_eq_true rfl) (Nat.le_of_ble_eq_true rfl) ?_
      exact W.zret (v := 0) (ty := .boolean) hx hb hr rfl (fun t ht hW => ⟨⟨_, (k24, w25), rfl, ⟨⟨by rw [b9]; exact hc6.symm, by rw [hk2]; split <;> omega, hw2, by rw [b9, hk2]; simp⟩, (by rw [← hSP, s_T_input]; try (rw [if_neg hc1]); try (rw [← hr3E, bnd_eq]); try dsimp only; try (rw [if_pos hc6]); all_goals rfl)⟩, by rw [ht]; exact hP9, va_K.moved hW.alike hK9, hD9⟩, hS.F ht⟩) hS.2.2 d_T_input_26
    · --  ¬ (bI (decide (kN < 64))) = 0
      refine lv_iconst (v := 1) hx hb d_T_input_21 (by decide) ?_
      refine lv_goto (tgt := 26) hx hb d_T_input_22 rfl ?_
      have b9 : inB uT kN = decide (kN < 64) := by simp [inB, hc1]
      have hP9 := hP.sub (ws' := [(h0, .inr (0, oT uT p9 a9 e9 n9 o9)), (n9, .inr (4, [.ref nw9, .int (nI k24)])), (nw9, .inl (cN, 64, .inl w25))]) [0, 1, 2] rfl
      have hD9 := hD.sub (ws' := [(h0, .inr (0, oT uT p9 a9 e9 n9 o9)), (n9, .inr (4, [.ref nw9, .int (nI k24)])), (nw9, .inl (cN, 64, .inl w25))]) [0, 1, 2] (by decide) rfl
      have hK9 := hK.sub (tys' := [(cN, .int)]) [0] rfl
      refine W.widen (k := 0) (n := 0) (Nat.le_of_ble_eq_true rfl) (Nat.le_of_ble_eq_true rfl) ?_
      exact W.zret (v := 1) (ty := .boolean) hx hb hr rfl (fun t ht hW => ⟨⟨_, (k24, w25), rfl, ⟨⟨by rw [b9]; exact bI_1 hc6, by rw [hk2]; split <;> omega, hw2, by rw [b9, hk2]; simp⟩, (by rw [← hSP, s_T_input]; try (rw [if_neg hc1]); try (rw [← hr3E, bnd_eq]); try dsimp only; try (rw [if_neg hc6]); all_goals rfl)⟩, by rw [ht]; exact hP9, va_K.moved hW.alike hK9, hD9⟩, hS.F ht⟩) hS.2.2 d_T_input_26

set_option maxHeartbeats 4000000 in
set_option maxRecDepth 100000 in
theorem c_T_output (l : Launch) (dC : Nat → ClassId) (dI : Nat → Nat → Nat) (h0 : Nat) (p9 : Nat) (a9 : Nat) (e9 : Nat) (n9 : Nat) (o9 : Nat) (ok9 : Nat) (cO : ClassId) (uT : Nat → Int32) (ko : Nat) (kp : Nat → Int32) (x : Int32) (hkp : kpB (nI ko) x = true) : Met l y_T_output (tbw y_T_output b_T_output 2 (some .int)) ({ frames := 1, cells := 0, slots := 0, locals := 21 }) (va_Pc [.ref h0, .int x] (fun U => va_P (dC, dI) classes [(h0, .inr (0, oT uT p9 a9 e9 n9 o9)), (o9, .inr (5, [.ref ok9, .int (nI ko)])), (ok9, .inl (cO, 300, .inl kp))] U.heap ∧ va_K (dC, dI) classes [(cO, .int)] U)) (vp_Si (fun r => (True) ∧ r = s_T_output kp x)) 0 0 (fun _ => False) := by
  refine Met.ofW (cc := b_T_output) (maxL := 2) (ret := (some .int)) (by decide) rfl ?_
  intro p e s m args below meth c s₁ B hml hv
  obtain ⟨rfl, hP, hK⟩ := hv
  have hx := B.exec
  have hb := B.bytes
  have hr := B.returns
  have hts := atoms_spec (ws := (tbw y_T_output b_T_output 2 (some .int))) B.pre
  have hw : ∀ z9 ∈ tb, z9.before ([.ref h0, .int x] : List Value).toArray s = true := fun z9 h => hts z9 (List.mem_cons_of_mem _ h)
  have hown : s.vm.findClass "VotedTriple" = some m.cls := findClass_of_methodNamed B.named
  have hlocks := B.notSynchronized
  replace hl := lv_entry ([.ref h0, .int x]) (n := 2) (Nat.le_of_ble_eq_true rfl)
  rw [lg_entry_eq]
  generalize (lg_sl ([.ref h0, .int x]) ++ List.replicate (2 - (lg_sl ([.ref h0, .int x])).length) Slot.unset).toArray = ls at hl ⊢
  replace hl : lv_has ls 2 [(0, .ref h0), (1, .int x)] := hl
  generalize hSP : s_T_output kp x = SP
  refine lv_aload_n hx hb d_T_output_0 rfl (lv_at hl 0 rfl) ?_
  refine va_get (D := (dC, dI)) (ci := 0) (v := .ref o9) (C := "VotedTriple") (T := F_T) (N := 11) hx hb hw in_T hown hK hP 0 rfl rfl 4 (by decide) (hw _ k_198) (fun _ h9 => h9) rfl d_T_output_1 ?_
  refine lv_iload_n hx hb d_T_output_4 rfl (lv_at hl 1 rfl) ?_
  replace hPc := hP.sub (ws' := [(o9, .inr (5, [.ref ok9, .int (nI ko)]))]) [1] rfl
  replace hKc := hK.sub (tys' := []) [] rfl
  refine vp_callSi (va_runV (C := "VotedTriple$WordsOut") (As := [.int x]) (rest := []) ⟨hx, hb, hml, hown, hw⟩ (c_O_keeps l dC dI o9 ok9 (nI ko) x) (cwV 1 hw (gdV (k_678) (k_675) (k_676) (k_677) (k_5)) rfl rfl rfl (by decide +kernel) ⟨Nat.le_of_ble_eq_true rfl, Nat.le_of_ble_eq_true rfl⟩) ⟨fun a U g mk q => ⟨q.1, q.2.1, va_K.moved (u := U) (U := U.calling g mk a) (Vm.Alike.refl U.vm) q.2.2⟩, va_recv hK hP rfl (q0 := 1) rfl, fun U hU hW => ⟨rfl, by rw [hU]; exact hPc, va_K.moved hW.alike hKc⟩⟩ rfl rfl hl.1 rfl (lv_room (Nat.le_of_ble_eq_true rfl)) d_T_output_5 ⟨Nat.le_of_ble_eq_true rfl, Nat.le_of_ble_eq_true rfl⟩).run (fun r1 hr2 => ?_)
  subst hr2
  refine lv_if_ne (tgt := 21) hx hb d_T_output_8 rfl (fun hc3 => ?_) (fun hc3 => by first | exact absurd (by rw [hkp]; decide) hc3 | exact absurd hc3 (by rw [hkp]; decide))
  refine lv_aload_n hx hb d_T_output_21 rfl (lv_at hl 0 rfl) ?_
  refine va_get (D := (dC, dI)) (ci := 0) (v := .ref o9) (C := "VotedTriple") (T := F_T) (N := 11) hx hb hw in_T hown hK hP 0 rfl rfl 4 (by decide) (hw _ k_198) (fun _ h9 => h9) rfl d_T_output_22 ?_
  refine va_get (D := (dC, dI)) (ci := 5) (v := .ref ok9) (C := "VotedTriple$WordsOut") (T := F_O) (N := 2) hx hb hw in_O hown hK hP 1 rfl rfl 0 (by decide) (hw _ k_58) (fun _ h9 => h9) rfl d_T_output_25 ?_
  refine lv_iload_n hx hb d_T_output_28 rfl (lv_at hl 1 rfl) ?_
  refine va_iald hx hb hK hP 2 0 rfl rfl (kpB_in hkp) d_T_output_29 ?_
  exact W.iret (v := (kp (Int32.toNatClampNeg x))) hx hb hr (fun t ht _ => ⟨_, rfl, ⟨trivial, (by rw [← hSP, s_T_output]; all_goals rfl)⟩, ht⟩) (fun _ h => by cases h) d_T_output_30

set_option maxHeartbeats 4000000 in
set_option maxRecDepth 100000 in
theorem c_T_perfect (l : Launch) (dC : Nat → ClassId) (dI : Nat → Nat → Nat) (h0 : Nat) (p9 : Nat) (a9 : Nat) (e9 : Nat) (n9 : Nat) (o9 : Nat) (er9 : Nat) (ce : ClassId) (eo9 : Nat) (ew9 : Nat) (cw : ClassId) (ek9 : Nat) (cq : ClassId) (uT : Nat → Int32) (Z : Nat → Int32) (eg : Nat → Int32) (ew : Nat → Int32) (ke : Nat) (pe : Nat → Int32) (x : Int32) (hkp : kpB (nI ke) x = true) : Met l y_T_perfect (tbw y_T_perfect b_T_perfect 2 (some .int)) ({ frames := 1, cells := 0, slots := 0, locals := 21 }) (va_Pc [.ref h0, .int x] (fun U => va_P (dC, dI) classes [(h0, .inr (0, oT uT p9 a9 e9 n9 o9)), (e9, .inr (3, oE Z er9 eo9 ew9)), (er9, .inl (ce, 8, .inl eg)), (ew9, .inl (cw, 32, .inl ew)), (eo9, .inr (5, [.ref ek9, .int (nI ke)])), (ek9, .inl (cq, 300, .inl pe))] U.heap ∧ va_K (dC, dI) classes [(ce, .int), (cw, .int), (cq, .int)] U)) (vp_Si (fun r => (True) ∧ r = s_T_perfect pe x)) 0 0 (fun _ => False) := by
  refine Met.ofW (cc := b_T_perfect) (maxL := 2) (ret := (some .int)) (by decide) rfl ?_
  intro p e s m args below meth c s₁ B hml hv
  obtain ⟨rfl, hP, hK⟩ := hv
  have hx := B.exec
  have hb := B.bytes
  have hr := B.returns
  have hts := atoms_spec (ws := (tbw y_T_perfect b_T_perfect 2 (some .int))) B.pre
  have hw : ∀ z9 ∈ tb, z9.before ([.ref h0, .int x] : List Value).toArray s = true := fun z9 h => hts z9 (List.mem_cons_of_mem _ h)
  have hown : s.vm.findClass "VotedTriple" = some m.cls := findClass_of_methodNamed B.named
  have hlocks := B.notSynchronized
  replace hl := lv_entry ([.ref h0, .int x]) (n := 2) (Nat.le_of_ble_eq_true rfl)
  rw [lg_entry_eq]
  generalize (lg_sl ([.ref h0, .int x]) ++ List.replicate (2 - (lg_sl ([.ref h0, .int x])).length) Slot.unset).toArray = ls at hl ⊢
  replace hl : lv_has ls 2 [(0, .ref h0), (1, .int x)] := hl
  generalize hSP : s_T_perfect pe x = SP
  refine lv_aload_n hx hb d_T_perfect_0 rfl (lv_at hl 0 rfl) ?_
  refine va_get (D := (dC, dI)) (ci := 0) (v := .ref e9) (C := "VotedTriple") (T := F_T) (N := 11) hx hb hw in_T hown hK hP 0 rfl rfl 2 (by decide) (hw _ k_196) (fun _ h9 => h9) rfl d_T_perfect_1 ?_
  refine va_get (D := (dC, dI)) (ci := 3) (v := .ref eo9) (C := "VotedTriple$PerfectOne") (T := F_E) (N := 10) hx hb hw in_E hown hK hP 1 rfl rfl 7 (by decide) (hw _ k_67) (fun _ h9 => h9) rfl d_T_perfect_4 ?_
  refine lv_iload_n hx hb d_T_perfect_7 rfl (lv_at hl 1 rfl) ?_
  replace hPc := hP.sub (ws' := [(eo9, .inr (5, [.ref ek9, .int (nI ke)]))]) [4] rfl
  replace hKc := hK.sub (tys' := []) [] rfl
  refine vp_callSi (va_runV (C := "VotedTriple$WordsOut") (As := [.int x]) (rest := []) ⟨hx, hb, hml, hown, hw⟩ (c_O_keeps l dC dI eo9 ek9 (nI ke) x) (cwV 1 hw (gdV (k_678) (k_675) (k_676) (k_677) (k_5)) rfl rfl rfl (by decide +kernel) ⟨Nat.le_of_ble_eq_true rfl, Nat.le_of_ble_eq_true rfl⟩) ⟨fun a U g mk q => ⟨q.1, q.2.1, va_K.moved (u := U) (U := U.calling g mk a) (Vm.Alike.refl U.vm) q.2.2⟩, va_recv hK hP rfl (q0 := 4) rfl, fun U hU hW => ⟨rfl, by rw [hU]; exact hPc, va_K.moved hW.alike hKc⟩⟩ rfl rfl hl.1 rfl (lv_room (Nat.le_of_ble_eq_true rfl)) d_T_perfect_8 ⟨Nat.le_of_ble_eq_true rfl, Nat.le_of_ble_eq_true rfl⟩).run (fun r1 hr2 => ?_)
  subst hr2
  refine lv_if_ne (tgt := 24) hx hb d_T_perfect_11 rfl (fun hc3 => ?_) (fun hc3 => by first | exact absurd (by rw [hkp]; decide) hc3 | exact absurd hc3 (by rw [hkp]; decide))
  refine lv_aload_n hx hb d_T_perfect_24 rfl (lv_at hl 0 rfl) ?_
  refine va_get (D := (dC, dI)) (ci := 0) (v := .ref e9) (C := "VotedTriple") (T := F_T) (N := 11) hx hb hw in_T hown hK hP 0 rfl rfl 2 (by decide) (hw _ k_196) (fun _ h9 => h9) rfl d_T_perfect_25 ?_
  refine va_get (D := (dC, dI)) (ci := 3) (v := .ref eo9) (C := "VotedTriple$PerfectOne") (T := F_E) (N := 10) hx hb hw in_E hown hK hP 1 rfl rfl 7 (by decide) (hw _ k_67) (fun _ h9 => h9) rfl d_T_perfect_28 ?_
  refine va_get (D := (dC, dI)) (ci := 5) (v := .ref ek9) (C := "VotedTriple$WordsOut") (T := F_O) (N := 2) hx hb hw in_O hown hK hP 4 rfl rfl 0 (by decide) (hw _ k_58) (fun _ h9 => h9) rfl d_T_perfect_31 ?_
  refine lv_iload_n hx hb d_T_perfect_34 rfl (lv_at hl 1 rfl) ?_
  refine va_iald hx hb hK hP 5 2 rfl rfl (kpB_in hkp) d_T_perfect_35 ?_
  exact W.iret (v := (pe (Int32.toNatClampNeg x))) hx hb hr (fun t ht _ => ⟨_, rfl, ⟨trivial, (by rw [← hSP, s_T_perfect]; all_goals rfl)⟩, ht⟩) (fun _ h => by cases h) d_T_perfect_36

set_option maxHeartbeats 4000000 in
set_option maxRecDepth 100000 in
theorem c_T_hasBit (l : Launch) (dC : Nat → ClassId) (dI : Nat → Nat → Nat)  (x : Int32) (y : Int32) (z : Int32) : Met l y_T_hasBit (tbw y_T_hasBit b_T_hasBit 3 (some .boolean)) ({ frames := 1, cells := 0, slots := 0, locals := 21 }) (va_Pc [.int x, .int y, .int z] (fun _ => True)) (vp_Si (fun r => r = bI (hbB x y z))) 0 0 (fun _ => False) := by
  refine Met.ofW (cc := b_T_hasBit) (maxL := 3) (ret := (some .boolean)) (by decide) rfl ?_
  intro p e s m args below meth c s₁ B hml hv
  obtain ⟨rfl, -⟩ := hv
  have hx := B.exec
  have hb := B.bytes
  have hr := B.returns
  have hts := atoms_spec (ws := (tbw y_T_hasBit b_T_hasBit 3 (some .boolean))) B.pre
  have hw : ∀ z9 ∈ tb, z9.before ([.int x, .int y, .int z] : List Value).toArray s = true := fun z9 h => hts z9 (List.mem_cons_of_mem _ h)
  have hown : s.vm.findClass "VotedTriple" = some m.cls := findClass_of_methodNamed B.named
  have hlocks := B.notSynchronized
  replace hl := lv_entry ([.int x, .int y, .int z]) (n := 3) (Nat.le_of_ble_eq_true rfl)
  rw [lg_entry_eq]
  generalize (lg_sl ([.int x, .int y, .int z]) ++ List.replicate (3 - (lg_sl ([.int x, .int y, .int z])).length) Slot.unset).toArray = ls at hl ⊢
  replace hl : lv_has ls 3 [(0, .int x), (1, .int y), (2, .int z)] := hl
  refine lv_iload_n hx hb d_T_hasBit_0 rfl (lv_at hl 0 rfl) ?_
  rcases sw2 (x) with hs1 | hs1 | hs1 | hs1
  · refine lv_tableIn (off := 27) (tgt := 28) hx hb d_T_hasBit_1 (by rw [hs1]; decide) (by rw [hs1]; decide) (by rw [hs1]; decide) rfl ?_
    refine lv_iload_n hx hb d_T_hasBit_28 rfl (lv_at hl 1 rfl) ?_
    refine lv_bipush (v := 8) hx hb d_T_hasBit_29 (by decide) ?_
    refine vp_callSi (va_runS (As := [.int y, .int 8]) (rest := []) ⟨hx, hb, hml, hown, hw⟩ (c_T_isBelow l dC dI y 8) (va_cwS 2 hw (gdS (k_715) (k_713) (k_714) (k_1)) rfl rfl rfl (by decide +kernel) ⟨Nat.le_of_ble_eq_true rfl, Nat.le_of_ble_eq_true rfl⟩) ⟨fun _ _ _ _ q => q, fun _ _ _ => ⟨rfl, trivial⟩⟩ rfl rfl hl.1 rfl (lv_room (Nat.le_of_ble_eq_true rfl)) d_T_hasBit_31 ⟨Nat.le_of_ble_eq_true rfl, Nat.le_of_ble_eq_true rfl⟩).run (fun r2 hr3 => ?_)
    subst hr3
    refine lv_if_eq (tgt := 50) hx hb d_T_hasBit_34 rfl (fun hc4 => ?_) (fun hc4 => ?_)
    · --  (bI (!decide (y < 0) && !decide (8 ≤ y))) = 0
      refine lv_iconst (v := 0) hx hb d_T_hasBit_50 (by decide) ?_
      exact W.zret (v := 0) (ty := .boolean) hx hb hr rfl (fun t ht _ => ⟨_, rfl, (by simp [hbB, blw, bI, hs1, bI_f hc4]), ht⟩) (fun _ h => by cases h) d_T_hasBit_51
    · --  ¬ (bI (!decide (y < 0) && !decide (8 ≤ y))) = 0
      refine lv_iload_n hx hb d_T_hasBit_37 rfl (lv_at hl 2 rfl) ?_
      refine lv_bipush (v := 16) hx hb d_T_hasBit_38 (by decide) ?_
      refine vp_callSi (va_runS (As := [.int z, .int 16]) (rest := []) ⟨hx, hb, hml, hown, hw⟩ (c_T_isBelow l dC dI z 16) (va_cwS 2 hw (gdS (k_715) (k_713) (k_714) (k_1)) rfl rfl rfl (by decide +kernel) ⟨Nat.le_of_ble_eq_true rfl, Nat.le_of_ble_eq_true rfl⟩) ⟨fun _ _ _ _ q => q, fun _ _ _ => ⟨rfl, trivial⟩⟩ rfl rfl hl.1 rfl (lv_room (Nat.le_of_ble_eq_true rfl)) d_T_hasBit_40 ⟨Nat.le_of_ble_eq_true rfl, Nat.le_of_ble_eq_true rfl⟩).run (fun r5 hr6 => ?_)
      subst hr6
      refine lv_if_eq (tgt := 50) hx hb d_T_hasBit_43 rfl (fun hc7 => ?_) (fun hc7 => ?_)
      · --  (bI (!decide (z < 0) && !decide (16 ≤ z))) = 0
        refine lv_iconst (v := 0) hx hb d_T_hasBit_50 (by decide) ?_
        exact W.zret (v := 0) (ty := .boolean) hx hb hr rfl (fun t ht _ => ⟨_, rfl, (by simp [hbB, blw, bI, hs1, bI_t hc4, bI_f hc7]), ht⟩) (fun _ h => by cases h) d_T_hasBit_51
      · --  ¬ (bI (!decide (z < 0) && !decide (16 ≤ z))) = 0
        refine lv_iconst (v := 1) hx hb d_T_hasBit_46 (by decide) ?_
        refine lv_goto (tgt := 51) hx hb d_T_hasBit_47 rfl ?_
        exact W.zret (v := 1) (ty := .boolean) hx hb hr rfl (fun t ht _ => ⟨_, rfl, (by simp [hbB, blw, bI, hs1, bI_t hc4, bI_t hc7]), ht⟩) (fun _ h => by cases h) d_T_hasBit_51
  · refine lv_tableIn (off := 51) (tgt := 52) hx hb d_T_hasBit_1 (by rw [hs1]; decide) (by rw [hs1]; decide) (by rw [hs1]; decide) rfl ?_
    refine lv_iload_n hx hb d_T_hasBit_52 rfl (lv_at hl 1 rfl) ?_
    refine lv_bipush (v := 32) hx hb d_T_hasBit_53 (by decide) ?_
    refine vp_callSi (va_runS (As := [.int y, .int 32]) (rest := []) ⟨hx, hb, hml, hown, hw⟩ (c_T_isBelow l dC dI y 32) (va_cwS 2 hw (gdS (k_715) (k_713) (k_714) (k_1)) rfl rfl rfl (by decide +kernel) ⟨Nat.le_of_ble_eq_true rfl, Nat.le_of_ble_eq_true rfl⟩) ⟨fun _ _ _ _ q => q, fun _ _ _ => ⟨rfl, trivial⟩⟩ rfl rfl hl.1 rfl (lv_room (Nat.le_of_ble_eq_true rfl)) d_T_hasBit_55 ⟨Nat.le_of_ble_eq_true rfl, Nat.le_of_ble_eq_true rfl⟩).run (fun r8 hr9 => ?_)
    subst hr9
    refine lv_if_eq (tgt := 74) hx hb d_T_hasBit_58 rfl (fun hc10 => ?_) (fun hc10 => ?_)
    · --  (bI (!decide (y < 0) && !decide (32 ≤ y))) = 0
      refine lv_iconst (v := 0) hx hb d_T_hasBit_74 (by decide) ?_
      exact W.zret (v := 0) (ty := .boolean) hx hb hr rfl (fun t ht _ => ⟨_, rfl, (by simp [hbB, blw, bI, hs1, bI_f hc10]), ht⟩) (fun _ h => by cases h) d_T_hasBit_75
    · --  ¬ (bI (!decide (y < 0) && !decide (32 ≤ y))) = 0
      refine lv_iload_n hx hb d_T_hasBit_61 rfl (lv_at hl 2 rfl) ?_
      refine lv_bipush (v := 22) hx hb d_T_hasBit_62 (by decide) ?_
      refine vp_callSi (va_runS (As := [.int z, .int 22]) (rest := []) ⟨hx, hb, hml, hown, hw⟩ (c_T_isBelow l dC dI z 22) (va_cwS 2 hw (gdS (k_715) (k_713) (k_714) (k_1)) rfl rfl rfl (by decide +kernel) ⟨Nat.le_of_ble_eq_true rfl, Nat.le_of_ble_eq_true rfl⟩) ⟨fun _ _ _ _ q => q, fun _ _ _ => ⟨rfl, trivial⟩⟩ rfl rfl hl.1 rfl (lv_room (Nat.le_of_ble_eq_true rfl)) d_T_hasBit_64 ⟨Nat.le_of_ble_eq_true rfl, Nat.le_of_ble_eq_true rfl⟩).run (fun r11 hr12 => ?_)
      subst hr12
      refine lv_if_eq (tgt := 74) hx hb d_T_hasBit_67 rfl (fun hc13 => ?_) (fun hc13 => ?_)
      · --  (bI (!decide (z < 0) && !decide (22 ≤ z))) = 0
        refine lv_iconst (v := 0) hx hb d_T_hasBit_74 (by decide) ?_
        exact W.zret (v := 0) (ty := .boolean) hx hb hr rfl (fun t ht _ => ⟨_, rfl, (by simp [hbB, blw, bI, hs1, bI_t hc10, bI_f hc13]), ht⟩) (fun _ h => by cases h) d_T_hasBit_75
      · --  ¬ (bI (!decide (z < 0) && !decide (22 ≤ z))) = 0
        refine lv_iconst (v := 1) hx hb d_T_hasBit_70 (by decide) ?_
        refine lv_goto (tgt := 75) hx hb d_T_hasBit_71 rfl ?_
        exact W.zret (v := 1) (ty := .boolean) hx hb hr rfl (fun t ht _ => ⟨_, rfl, (by simp [hbB, blw, bI, hs1, bI_t hc10, bI_t hc13]), ht⟩) (fun _ h => by cases h) d_T_hasBit_75
  · refine lv_tableIn (off := 75) (tgt := 76) hx hb d_T_hasBit_1 (by rw [hs1]; decide) (by rw [hs1]; decide) (by rw [hs1]; decide) rfl ?_
    refine lv_iload_n hx hb d_T_hasBit_76 rfl (lv_at hl 1 rfl) ?_
    refine lv_if_ne (tgt := 93) hx hb d_T_hasBit_77 rfl (fun hc14 => ?_) (fun hc14 => ?_)
    · --  ¬ y = 0
      refine lv_iconst (v := 0) hx hb d_T_hasBit_93 (by decide) ?_
      exact W.zret (v := 0) (ty := .boolean) hx hb hr rfl (fun t ht _ => ⟨_, rfl, (by simp [hbB, blw, bI, hs1, hc14]), ht⟩) (fun _ h => by cases h) d_T_hasBit_94
    · --  y = 0
      refine lv_iload_n hx hb d_T_hasBit_80 rfl (lv_at hl 2 rfl) ?_
      refine lv_bipush (v := 6) hx hb d_T_hasBit_81 (by decide) ?_
      refine vp_callSi (va_runS (As := [.int z, .int 6]) (rest := []) ⟨hx, hb, hml, hown, hw⟩ (c_T_isBelow l dC dI z 6) (va_cwS 2 hw (gdS (k_715) (k_713) (k_714) (k_1)) rfl rfl rfl (by decide +kernel) ⟨Nat.le_of_ble_eq_true rfl, Nat.le_of_ble_eq_true rfl⟩) ⟨fun _ _ _ _ q => q, fun _ _ _ => ⟨rfl, trivial⟩⟩ rfl rfl hl.1 rfl (lv_room (Nat.le_of_ble_eq_true rfl)) d_T_hasBit_83 ⟨Nat.le_of_ble_eq_true rfl, Nat.le_of_ble_eq_true rfl⟩).run (fun r15 hr16 => ?_)
      subst hr16
      refine lv_if_eq (tgt := 93) hx hb d_T_hasBit_86 rfl (fun hc17 => ?_) (fun hc17 => ?_)
      · --  (bI (!decide (z < 0) && !decide (6 ≤ z))) = 0
        refine lv_iconst (v := 0) hx hb d_T_hasBit_93 (by decide) ?_
        exact W.zret (v := 0) (ty := .boolean) hx hb hr rfl (fun t ht _ => ⟨_, rfl, (by simp [hbB, blw, bI, hs1, hc14, bI_f hc17]), ht⟩) (fun _ h => by cases h) d_T_hasBit_94
      · --  ¬ (bI (!decide (z < 0) && !decide (6 ≤ z))) = 0
        refine lv_iconst (v := 1) hx hb d_T_hasBit_89 (by decide) ?_
        refine lv_goto (tgt := 94) hx hb d_T_hasBit_90 rfl ?_
        exact W.zret (v := 1) (ty := .boolean) hx hb hr rfl (fun t ht _ => ⟨_, rfl, (by simp [hbB, blw, bI, hs1, hc14, bI_t hc17]), ht⟩) (fun _ h => by cases h) d_T_hasBit_94
  · refine lv_tableOut (tgt := 95) hx hb d_T_hasBit_1 hs1 rfl ?_
    refine lv_iconst (v := 0) hx hb d_T_hasBit_95 (by decide) ?_
    exact W.zret (v := 0) (ty := .boolean) hx hb hr rfl (fun t ht _ => ⟨_, rfl, (by rw [hb_out hs1]; rfl), ht⟩) (fun _ h => by cases h) d_T_hasBit_96

set_option maxHeartbeats 4000000 in
set_option maxRecDepth 100000 in
theorem c_T_freeze (l : Launch) (dC : Nat → ClassId) (dI : Nat → Nat → Nat) (h0 : Nat) (p9 : Nat) (a9 : Nat) (e9 : Nat) (n9 : Nat) (o9 : Nat) (ca : ClassId) (da : Nat → Nat) (ra : Nat → Nat) (ka : Nat → Nat) (uT : Nat → Int32) (F : Nat → Nat → Int32) (x : Int32) (zb : Int32) (hz_zb : narrow .boolean (.int zb) = .int zb ∧ fits .boolean (.int zb) = true) (hF : f3 F) (sz : Nat) : Met l y_T_freeze (tbw y_T_freeze b_T_freeze 3 (some .boolean)) ({ frames := 1, cells := 0, slots := 0, locals := 21 }) (va_Pc [.ref h0, .int x, .int zb] (fun U => U.heap.size = sz ∧ va_P (dC, dI) classes [(h0, .inr (0, oT uT p9 a9 e9 n9 o9)), (a9, .inl (ca, 3, .inr (.inr (.inr (.inr (mo da)))))), (da 0, .inr (2, oD (F 0) (ra 0) (ka 0))), (da 1, .inr (2, oD (F 1) (ra 1) (ka 1))), (da 2, .inr (2, oD (F 2) (ra 2) (ka 2)))] U.heap ∧ va_K (dC, dI) classes [(ca, .object "VotedTriple$VotedModule")] U ∧ va_D (fun _ => True) [(h0, .inr (0, oT uT p9 a9 e9 n9 o9)), (a9, .inl (ca, 3, .inr (.inr (.inr (.inr (mo da)))))), (da 0, .inr (2, oD (F 0) (ra 0) (ka 0))), (da 1, .inr (2, oD (F 1) (ra 1) (ka 1))), (da 2, .inr (2, oD (F 2) (ra 2) (ka 2)))])) (va_Qi (fun (r : Int32) (u9 : (Nat → Nat → Int32)) => match u9 with | F2 => (r = bI (hmB uT x) ∧ f3 F2) ∧ (r, F2) = s_T_freeze uT F x zb) (fun (u9 : (Nat → Nat → Int32)) t => match u9 with | F2 => va_P (dC, dI) classes [(h0, .inr (0, oT uT p9 a9 e9 n9 o9)), (a9, .inl (ca, 3, .inr (.inr (.inr (.inr (mo da)))))), (da 0, .inr (2, oD (F2 0) (ra 0) (ka 0))), (da 1, .inr (2, oD (F2 1) (ra 1) (ka 1))), (da 2, .inr (2, oD (F2 2) (ra 2) (ka 2)))] t.heap ∧ va_K (dC, dI) classes [(ca, .object "VotedTriple$VotedModule")] t ∧ va_D (va_A [(h0, .inr (0, oT uT p9 a9 e9 n9 o9)), (a9, .inl (ca, 3, .inr (.inr (.inr (.inr (mo da)))))), (da 0, .inr (2, oD (F 0) (ra 0) (ka 0))), (da 1, .inr (2, oD (F 1) (ra 1) (ka 1))), (da 2, .inr (2, oD (F 2) (ra 2) (ka 2)))] sz) [(h0, .inr (0, oT uT p9 a9 e9 n9 o9)), (a9, .inl (ca, 3, .inr (.inr (.inr (.inr (mo da)))))), (da 0, .inr (2, oD (F2 0) (ra 0) (ka 0))), (da 1, .inr (2, oD (F2 1) (ra 1) (ka 1))), (da 2, .inr (2, oD (F2 2) (ra 2) (ka 2)))]) (va_A [(h0, .inr (0, oT uT p9 a9 e9 n9 o9)), (a9, .inl (ca, 3, .inr (.inr (.inr (.inr (mo da)))))), (da 0, .inr (2, oD (F 0) (ra 0) (ka 0))), (da 1, .inr (2, oD (F 1) (ra 1) (ka 1))), (da 2, .inr (2, oD (F 2) (ra 2) (ka 2)))] sz)) 0 0 (va_A [(h0, .inr (0, oT uT p9 a9 e9 n9 o9)), (a9, .inl (ca, 3, .inr (.inr (.inr (.inr (mo da)))))), (da 0, .inr (2, oD (F 0) (ra 0) (ka 0))), (da 1, .inr (2, oD (F 1) (ra 1) (ka 1))), (da 2, .inr (2, oD (F 2) (ra 2) (ka 2)))] sz) := by
  refine Met.ofW (cc := b_T_freeze) (maxL := 3) (ret := (some .boolean)) (by decide) rfl ?_
  intro p e s m args below meth c s₁ B hml hv
  obtain ⟨rfl, hsz, hP, hK, hD0⟩ := hv
  have hx := B.exec
  have hb := B.bytes
  have hr := B.returns
  have hts := atoms_spec (ws := (tbw y_T_freeze b_T_freeze 3 (some .boolean))) B.pre
  have hw : ∀ z9 ∈ tb, z9.before ([.ref h0, .int x, .int zb] : List Value).toArray s = true := fun z9 h => hts z9 (List.mem_cons_of_mem _ h)
  have hown : s.vm.findClass "VotedTriple" = some m.cls := findClass_of_methodNamed B.named
  have hlocks := B.notSynchronized
  subst hsz
  replace hD := hD0.self (sz := s.heap.size)
  generalize hAe : va_A [(h0, .inr (0, oT uT p9 a9 e9 n9 o9)), (a9, .inl (ca, 3, .inr (.inr (.inr (.inr (mo da)))))), (da 0, .inr (2, oD (F 0) (ra 0) (ka 0))), (da 1, .inr (2, oD (F 1) (ra 1) (ka 1))), (da 2, .inr (2, oD (F 2) (ra 2) (ka 2)))] s.heap.size = A at hD ⊢
  have hA : ∀ q : Nat, s.heap.size ≤ q → A q := fun q h => by rw [← hAe]; exact Or.inr h
  have hS : va_S A s.heap s.heap [] := va_S.rf
  replace hl := lv_entry ([.ref h0, .int x, .int zb]) (n := 3) (Nat.le_of_ble_eq_true rfl)
  rw [lg_entry_eq]
  generalize (lg_sl ([.ref h0, .int x, .int zb]) ++ List.replicate (3 - (lg_sl ([.ref h0, .int x, .int zb])).length) Slot.unset).toArray = ls at hl ⊢
  replace hl : lv_has ls 3 [(0, .ref h0), (1, .int x), (2, .int zb)] := hl
  generalize hSP : s_T_freeze uT F x zb = SP
  refine lv_aload_n hx hb d_T_freeze_0 rfl (lv_at hl 0 rfl) ?_
  refine lv_iload_n hx hb d_T_freeze_1 rfl (lv_at hl 1 rfl) ?_
  replace hPc := hP.sub (ws' := [(h0, .inr (0, oT uT p9 a9 e9 n9 o9))]) [0] rfl
  replace hKc := hK.sub (tys' := []) [] rfl
  refine vp_callSi (va_runV (C := "VotedTriple") (As := [.int x]) (rest := []) ⟨hx, hb, hml, hown, hw⟩ (c_T_hasModule l dC dI h0 p9 a9 e9 n9 o9 uT x) (cwV 1 hw (gdV (k_339) (k_336) (k_338) (ks_0) (k_1)) rfl rfl rfl (by decide +kernel) ⟨Nat.le_of_ble_eq_true rfl, Nat.le_of_ble_eq_true rfl⟩) ⟨fun a U g mk q => ⟨q.1, q.2.1, va_K.moved (u := U) (U := U.calling g mk a) (Vm.Alike.refl U.vm) q.2.2⟩, va_recv hK hP rfl (q0 := 0) rfl, fun U hU hW => ⟨rfl, by rw [hU]; exact hPc, va_K.moved hW.alike hKc⟩⟩ rfl rfl hl.1 rfl (lv_room (Nat.le_of_ble_eq_true rfl)) d_T_freeze_2 ⟨Nat.le_of_ble_eq_true rfl, Nat.le_of_ble_eq_true rfl⟩).run (fun r1 hr2 => ?_)
  subst hr2
  refine lv_if_ne (tgt := 10) hx hb d_T_freeze_5 rfl (fun hc3 => ?_) (fun hc3 => ?_)
  · --  ¬ (bI (hmB uT x)) = 0
    obtain ⟨hs5, rfl | rfl | rfl⟩ := hm_c hc3
    · --  0
      refine lv_aload_n hx hb d_T_freeze_10 rfl (lv_at hl 0 rfl) ?_
      refine va_get (D := (dC, dI)) (ci := 0) (v := .ref a9) (C := "VotedTriple") (T := F_T) (N := 11) hx hb hw in_T hown hK hP 0 rfl rfl 1 (by decide) (hw _ k_195) (fun _ h9 => h9) rfl d_T_freeze_11 ?_
      refine lv_iload_n hx hb d_T_freeze_14 rfl (lv_at hl 1 rfl) ?_
      refine va_aldq hx hb hK hP 1 0 rfl rfl (by unfold vp_in; decide) d_T_freeze_15 ?_
      refine W.eq (g2 := F0 m 16 ls [.ref (da 0)]) rfl ?_
      refine lv_iload_n hx hb d_T_freeze_16 rfl (lv_at hl 2 rfl) ?_
      refine va_put (D := (dC, dI)) (ci := 2) (v := .int zb) (ty := .boolean) (C := "VotedTriple$VotedModule") (T := F_D) (N := 19) hx hb hw in_D ft_D tyok_D nm_D hown hK hP hD hS 2 rfl rfl 11 (by decide) (hw _ k_149) (fun _ h9 => h9) rfl (by decide +kernel) hz_zb.1 hz_zb.2 (Nat.le_of_ble_eq_true rfl) d_T_freeze_17 (fun H locs hP hD hS => ?_)
      replace hP : va_P (dC, dI) classes [(h0, .inr (0, oT uT p9 a9 e9 n9 o9)), (a9, .inl (ca, 3, .inr (.inr (.inr (.inr (mo da)))))), (da 0, .inr (2, [.ref (ra 0), .int (F 0 1), .int (F 0 2), .int (F 0 3), .int (F 0 4), .int (F 0 5), .int (F 0 6), .ref (ka 0), .int (F 0 8), .int (F 0 9), .int (F 0 10), .int zb, .int (F 0 12), .int (F 0 13), .int (F 0 14), .int (F 0 15), .int (F 0 16), .int (F 0 17), .int (F 0 18)])), (da 1, .inr (2, oD (F 1) (ra 1) (ka 1))), (da 2, .inr (2, oD (F 2) (ra 2) (ka 2)))] H := hP
      replace hD : va_D A [(h0, .inr (0, oT uT p9 a9 e9 n9 o9)), (a9, .inl (ca, 3, .inr (.inr (.inr (.inr (mo da)))))), (da 0, .inr (2, [.ref (ra 0), .int (F 0 1), .int (F 0 2), .int (F 0 3), .int (F 0 4), .int (F 0 5), .int (F 0 6), .ref (ka 0), .int (F 0 8), .int (F 0 9), .int (F 0 10), .int zb, .int (F 0 12), .int (F 0 13), .int (F 0 14), .int (F 0 15), .int (F 0 16), .int (F 0 17), .int (F 0 18)])), (da 1, .inr (2, oD (F 1) (ra 1) (ka 1))), (da 2, .inr (2, oD (F 2) (ra 2) (ka 2)))] := hD
      refine lv_iconst (v := 1) hx hb d_T_freeze_20 (by decide) ?_
      have hP9 := hP.sub (ws' := [(h0, .inr (0, oT uT p9 a9 e9 n9 o9)), (a9, .inl (ca, 3, .inr (.inr (.inr (.inr (mo da)))))), (da 0, .inr (2, oD (tri (upc (F 0) 11 zb) (F 1) (F 2) 0) (ra 0) (ka 0))), (da 1, .inr (2, oD (tri (upc (F 0) 11 zb) (F 1) (F 2) 1) (ra 1) (ka 1))), (da 2, .inr (2, oD (tri (upc (F 0) 11 zb) (F 1) (F 2) 2) (ra 2) (ka 2)))]) [0, 1, 2, 3, 4] rfl
      have hD9 := hD.sub (ws' := [(h0, .inr (0, oT uT p9 a9 e9 n9 o9)), (a9, .inl (ca, 3, .inr (.inr (.inr (.inr (mo da)))))), (da 0, .inr (2, oD (tri (upc (F 0) 11 zb) (F 1) (F 2) 0) (ra 0) (ka 0))), (da 1, .inr (2, oD (tri (upc (F 0) 11 zb) (F 1) (F 2) 1) (ra 1) (ka 1))), (da 2, .inr (2, oD (tri (upc (F 0) 11 zb) (F 1) (F 2) 2) (ra 2) (ka 2)))]) [0, 1, 2, 3, 4] (by decide) rfl
      have hK9 := hK.sub (tys' := [(ca, .object "VotedTriple$VotedModule")]) [0] rfl
      refine W.widen (k := 0) (n := 0) (Nat.le_of_ble_eq_true rfl) (Nat.le_of_ble_eq_true rfl) ?_
      exact W.zret (v := 1) (ty := .boolean) hx hb hr rfl (fun t ht hW => ⟨⟨_, (tri (upc (F 0) 11 zb) (F 1) (F 2)), rfl, ⟨⟨bI_1 hc3, hF⟩, (by rw [← hSP, s_T_freeze]; try (rw [if_neg hc3]); try (rw [if_pos rfl]); all_goals rfl)⟩, by rw [ht]; exact hP9, va_K.moved hW.alike hK9, hD9⟩, hS.F ht⟩) hS.2.2 d_T_freeze_21
    · --  1
      refine lv_aload_n hx hb d_T_freeze_10 rfl (lv_at hl 0 rfl) ?_
      refine va_get (D := (dC, dI)) (ci := 0) (v := .ref a9) (C := "VotedTriple") (T := F_T) (N := 11) hx hb hw in_T hown hK hP 0 rfl rfl 1 (by decide) (hw _ k_195) (fun _ h9 => h9) rfl d_T_freeze_11 ?_
      refine lv_iload_n hx hb d_T_freeze_14 rfl (lv_at hl 1 rfl) ?_
      refine va_aldq hx hb hK hP 1 0 rfl rfl (by unfold vp_in; decide) d_T_freeze_15 ?_
      refine W.eq (g2 := F0 m 16 ls [.ref (da 1)]) rfl ?_
      refine lv_iload_n hx hb d_T_freeze_16 rfl (lv_at hl 2 rfl) ?_
      refine va_put (D := (dC, dI)) (ci := 2) (v := .int zb) (ty := .boolean) (C := "VotedTriple$VotedModule") (T := F_D) (N := 19) hx hb hw in_D ft_D tyok_D nm_D hown hK hP hD hS 3 rfl rfl 11 (by decide) (hw _ k_149) (fun _ h9 => h9) rfl (by decide +kernel) hz_zb.1 hz_zb.2 (Nat.le_of_ble_eq_true rfl) d_T_freeze_17 (fun H locs hP hD hS => ?_)
      replace hP : va_P (dC, dI) classes [(h0, .inr (0, oT uT p9 a9 e9 n9 o9)), (a9, .inl (ca, 3, .inr (.inr (.inr (.inr (mo da)))))), (da 0, .inr (2, oD (F 0) (ra 0) (ka 0))), (da 1, .inr (2, [.ref (ra 1), .int (F 1 1), .int (F 1 2), .int (F 1 3), .int (F 1 4), .int (F 1 5), .int (F 1 6), .ref (ka 1), .int (F 1 8), .int (F 1 9), .int (F 1 10), .int zb, .int (F 1 12), .int (F 1 13), .int (F 1 14), .int (F 1 15), .int (F 1 16), .int (F 1 17), .int (F 1 18)])), (da 2, .inr (2, oD (F 2) (ra 2) (ka 2)))] H := hP
      replace hD : va_D A [(h0, .inr (0, oT uT p9 a9 e9 n9 o9)), (a9, .inl (ca, 3, .inr (.inr (.inr (.inr (mo da)))))), (da 0, .inr (2, oD (F 0) (ra 0) (ka 0))), (da 1, .inr (2, [.ref (ra 1), .int (F 1 1), .int (F 1 2), .int (F 1 3), .int (F 1 4), .int (F 1 5), .int (F 1 6), .ref (ka 1), .int (F 1 8), .int (F 1 9), .int (F 1 10), .int zb, .int (F 1 12), .int (F 1 13), .int (F 1 14), .int (F 1 15), .int (F 1 16), .int (F 1 17), .int (F 1 18)])), (da 2, .inr (2, oD (F 2) (ra 2) (ka 2)))] := hD
      refine lv_iconst (v := 1) hx hb d_T_freeze_20 (by decide) ?_
      have hP9 := hP.sub (ws' := [(h0, .inr (0, oT uT p9 a9 e9 n9 o9)), (a9, .inl (ca, 3, .inr (.inr (.inr (.inr (mo da)))))), (da 0, .inr (2, oD (tri (F 0) (upc (F 1) 11 zb) (F 2) 0) (ra 0) (ka 0))), (da 1, .inr (2, oD (tri (F 0) (upc (F 1) 11 zb) (F 2) 1) (ra 1) (ka 1))), (da 2, .inr (2, oD (tri (F 0) (upc (F 1) 11 zb) (F 2) 2) (ra 2) (ka 2)))]) [0, 1, 2, 3, 4] rfl
      have hD9 := hD.sub (ws' := [(h0, .inr (0, oT uT p9 a9 e9 n9 o9)), (a9, .inl (ca, 3, .inr (.inr (.inr (.inr (mo da)))))), (da 0, .inr (2, oD (tri (F 0) (upc (F 1) 11 zb) (F 2) 0) (ra 0) (ka 0))), (da 1, .inr (2, oD (tri (F 0) (upc (F 1) 11 zb) (F 2) 1) (ra 1) (ka 1))), (da 2, .inr (2, oD (tri (F 0) (upc (F 1) 11 zb) (F 2) 2) (ra 2) (ka 2)))]) [0, 1, 2, 3, 4] (by decide) rfl
      have hK9 := hK.sub (tys' := [(ca, .object "VotedTriple$VotedModule")]) [0] rfl
      refine W.widen (k := 0) (n := 0) (Nat.le_of_ble_eq_true rfl) (Nat.le_of_ble_eq_true rfl) ?_
      exact W.zret (v := 1) (ty := .boolean) hx hb hr rfl (fun t ht hW => ⟨⟨_, (tri (F 0) (upc (F 1) 11 zb) (F 2)), rfl, ⟨⟨bI_1 hc3, hF⟩, (by rw [← hSP, s_T_freeze]; try (rw [if_neg hc3]); try (rw [if_neg (by decide)]); try (rw [if_pos rfl]); all_goals rfl)⟩, by rw [ht]; exact hP9, va_K.moved hW.alike hK9, hD9⟩, hS.F ht⟩) hS.2.2 d_T_freeze_21
    · --  2
      refine lv_aload_n hx hb d_T_freeze_10 rfl (lv_at hl 0 rfl) ?_
      refine va_get (D := (dC, dI)) (ci := 0) (v := .ref a9) (C := "VotedTriple") (T := F_T) (N := 11) hx hb hw in_T hown hK hP 0 rfl rfl 1 (by decide) (hw _ k_195) (fun _ h9 => h9) rfl d_T_freeze_11 ?_
      refine lv_iload_n hx hb d_T_freeze_14 rfl (lv_at hl 1 rfl) ?_
      refine va_aldq hx hb hK hP 1 0 rfl rfl (by unfold vp_in; decide) d_T_freeze_15 ?_
      refine W.eq (g2 := F0 m 16 ls [.ref (da 2)]) rfl ?_
      refine lv_iload_n hx hb d_T_freeze_16 rfl (lv_at hl 2 rfl) ?_
      refine va_put (D := (dC, dI)) (ci := 2) (v := .int zb) (ty := .boolean) (C := "VotedTriple$VotedModule") (T := F_D) (N := 19) hx hb hw in_D ft_D tyok_D nm_D hown hK hP hD hS 4 rfl rfl 11 (by decide) (hw _ k_149) (fun _ h9 => h9) rfl (by decide +kernel) hz_zb.1 hz_zb.2 (Nat.le_of_ble_eq_true rfl) d_T_freeze_17 (fun H locs hP hD hS => ?_)
      replace hP : va_P (dC, dI) classes [(h0, .inr (0, oT uT p9 a9 e9 n9 o9)), (a9, .inl (ca, 3, .inr (.inr (.inr (.inr (mo da)))))), (da 0, .inr (2, oD (F 0) (ra 0) (ka 0))), (da 1, .inr (2, oD (F 1) (ra 1) (ka 1))), (da 2, .inr (2, [.ref (ra 2), .int (F 2 1), .int (F 2 2), .int (F 2 3), .int (F 2 4), .int (F 2 5), .int (F 2 6), .ref (ka 2), .int (F 2 8), .int (F 2 9), .int (F 2 10), .int zb, .int (F 2 12), .int (F 2 13), .int (F 2 14), .int (F 2 15), .int (F 2 16), .int (F 2 17), .int (F 2 18)]))] H := hP
      replace hD : va_D A [(h0, .inr (0, oT uT p9 a9 e9 n9 o9)), (a9, .inl (ca, 3, .inr (.inr (.inr (.inr (mo da)))))), (da 0, .inr (2, oD (F 0) (ra 0) (ka 0))), (da 1, .inr (2, oD (F 1) (ra 1) (ka 1))), (da 2, .inr (2, [.ref (ra 2), .int (F 2 1), .int (F 2 2), .int (F 2 3), .int (F 2 4), .int (F 2 5), .int (F 2 6), .ref (ka 2), .int (F 2 8), .int (F 2 9), .int (F 2 10), .int zb, .int (F 2 12), .int (F 2 13), .int (F 2 14), .int (F 2 15), .int (F 2 16), .int (F 2 17), .int (F 2 18)]))] := hD
      refine lv_iconst (v := 1) hx hb d_T_freeze_20 (by decide) ?_
      have hP9 := hP.sub (ws' := [(h0, .inr (0, oT uT p9 a9 e9 n9 o9)), (a9, .inl (ca, 3, .inr (.inr (.inr (.inr (mo da)))))), (da 0, .inr (2, oD (tri (F 0) (F 1) (upc (F 2) 11 zb) 0) (ra 0) (ka 0))), (da 1, .inr (2, oD (tri (F 0) (F 1) (upc (F 2) 11 zb) 1) (ra 1) (ka 1))), (da 2, .inr (2, oD (tri (F 0) (F 1) (upc (F 2) 11 zb) 2) (ra 2) (ka 2)))]) [0, 1, 2, 3, 4] rfl
      have hD9 := hD.sub (ws' := [(h0, .inr (0, oT uT p9 a9 e9 n9 o9)), (a9, .inl (ca, 3, .inr (.inr (.inr (.inr (mo da)))))), (da 0, .inr (2, oD (tri (F 0) (F 1) (upc (F 2) 11 zb) 0) (ra 0) (ka 0))), (da 1, .inr (2, oD (tri (F 0) (F 1) (upc (F 2) 11 zb) 1) (ra 1) (ka 1))), (da 2, .inr (2, oD (tri (F 0) (F 1) (upc (F 2) 11 zb) 2) (ra 2) (ka 2)))]) [0, 1, 2, 3, 4] (by decide) rfl
      have hK9 := hK.sub (tys' := [(ca, .object "VotedTriple$VotedModule")]) [0] rfl
      refine W.widen (k := 0) (n := 0) (Nat.le_of_ble_eq_true rfl) (Nat.le_of_ble_eq_true rfl) ?_
      exact W.zret (v := 1) (ty := .boolean) hx hb hr rfl (fun t ht hW => ⟨⟨_, (tri (F 0) (F 1) (upc (F 2) 11 zb)), rfl, ⟨⟨bI_1 hc3, hF⟩, (by rw [← hSP, s_T_freeze]; try (rw [if_neg hc3]); try (rw [if_neg (by decide)]); try (rw [if_neg (by decide)]); all_goals rfl)⟩, by rw [ht]; exact hP9, va_K.moved hW.alike hK9, hD9⟩, hS.F ht⟩) hS.2.2 d_T_freeze_21
  · --  (bI (hmB uT x)) = 0
    refine lv_iconst (v := 0) hx hb d_T_freeze_8 (by decide) ?_
    have hP9 := hP.sub (ws' := [(h0, .inr (0, oT uT p9 a9 e9 n9 o9)), (a9, .inl (ca, 3, .inr (.inr (.inr (.inr (mo da)))))), (da 0, .inr (2, oD (F 0) (ra 0) (ka 0))), (da 1, .inr (2, oD (F 1) (ra 1) (ka 1))), (da 2, .inr (2, oD (F 2) (ra 2) (ka 2)))]) [0, 1, 2, 3, 4] rfl
    have hD9 := hD.sub (ws' := [(h0, .inr (0, oT uT p9 a9 e9 n9 o9)), (a9, .inl (ca, 3, .inr (.inr (.inr (.inr (mo da)))))), (da 0, .inr (2, oD (F 0) (ra 0) (ka 0))), (da 1, .inr (2, oD (F 1) (ra 1) (ka 1))), (da 2, .inr (2, oD (F 2) (ra 2) (ka 2)))]) [0, 1, 2, 3, 4] (by decide) rfl
    have hK9 := hK.sub (tys' := [(ca, .object "VotedTriple$VotedModule")]) [0] rfl
    refine W.widen (k := 0) (n := 0) (Nat.le_of_ble_eq_true rfl) (Nat.le_of_ble_eq_true rfl) ?_
    exact W.zret (v := 0) (ty := .boolean) hx hb hr rfl (fun t ht hW => ⟨⟨_, (F), rfl, ⟨⟨hc3.symm, hF⟩, (by rw [← hSP, s_T_freeze]; try (rw [if_pos hc3]); all_goals rfl)⟩, by rw [ht]; exact hP9, va_K.moved hW.alike hK9, hD9⟩, hS.F ht⟩) hS.2.2 d_T_freeze_9

set_option maxHeartbeats 4000000 in
set_option maxRecDepth 100000 in
theorem c_T_skip (l : Launch) (dC : Nat → ClassId) (dI : Nat → Nat → Nat) (h0 : Nat) (p9 : Nat) (a9 : Nat) (e9 : Nat) (n9 : Nat) (o9 : Nat) (ca : ClassId) (da : Nat → Nat) (ra : Nat → Nat) (ka : Nat → Nat) (uT : Nat → Int32) (F : Nat → Nat → Int32) (x : Int32) (hF : f3 F) (sz : Nat) : Met l y_T_skip (tbw y_T_skip b_T_skip 2 (some .boolean)) ({ frames := 1, cells := 0, slots := 0, locals := 21 }) (va_Pc [.ref h0, .int x] (fun U => U.heap.size = sz ∧ va_P (dC, dI) classes [(h0, .inr (0, oT uT p9 a9 e9 n9 o9)), (a9, .inl (ca, 3, .inr (.inr (.inr (.inr (mo da)))))), (da 0, .inr (2, oD (F 0) (ra 0) (ka 0))), (da 1, .inr (2, oD (F 1) (ra 1) (ka 1))), (da 2, .inr (2, oD (F 2) (ra 2) (ka 2)))] U.heap ∧ va_K (dC, dI) classes [(ca, .object "VotedTriple$VotedModule")] U ∧ va_D (fun _ => True) [(h0, .inr (0, oT uT p9 a9 e9 n9 o9)), (a9, .inl (ca, 3, .inr (.inr (.inr (.inr (mo da)))))), (da 0, .inr (2, oD (F 0) (ra 0) (ka 0))), (da 1, .inr (2, oD (F 1) (ra 1) (ka 1))), (da 2, .inr (2, oD (F 2) (ra 2) (ka 2)))])) (va_Qi (fun (r : Int32) (u9 : (Nat → Nat → Int32)) => match u9 with | F2 => (r = bI (hmB uT x) ∧ f3 F2) ∧ (r, F2) = s_T_skip uT F x) (fun (u9 : (Nat → Nat → Int32)) t => match u9 with | F2 => va_P (dC, dI) classes [(h0, .inr (0, oT uT p9 a9 e9 n9 o9)), (a9, .inl (ca, 3, .inr (.inr (.inr (.inr (mo da)))))), (da 0, .inr (2, oD (F2 0) (ra 0) (ka 0))), (da 1, .inr (2, oD (F2 1) (ra 1) (ka 1))), (da 2, .inr (2, oD (F2 2) (ra 2) (ka 2)))] t.heap ∧ va_K (dC, dI) classes [(ca, .object "VotedTriple$VotedModule")] t ∧ va_D (va_A [(h0, .inr (0, oT uT p9 a9 e9 n9 o9)), (a9, .inl (ca, 3, .inr (.inr (.inr (.inr (mo da)))))), (da 0, .inr (2, oD (F 0) (ra 0) (ka 0))), (da 1, .inr (2, oD (F 1) (ra 1) (ka 1))), (da 2, .inr (2, oD (F 2) (ra 2) (ka 2)))] sz) [(h0, .inr (0, oT uT p9 a9 e9 n9 o9)), (a9, .inl (ca, 3, .inr (.inr (.inr (.inr (mo da)))))), (da 0, .inr (2, oD (F2 0) (ra 0) (ka 0))), (da 1, .inr (2, oD (F2 1) (ra 1) (ka 1))), (da 2, .inr (2, oD (F2 2) (ra 2) (ka 2)))]) (va_A [(h0, .inr (0, oT uT p9 a9 e9 n9 o9)), (a9, .inl (ca, 3, .inr (.inr (.inr (.inr (mo da)))))), (da 0, .inr (2, oD (F 0) (ra 0) (ka 0))), (da 1, .inr (2, oD (F 1) (ra 1) (ka 1))), (da 2, .inr (2, oD (F 2) (ra 2) (ka 2)))] sz)) 0 0 (va_A [(h0, .inr (0, oT uT p9 a9 e9 n9 o9)), (a9, .inl (ca, 3, .inr (.inr (.inr (.inr (mo da)))))), (da 0, .inr (2, oD (F 0) (ra 0) (ka 0))), (da 1, .inr (2, oD (F 1) (ra 1) (ka 1))), (da 2, .inr (2, oD (F 2) (ra 2) (ka 2)))] sz) := by
  refine Met.ofW (cc := b_T_skip) (maxL := 2) (ret := (some .boolean)) (by decide) rfl ?_
  intro p e s m args below meth c s₁ B hml hv
  obtain ⟨rfl, hsz, hP, hK, hD0⟩ := hv
  have hx := B.exec
  have hb := B.bytes
  have hr := B.returns
  have hts := atoms_spec (ws := (tbw y_T_skip b_T_skip 2 (some .boolean))) B.pre
  have hw : ∀ z9 ∈ tb, z9.before ([.ref h0, .int x] : List Value).toArray s = true := fun z9 h => hts z9 (List.mem_cons_of_mem _ h)
  have hown : s.vm.findClass "VotedTriple" = some m.cls := findClass_of_methodNamed B.named
  have hlocks := B.notSynchronized
  subst hsz
  replace hD := hD0.self (sz := s.heap.size)
  generalize hAe : va_A [(h0, .inr (0, oT uT p9 a9 e9 n9 o9)), (a9, .inl (ca, 3, .inr (.inr (.inr (.inr (mo da)))))), (da 0, .inr (2, oD (F 0) (ra 0) (ka 0))), (da 1, .inr (2, oD (F 1) (ra 1) (ka 1))), (da 2, .inr (2, oD (F 2) (ra 2) (ka 2)))] s.heap.size = A at hD ⊢
  have hA : ∀ q : Nat, s.heap.size ≤ q → A q := fun q h => by rw [← hAe]; exact Or.inr h
  have hS : va_S A s.heap s.heap [] := va_S.rf
  replace hl := lv_entry ([.ref h0, .int x]) (n := 2) (Nat.le_of_ble_eq_true rfl)
  rw [lg_entry_eq]
  generalize (lg_sl ([.ref h0, .int x]) ++ List.replicate (2 - (lg_sl ([.ref h0, .int x])).length) Slot.unset).toArray = ls at hl ⊢
  replace hl : lv_has ls 2 [(0, .ref h0), (1, .int x)] := hl
  generalize hSP : s_T_skip uT F x = SP
  refine lv_aload_n hx hb d_T_skip_0 rfl (lv_at hl 0 rfl) ?_
  refine lv_iload_n hx hb d_T_skip_1 rfl (lv_at hl 1 rfl) ?_
  replace hPc := hP.sub (ws' := [(h0, .inr (0, oT uT p9 a9 e9 n9 o9))]) [0] rfl
  replace hKc := hK.sub (tys' := []) [] rfl
  refine vp_callSi (va_runV (C := "VotedTriple") (As := [.int x]) (rest := []) ⟨hx, hb, hml, hown, hw⟩ (c_T_hasModule l dC dI h0 p9 a9 e9 n9 o9 uT x) (cwV 1 hw (gdV (k_339) (k_336) (k_338) (ks_0) (k_1)) rfl rfl rfl (by decide +kernel) ⟨Nat.le_of_ble_eq_true rfl, Nat.le_of_ble_eq_true rfl⟩) ⟨fun a U g mk q => ⟨q.1, q.2.1, va_K.moved (u := U) (U := U.calling g mk a) (Vm.Alike.refl U.vm) q.2.2⟩, va_recv hK hP rfl (q0 := 0) rfl, fun U hU hW => ⟨rfl, by rw [hU]; exact hPc, va_K.moved hW.alike hKc⟩⟩ rfl rfl hl.1 rfl (lv_room (Nat.le_of_ble_eq_true rfl)) d_T_skip_2 ⟨Nat.le_of_ble_eq_true rfl, Nat.le_of_ble_eq_true rfl⟩).run (fun r1 hr2 => ?_)
  subst hr2
  refine lv_if_ne (tgt := 10) hx hb d_T_skip_5 rfl (fun hc3 => ?_) (fun hc3 => ?_)
  · --  ¬ (bI (hmB uT x)) = 0
    obtain ⟨hs5, rfl | rfl | rfl⟩ := hm_c hc3
    · --  0
      refine lv_aload_n hx hb d_T_skip_10 rfl (lv_at hl 0 rfl) ?_
      refine va_get (D := (dC, dI)) (ci := 0) (v := .ref a9) (C := "VotedTriple") (T := F_T) (N := 11) hx hb hw in_T hown hK hP 0 rfl rfl 1 (by decide) (hw _ k_195) (fun _ h9 => h9) rfl d_T_skip_11 ?_
      refine lv_iload_n hx hb d_T_skip_14 rfl (lv_at hl 1 rfl) ?_
      refine va_aldq hx hb hK hP 1 0 rfl rfl (by unfold vp_in; decide) d_T_skip_15 ?_
      refine W.eq (g2 := F0 m 16 ls [.ref (da 0)]) rfl ?_
      refine lv_iconst (v := 1) hx hb d_T_skip_16 (by decide) ?_
      refine va_put (D := (dC, dI)) (ci := 2) (v := .int 1) (ty := .boolean) (C := "VotedTriple$VotedModule") (T := F_D) (N := 19) hx hb hw in_D ft_D tyok_D nm_D hown hK hP hD hS 2 rfl rfl 12 (by decide) (hw _ k_151) (fun _ h9 => h9) rfl (by decide +kernel) rfl rfl (Nat.le_of_ble_eq_true rfl) d_T_skip_17 (fun H locs hP hD hS => ?_)
      replace hP : va_P (dC, dI) classes [(h0, .inr (0, oT uT p9 a9 e9 n9 o9)), (a9, .inl (ca, 3, .inr (.inr (.inr (.inr (mo da)))))), (da 0, .inr (2, [.ref (ra 0), .int (F 0 1), .int (F 0 2), .int (F 0 3), .int (F 0 4), .int (F 0 5), .int (F 0 6), .ref (ka 0), .int (F 0 8), .int (F 0 9), .int (F 0 10), .int (F 0 11), .int 1, .int (F 0 13), .int (F 0 14), .int (F 0 15), .int (F 0 16), .int (F 0 17), .int (F 0 18)])), (da 1, .inr (2, oD (F 1) (ra 1) (ka 1))), (da 2, .inr (2, oD (F 2) (ra 2) (ka 2)))] H := hP
      replace hD : va_D A [(h0, .inr (0, oT uT p9 a9 e9 n9 o9)), (a9, .inl (ca, 3, .inr (.inr (.inr (.inr (mo da)))))), (da 0, .inr (2, [.ref (ra 0), .int (F 0 1), .int (F 0 2), .int (F 0 3), .int (F 0 4), .int (F 0 5), .int (F 0 6), .ref (ka 0), .int (F 0 8), .int (F 0 9), .int (F 0 10), .int (F 0 11), .int 1, .int (F 0 13), .int (F 0 14), .int (F 0 15), .int (F 0 16), .int (F 0 17), .int (F 0 18)])), (da 1, .inr (2, oD (F 1) (ra 1) (ka 1))), (da 2, .inr (2, oD (F 2) (ra 2) (ka 2)))] := hD
      refine lv_iconst (v := 1) hx hb d_T_skip_20 (by decide) ?_
      have hP9 := hP.sub (ws' := [(h0, .inr (0, oT uT p9 a9 e9 n9 o9)), (a9, .inl (ca, 3, .inr (.inr (.inr (.inr (mo da)))))), (da 0, .inr (2, oD (tri (upc (F 0) 12 (1 : Int32)) (F 1) (F 2) 0) (ra 0) (ka 0))), (da 1, .inr (2, oD (tri (upc (F 0) 12 (1 : Int32)) (F 1) (F 2) 1) (ra 1) (ka 1))), (da 2, .inr (2, oD (tri (upc (F 0) 12 (1 : Int32)) (F 1) (F 2) 2) (ra 2) (ka 2)))]) [0, 1, 2, 3, 4] rfl
      have hD9 := hD.sub (ws' := [(h0, .inr (0, oT uT p9 a9 e9 n9 o9)), (a9, .inl (ca, 3, .inr (.inr (.inr (.inr (mo da)))))), (da 0, .inr (2, oD (tri (upc (F 0) 12 (1 : Int32)) (F 1) (F 2) 0) (ra 0) (ka 0))), (da 1, .inr (2, oD (tri (upc (F 0) 12 (1 : Int32)) (F 1) (F 2) 1) (ra 1) (ka 1))), (da 2, .inr (2, oD (tri (upc (F 0) 12 (1 : Int32)) (F 1) (F 2) 2) (ra 2) (ka 2)))]) [0, 1, 2, 3, 4] (by decide) rfl
      have hK9 := hK.sub (tys' := [(ca, .object "VotedTriple$VotedModule")]) [0] rfl
      refine W.widen (k := 0) (n := 0) (Nat.le_of_ble_eq_true rfl) (Nat.le_of_ble_eq_true rfl) ?_
      exact W.zret (v := 1) (ty := .boolean) hx hb hr rfl (fun t ht hW => ⟨⟨_, (tri (upc (F 0) 12 (1 : Int32)) (F 1) (F 2)), rfl, ⟨⟨bI_1 hc3, hF⟩, (by rw [← hSP, s_T_skip]; try (rw [if_neg hc3]); try (rw [if_pos rfl]); all_goals rfl)⟩, by rw [ht]; exact hP9, va_K.moved hW.alike hK9, hD9⟩, hS.F ht⟩) hS.2.2 d_T_skip_21
    · --  1
      refine lv_aload_n hx hb d_T_skip_10 rfl (lv_at hl 0 rfl) ?_
      refine va_get (D := (dC, dI)) (ci := 0) (v := .ref a9) (C := "VotedTriple") (T := F_T) (N := 11) hx hb hw in_T hown hK hP 0 rfl rfl 1 (by decide) (hw _ k_195) (fun _ h9 => h9) rfl d_T_skip_11 ?_
      refine lv_iload_n hx hb d_T_skip_14 rfl (lv_at hl 1 rfl) ?_
      refine va_aldq hx hb hK hP 1 0 rfl rfl (by unfold vp_in; decide) d_T_skip_15 ?_
      refine W.eq (g2 := F0 m 16 ls [.ref (da 1)]) rfl ?_
      refine lv_iconst (v := 1) hx hb d_T_skip_16 (by decide) ?_
      refine va_put (D := (dC, dI)) (ci := 2) (v := .int 1) (ty := .boolean) (C := "VotedTriple$VotedModule") (T := F_D) (N := 19) hx hb hw in_D ft_D tyok_D nm_D hown hK hP hD hS 3 rfl rfl 12 (by decide) (hw _ k_151) (fun _ h9 => h9) rfl (by decide +kernel) rfl rfl (Nat.le_of_ble_eq_true rfl) d_T_skip_17 (fun H locs hP hD hS => ?_)
      replace hP : va_P (dC, dI) classes [(h0, .inr (0, oT uT p9 a9 e9 n9 o9)), (a9, .inl (ca, 3, .inr (.inr (.inr (.inr (mo da)))))), (da 0, .inr (2, oD (F 0) (ra 0) (ka 0))), (da 1, .inr (2, [.ref (ra 1), .int (F 1 1), .int (F 1 2), .int (F 1 3), .int (F 1 4), .int (F 1 5), .int (F 1 6), .ref (ka 1), .int (F 1 8), .int (F 1 9), .int (F 1 10), .int (F 1 11), .int 1, .int (F 1 13), .int (F 1 14), .int (F 1 15), .int (F 1 16), .int (F 1 17), .int (F 1 18)])), (da 2, .inr (2, oD (F 2) (ra 2) (ka 2)))] H := hP
      replace hD : va_D A [(h0, .inr (0, oT uT p9 a9 e9 n9 o9)), (a9, .inl (ca, 3, .inr (.inr (.inr (.inr (mo da)))))), (da 0, .inr (2, oD (F 0) (ra 0) (ka 0))), (da 1, .inr (2, [.ref (ra 1), .int (F 1 1), .int (F 1 2), .int (F 1 3), .int (F 1 4), .int (F 1 5), .int (F 1 6), .ref (ka 1), .int (F 1 8), .int (F 1 9), .int (F 1 10), .int (F 1 11), .int 1, .int (F 1 13), .int (F 1 14), .int (F 1 15), .int (F 1 16), .int (F 1 17), .int (F 1 18)])), (da 2, .inr (2, oD (F 2) (ra 2) (ka 2)))] := hD
      refine lv_iconst (v := 1) hx hb d_T_skip_20 (by decide) ?_
      have hP9 := hP.sub (ws' := [(h0, .inr (0, oT uT p9 a9 e9 n9 o9)), (a9, .inl (ca, 3, .inr (.inr (.inr (.inr (mo da)))))), (da 0, .inr (2, oD (tri (F 0) (upc (F 1) 12 (1 : Int32)) (F 2) 0) (ra 0) (ka 0))), (da 1, .inr (2, oD (tri (F 0) (upc (F 1) 12 (1 : Int32)) (F 2) 1) (ra 1) (ka 1))), (da 2, .inr (2, oD (tri (F 0) (upc (F 1) 12 (1 : Int32)) (F 2) 2) (ra 2) (ka 2)))]) [0, 1, 2, 3, 4] rfl
      have hD9 := hD.sub (ws' := [(h0, .inr (0, oT uT p9 a9 e9 n9 o9)), (a9, .inl (ca, 3, .inr (.inr (.inr (.inr (mo da)))))), (da 0, .inr (2, oD (tri (F 0) (upc (F 1) 12 (1 : Int32)) (F 2) 0) (ra 0) (ka 0))), (da 1, .inr (2, oD (tri (F 0) (upc (F 1) 12 (1 : Int32)) (F 2) 1) (ra 1) (ka 1))), (da 2, .inr (2, oD (tri (F 0) (upc (F 1) 12 (1 : Int32)) (F 2) 2) (ra 2) (ka 2)))]) [0, 1, 2, 3, 4] (by decide) rfl
      have hK9 := hK.sub (tys' := [(ca, .object "VotedTriple$VotedModule")]) [0] rfl
      refine W.widen (k := 0) (n := 0) (Nat.le_of_ble_eq_true rfl) (Nat.le_of_ble_eq_true rfl) ?_
      exact W.zret (v := 1) (ty := .boolean) hx hb hr rfl (fun t ht hW => ⟨⟨_, (tri (F 0) (upc (F 1) 12 (1 : Int32)) (F 2)), rfl, ⟨⟨bI_1 hc3, hF⟩, (by rw [← hSP, s_T_skip]; try (rw [if_neg hc3]); try (rw [if_neg (by decide)]); try (rw [if_pos rfl]); all_goals rfl)⟩, by rw [ht]; exact hP9, va_K.moved hW.alike hK9, hD9⟩, hS.F ht⟩) hS.2.2 d_T_skip_21
    · --  2
      refine lv_aload_n hx hb d_T_skip_10 rfl (lv_at hl 0 rfl) ?_
      refine va_get (D := (dC, dI)) (ci := 0) (v := .ref a9) (C := "VotedTriple") (T := F_T) (N := 11) hx hb hw in_T hown hK hP 0 rfl rfl 1 (by decide) (hw _ k_195) (fun _ h9 => h9) rfl d_T_skip_11 ?_
      refine lv_iload_n hx hb d_T_skip_14 rfl (lv_at hl 1 rfl) ?_
      refine va_aldq hx hb hK hP 1 0 rfl rfl (by unfold vp_in; decide) d_T_skip_15 ?_
      refine W.eq (g2 := F0 m 16 ls [.ref (da 2)]) rfl ?_
      refine lv_iconst (v := 1) hx hb d_T_skip_16 (by decide) ?_
      refine va_put (D := (dC, dI)) (ci := 2) (v := .int 1) (ty := .boolean) (C := "VotedTriple$VotedModule") (T := F_D) (N := 19) hx hb hw in_D ft_D tyok_D nm_D hown hK hP hD hS 4 rfl rfl 12 (by decide) (hw _ k_151) (fun _ h9 => h9) rfl (by decide +kernel) rfl rfl (Nat.le_of_ble_eq_true rfl) d_T_skip_17 (fun H locs hP hD hS => ?_)
      replace hP : va_P (dC, dI) classes [(h0, .inr (0, oT uT p9 a9 e9 n9 o9)), (a9, .inl (ca, 3, .inr (.inr (.inr (.inr (mo da)))))), (da 0, .inr (2, oD (F 0) (ra 0) (ka 0))), (da 1, .inr (2, oD (F 1) (ra 1) (ka 1))), (da 2, .inr (2, [.ref (ra 2), .int (F 2 1), .int (F 2 2), .int (F 2 3), .int (F 2 4), .int (F 2 5), .int (F 2 6), .ref (ka 2), .int (F 2 8), .int (F 2 9), .int (F 2 10), .int (F 2 11), .int 1, .int (F 2 13), .int (F 2 14), .int (F 2 15), .int (F 2 16), .int (F 2 17), .int (F 2 18)]))] H := hP
      replace hD : va_D A [(h0, .inr (0, oT uT p9 a9 e9 n9 o9)), (a9, .inl (ca, 3, .inr (.inr (.inr (.inr (mo da)))))), (da 0, .inr (2, oD (F 0) (ra 0) (ka 0))), (da 1, .inr (2, oD (F 1) (ra 1) (ka 1))), (da 2, .inr (2, [.ref (ra 2), .int (F 2 1), .int (F 2 2), .int (F 2 3), .int (F 2 4), .int (F 2 5), .int (F 2 6), .ref (ka 2), .int (F 2 8), .int (F 2 9), .int (F 2 10), .int (F 2 11), .int 1, .int (F 2 13), .int (F 2 14), .int (F 2 15), .int (F 2 16), .int (F 2 17), .int (F 2 18)]))] := hD
      refine lv_iconst (v := 1) hx hb d_T_skip_20 (by decide) ?_
      have hP9 := hP.sub (ws' := [(h0, .inr (0, oT uT p9 a9 e9 n9 o9)), (a9, .inl (ca, 3, .inr (.inr (.inr (.inr (mo da)))))), (da 0, .inr (2, oD (tri (F 0) (F 1) (upc (F 2) 12 (1 : Int32)) 0) (ra 0) (ka 0))), (da 1, .inr (2, oD (tri (F 0) (F 1) (upc (F 2) 12 (1 : Int32)) 1) (ra 1) (ka 1))), (da 2, .inr (2, oD (tri (F 0) (F 1) (upc (F 2) 12 (1 : Int32)) 2) (ra 2) (ka 2)))]) [0, 1, 2, 3, 4] rfl
      have hD9 := hD.sub (ws' := [(h0, .inr (0, oT uT p9 a9 e9 n9 o9)), (a9, .inl (ca, 3, .inr (.inr (.inr (.inr (mo da)))))), (da 0, .inr (2, oD (tri (F 0) (F 1) (upc (F 2) 12 (1 : Int32)) 0) (ra 0) (ka 0))), (da 1, .inr (2, oD (tri (F 0) (F 1) (upc (F 2) 12 (1 : Int32)) 1) (ra 1) (ka 1))), (da 2, .inr (2, oD (tri (F 0) (F 1) (upc (F 2) 12 (1 : Int32)) 2) (ra 2) (ka 2)))]) [0, 1, 2, 3, 4] (by decide) rfl
      have hK9 := hK.sub (tys' := [(ca, .object "VotedTriple$VotedModule")]) [0] rfl
      refine W.widen (k := 0) (n := 0) (Nat.le_of_ble_eq_true rfl) (Nat.le_of_ble_eq_true rfl) ?_
      exact W.zret (v := 1) (ty := .boolean) hx hb hr rfl (fun t ht hW => ⟨⟨_, (tri (F 0) (F 1) (upc (F 2) 12 (1 : Int32))), rfl, ⟨⟨bI_1 hc3, hF⟩, (by rw [← hSP, s_T_skip]; try (rw [if_neg hc3]); try (rw [if_neg (by decide)]); try (rw [if_neg (by decide)]); all_goals rfl)⟩, by rw [ht]; exact hP9, va_K.moved hW.alike hK9, hD9⟩, hS.F ht⟩) hS.2.2 d_T_skip_21
  · --  (bI (hmB uT x)) = 0
    refine lv_iconst (v := 0) hx hb d_T_skip_8 (by decide) ?_
    have hP9 := hP.sub (ws' := [(h0, .inr (0, oT uT p9 a9 e9 n9 o9)), (a9, .inl (ca, 3, .inr (.inr (.inr (.inr (mo da)))))), (da 0, .inr (2, oD (F 0) (ra 0) (ka 0))), (da 1, .inr (2, oD (F 1) (ra 1) (ka 1))), (da 2, .inr (2, oD (F 2) (ra 2) (ka 2)))]) [0, 1, 2, 3, 4] rfl
    have hD9 := hD.sub (ws' := [(h0, .inr (0, oT uT p9 a9 e9 n9 o9)), (a9, .inl (ca, 3, .inr (.inr (.inr (.inr (mo da)))))), (da 0, .inr (2, oD (F 0) (ra 0) (ka 0))), (da 1, .inr (2, oD (F 1) (ra 1) (ka 1))), (da 2, .inr (2, oD (F 2) (ra 2) (ka 2)))]) [0, 1, 2, 3, 4] (by decide) rfl
    have hK9 := hK.sub (tys' := [(ca, .object "VotedTriple$VotedModule")]) [0] rfl
    refine W.widen (k := 0) (n := 0) (Nat.le_of_ble_eq_true rfl) (Nat.le_of_ble_eq_true rfl) ?_
    exact W.zret (v := 0) (ty := .boolean) hx hb hr rfl (fun t ht hW => ⟨⟨_, (F), rfl, ⟨⟨hc3.symm, hF⟩, (by rw [← hSP, s_T_skip]; try (rw [if_pos hc3]); all_goals rfl)⟩, by rw [ht]; exact hP9, va_K.moved hW.alike hK9, hD9⟩, hS.F ht⟩) hS.2.2 d_T_skip_9
