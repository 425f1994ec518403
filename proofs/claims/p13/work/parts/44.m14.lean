set_option maxHeartbeats 4000000 in
set_option maxRecDepth 100000 in
theorem c_M_input (l : Launch) (dC : Nat → ClassId) (dI : Nat → Nat → Nat) (m0 : Nat) (ga : Nat → Nat) (gc : Nat → ClassId) (uM : Nat → Int32) (cn : Nat) (sn : Nat) (cm : Nat) (us : Nat) (wt : Nat) (oc : Nat) (ou : Nat) (ow : Nat) (a28 : Nat → Int32) (x : Int32) (hcm : cm ≤ 64) (h28 : wdI 64 a28) (sz : Nat) : Met l y_M_input (tbw y_M_input b_M_input 2 (some .boolean)) ({ frames := 0, cells := 0, slots := 0, locals := 0 }) (va_Pc [.ref m0, .int x] (fun U => U.heap.size = sz ∧ va_P (dC, dI) classes [(m0, .inr (6, oM ga uM cn sn cm us wt oc ou ow)), (ga 28, .inl (gc 28, 64, .inl a28))] U.heap ∧ va_K (dC, dI) classes [(gc 28, .int)] U ∧ va_D (fun _ => True) [(m0, .inr (6, oM ga uM cn sn cm us wt oc ou ow)), (ga 28, .inl (gc 28, 64, .inl a28))])) (va_Qi (fun (r : Int32) (u9 : Nat × (Nat → Int32) × Int32) => match u9 with | (cmn, a28n, y0) => (r = bI (niB uM cm) ∧ cmn ≤ 64 ∧ wdI 64 a28n ∧ cmn = (if niB uM cm then cm + 1 else cm)) ∧ (r, cmn, a28n, y0) = s_M_input uM cm a28 x) (fun (u9 : Nat × (Nat → Int32) × Int32) t => match u9 with | (cmn, a28n, y0) => va_P (dC, dI) classes [(m0, .inr (6, oM ga (upc uM 0 y0) cn sn cmn us wt oc ou ow)), (ga 28, .inl (gc 28, 64, .inl a28n))] t.heap ∧ va_K (dC, dI) classes [(gc 28, .int)] t ∧ va_D (va_A [(m0, .inr (6, oM ga uM cn sn cm us wt oc ou ow)), (ga 28, .inl (gc 28, 64, .inl a28))] sz) [(m0, .inr (6, oM ga (upc uM 0 y0) cn sn cmn us wt oc ou ow)), (ga 28, .inl (gc 28, 64, .inl a28n))]) (va_A [(m0, .inr (6, oM ga uM cn sn cm us wt oc ou ow)), (ga 28, .inl (gc 28, 64, .inl a28))] sz)) 0 0 (va_A [(m0, .inr (6, oM ga uM cn sn cm us wt oc ou ow)), (ga 28, .inl (gc 28, 64, .inl a28))] sz) := by
  refine Met.ofW (cc := b_M_input) (maxL := 2) (ret := (some .boolean)) (by decide) rfl ?_
  intro p e s m args below meth c s₁ B hml hv
  obtain ⟨rfl, hsz, hP, hK, hD0⟩ := hv
  have hx := B.exec
  have hb := B.bytes
  have hr := B.returns
  have hts := atoms_spec (ws := (tbw y_M_input b_M_input 2 (some .boolean))) B.pre
  have hw : ∀ z9 ∈ tb, z9.before ([.ref m0, .int x] : List Value).toArray s = true := fun z9 h => hts z9 (List.mem_cons_of_mem _ h)
  have hown : s.vm.findClass "VotedTripleModel" = some m.cls := findClass_of_methodNamed B.named
  have hlocks := B.notSynchronized
  subst hsz
  replace hD := hD0.self (sz := s.heap.size)
  generalize hAe : va_A [(m0, .inr (6, oM ga uM cn sn cm us wt oc ou ow)), (ga 28, .inl (gc 28, 64, .inl a28))] s.heap.size = A at hD ⊢
  have hA : ∀ q : Nat, s.heap.size ≤ q → A q := fun q h => by rw [← hAe]; exact Or.inr h
  have hS : va_S A s.heap s.heap [] := va_S.rf
  replace hl := lv_entry ([.ref m0, .int x]) (n := 2) (Nat.le_of_ble_eq_true rfl)
  rw [lg_entry_eq]
  generalize (lg_sl ([.ref m0, .int x]) ++ List.replicate (2 - (lg_sl ([.ref m0, .int x])).length) Slot.unset).toArray = ls at hl ⊢
  replace hl : lv_has ls 2 [(0, .ref m0), (1, .int x)] := hl
  generalize hSP : s_M_input uM cm a28 x = SP
  refine lv_aload_n hx hb d_M_input_0 rfl (lv_at hl 0 rfl) ?_
  refine lv_iconst (v := 0) hx hb d_M_input_1 (by decide) ?_
  refine va_put (D := (dC, dI)) (ci := 6) (v := .int 0) (ty := .int) (C := "VotedTripleModel") (T := F_M) (N := 37) hx hb hw in_M ft_M tyok_M nm_M hown hK hP hD hS 0 rfl rfl 0 (by decide) (hw _ k_724) (fun _ h9 => h9) rfl (by decide +kernel) rfl rfl (Nat.le_of_ble_eq_true rfl) d_M_input_2 (fun H locs hP hD hS => ?_)
  replace hP : va_P (dC, dI) classes [(m0, .inr (6, [.int 0, .int (nI cn), .ref (ga 2), .int (uM 3), .int (uM 4), .int (uM 5), .int (nI sn), .int (uM 7), .ref (ga 8), .ref (ga 9), .ref (ga 10), .ref (ga 11), .ref (ga 12), .ref (ga 13), .ref (ga 14), .ref (ga 15), .ref (ga 16), .ref (ga 17), .ref (ga 18), .ref (ga 19), .ref (ga 20), .ref (ga 21), .ref (ga 22), .ref (ga 23), .int (uM 24), .int (uM 25), .int (nI cm), .int (nI us), .ref (ga 28), .int (nI wt), .ref (ga 30), .ref (ga 31), .ref (ga 32), .int (nI oc), .int (nI ou), .int (nI ow), .ref (ga 36)])), (ga 28, .inl (gc 28, 64, .inl a28))] H := hP
  replace hD : va_D A [(m0, .inr (6, [.int 0, .int (nI cn), .ref (ga 2), .int (uM 3), .int (uM 4), .int (uM 5), .int (nI sn), .int (uM 7), .ref (ga 8), .ref (ga 9), .ref (ga 10), .ref (ga 11), .ref (ga 12), .ref (ga 13), .ref (ga 14), .ref (ga 15), .ref (ga 16), .ref (ga 17), .ref (ga 18), .ref (ga 19), .ref (ga 20), .ref (ga 21), .ref (ga 22), .ref (ga 23), .int (uM 24), .int (uM 25), .int (nI cm), .int (nI us), .ref (ga 28), .int (nI wt), .ref (ga 30), .ref (ga 31), .ref (ga 32), .int (nI oc), .int (nI ou), .int (nI ow), .ref (ga 36)])), (ga 28, .inl (gc 28, 64, .inl a28))] := hD
  refine lv_aload_n hx hb d_M_input_5 rfl (lv_at hl 0 rfl) ?_
  refine va_get (D := (dC, dI)) (ci := 6) (v := .int (uM 3)) (C := "VotedTripleModel") (T := F_M) (N := 37) hx hb hw in_M hown hK hP 0 rfl rfl 3 (by decide) (hw _ k_727) (fun _ h9 => h9) rfl d_M_input_6 ?_
  refine lv_if_eq (tgt := 21) hx hb d_M_input_9 rfl (fun hc1 => ?_) (fun hc1 => ?_)
  · --  (uM 3) = 0
    refine lv_iconst (v := 0) hx hb d_M_input_21 (by decide) ?_
    have b9 : niB uM cm = false := by simp [niB, hc1]
    have hP9 := hP.sub (ws' := [(m0, .inr (6, oM ga (upc uM 0 0) cn sn cm us wt oc ou ow)), (ga 28, .inl (gc 28, 64, .inl a28))]) [0, 1] rfl
    have hD9 := hD.sub (ws' := [(m0, .inr (6, oM ga (upc uM 0 0) cn sn cm us wt oc ou ow)), (ga 28, .inl (gc 28, 64, .inl a28))]) [0, 1] (by decide) rfl
    have hK9 := hK.sub (tys' := [(gc 28, .int)]) [0] rfl
    refine W.widen (k := 0) (n := 0) (Nat.le_of_ble_eq_true rfl) (Nat.le_of_ble_eq_true rfl) ?_
    exact W.zret (v := 0) (ty := .boolean) hx hb hr rfl (fun t ht hW => ⟨⟨_, (cm, a28, 0), rfl, ⟨⟨by rw [b9]; rfl, hcm, (by repeat' first | with_reducible assumption | with_reducible exact is16_0 | with_reducible exact is16_m _ | with_reducible exact set16' _ | with_reducible apply rgI_upd | with_reducible apply c3_upd | with_reducible apply o3_upd | exact Or.inl rfl | exact ⟨0, by with_reducible assumption, rfl⟩ | omega | assumption), by rw [b9]; rfl⟩, (by rw [← hSP, s_M_input]; try (rw [if_pos hc1]); all_goals rfl)⟩, by rw [ht]; exact hP9, va_K.moved hW.alike hK9, hD9⟩, hS.F ht⟩) hS.2.2 d_M_input_22
  · --  ¬ (uM 3) = 0
    refine lv_aload_n hx hb d_M_input_12 rfl (lv_at hl 0 rfl) ?_
    refine va_get (D := (dC, dI)) (ci := 6) (v := .int (nI cm)) (C := "VotedTripleModel") (T := F_M) (N := 37) hx hb hw in_M hown hK hP 0 rfl rfl 26 (by decide) (hw _ k_749) (fun _ h9 => h9) rfl d_M_input_13 ?_
    refine lv_bipush (v := 64) hx hb d_M_input_16 (by decide) ?_
    refine lv_icmp_ne (tgt := 23) hx hb d_M_input_18 rfl (fun hc2 => ?_) (fun hc2 => ?_)
    · --  ¬ (nI cm) = 64
      refine lv_aload_n hx hb d_M_input_23 rfl (lv_at hl 0 rfl) ?_
      refine va_get (D := (dC, dI)) (ci := 6) (v := .ref (ga 28)) (C := "VotedTripleModel") (T := F_M) (N := 37) hx hb hw in_M hown hK hP 0 rfl rfl 28 (by decide) (hw _ k_751) (fun _ h9 => h9) rfl d_M_input_24 ?_
      refine lv_aload_n hx hb d_M_input_27 rfl (lv_at hl 0 rfl) ?_
      refine va_get (D := (dC, dI)) (ci := 6) (v := .int (nI cm)) (C := "VotedTripleModel") (T := F_M) (N := 37) hx hb hw in_M hown hK hP 0 rfl rfl 26 (by decide) (hw _ k_749) (fun _ h9 => h9) rfl d_M_input_28 ?_
      refine lv_iload_n hx hb d_M_input_31 rfl (lv_at hl 1 rfl) ?_
      refine lv_ldc (v := 65535) hx hb hown (hw _ k_888) d_M_input_32 ?_
      refine lv_iand hx hb d_M_input_34 ?_
      refine va_iast hx hb hK hP hD hS 1 0 rfl rfl (vp_in_nI (cm_lt hcm hc2) (by decide)) d_M_input_35 (fun H locs hP hD hS => ?_)
      replace hP : va_P (dC, dI) classes [(m0, .inr (6, [.int 0, .int (nI cn), .ref (ga 2), .int (uM 3), .int (uM 4), .int (uM 5), .int (nI sn), .int (uM 7), .ref (ga 8), .ref (ga 9), .ref (ga 10), .ref (ga 11), .ref (ga 12), .ref (ga 13), .ref (ga 14), .ref (ga 15), .ref (ga 16), .ref (ga 17), .ref (ga 18), .ref (ga 19), .ref (ga 20), .ref (ga 21), .ref (ga 22), .ref (ga 23), .int (uM 24), .int (uM 25), .int (nI cm), .int (nI us), .ref (ga 28), .int (nI wt), .ref (ga 30), .ref (ga 31), .ref (ga 32), .int (nI oc), .int (nI ou), .int (nI ow), .ref (ga 36)])), (ga 28, .inl (gc 28, 64, .inl (upd a28 (Int32.toNatClampNeg (nI cm)) (x &&& (65535 : Int32)))))] H := hP
      replace hD : va_D A [(m0, .inr (6, [.int 0, .int (nI cn), .ref (ga 2), .int (uM 3), .int (uM 4), .int (uM 5), .int (nI sn), .int (uM 7), .ref (ga 8), .ref (ga 9), .ref (ga 10), .ref (ga 11), .ref (ga 12), .ref (ga 13), .ref (ga 14), .ref (ga 15), .ref (ga 16), .ref (ga 17), .ref (ga 18), .ref (ga 19), .ref (ga 20), .ref (ga 21), .ref (ga 22), .ref (ga 23), .int (uM 24), .int (uM 25), .int (nI cm), .int (nI us), .ref (ga 28), .int (nI wt), .ref (ga 30), .ref (ga 31), .ref (ga 32), .int (nI oc), .int (nI ou), .int (nI ow), .ref (ga 36)])), (ga 28, .inl (gc 28, 64, .inl (upd a28 (Int32.toNatClampNeg (nI cm)) (x &&& (65535 : Int32)))))] := hD
      refine lv_aload_n hx hb d_M_input_36 rfl (lv_at hl 0 rfl) ?_
      refine lv_dup hx hb d_M_input_37 rfl ?_
      refine va_get (D := (dC, dI)) (ci := 6) (v := .int (nI cm)) (C := "VotedTripleModel") (T := F_M) (N := 37) hx hb hw in_M hown hK hP 0 rfl rfl 26 (by decide) (hw _ k_749) (fun _ h9 => h9) rfl d_M_input_38 ?_
      refine lv_iconst (v := 1) hx hb d_M_input_41 (by decide) ?_
      refine lv_iadd hx hb d_M_input_42 ?_
      rw [nI_1 cm]
      refine va_put (D := (dC, dI)) (ci := 6) (v := .int (nI (cm + 1))) (ty := .int) (C := "VotedTripleModel") (T := F_M) (N := 37) hx hb hw in_M ft_M tyok_M nm_M hown hK hP hD hS 0 rfl rfl 26 (by decide) (hw _ k_749) (fun _ h9 => h9) rfl (by decide +kernel) rfl rfl (Nat.le_of_ble_eq_true rfl) d_M_input_43 (fun H locs hP hD hS => ?_)
      replace hP : va_P (dC, dI) classes [(m0, .inr (6, [.int 0, .int (nI cn), .ref (ga 2), .int (uM 3), .int (uM 4), .int (uM 5), .int (nI sn), .int (uM 7), .ref (ga 8), .ref (ga 9), .ref (ga 10), .ref (ga 11), .ref (ga 12), .ref (ga 13), .ref (ga 14), .ref (ga 15), .ref (ga 16), .ref (ga 17), .ref (ga 18), .ref (ga 19), .ref (ga 20), .ref (ga 21), .ref (ga 22), .ref (ga 23), .int (uM 24), .int (uM 25), .int (nI (cm + 1)), .int (nI us), .ref (ga 28), .int (nI wt), .ref (ga 30), .ref (ga 31), .ref (ga 32), .int (nI oc), .int (nI ou), .int (nI ow), .ref (ga 36)])), (ga 28, .inl (gc 28, 64, .inl (upd a28 (Int32.toNatClampNeg (nI cm)) (x &&& (65535 : Int32)))))] H := hP
      replace hD : va_D A [(m0, .inr (6, [.int 0, .int (nI cn), .ref (ga 2), .int (uM 3), .int (uM 4), .int (uM 5), .int (nI sn), .int (uM 7), .ref (ga 8), .ref (ga 9), .ref (ga 10), .ref (ga 11), .ref (ga 12), .ref (ga 13), .ref (ga 14), .ref (ga 15), .ref (ga 16), .ref (ga 17), .ref (ga 18), .ref (ga 19), .ref (ga 20), .ref (ga 21), .ref (ga 22), .ref (ga 23), .int (uM 24), .int (uM 25), .int (nI (cm + 1)), .int (nI us), .ref (ga 28), .int (nI wt), .ref (ga 30), .ref (ga 31), .ref (ga 32), .int (nI oc), .int (nI ou), .int (nI ow), .ref (ga 36)])), (ga 28, .inl (gc 28, 64, .inl (upd a28 (Int32.toNatClampNeg (nI cm)) (x &&& (65535 : Int32)))))] := hD
      refine lv_iconst (v := 1) hx hb d_M_input_46 (by decide) ?_
      have b9 : niB uM cm = true := by simp [niB, hc1, cm_lt hcm hc2]
      have c9 := cm_lt hcm hc2
      have hP9 := hP.sub (ws' := [(m0, .inr (6, oM ga (upc uM 0 0) cn sn (cm + 1) us wt oc ou ow)), (ga 28, .inl (gc 28, 64, .inl (upd a28 (Int32.toNatClampNeg (nI cm)) (x &&& (65535 : Int32)))))]) [0, 1] rfl
      have hD9 := hD.sub (ws' := [(m0, .inr (6, oM ga (upc uM 0 0) cn sn (cm + 1) us wt oc ou ow)), (ga 28, .inl (gc 28, 64, .inl (upd a28 (Int32.toNatClampNeg (nI cm)) (x &&& (65535 : Int32)))))]) [0, 1] (by decide) rfl
      have hK9 := hK.sub (tys' := [(gc 28, .int)]) [0] rfl
      refine W.widen (k := 0) (n := 0) (Nat.le_of_ble_eq_true rfl) (Nat.le_of_ble_eq_true rfl) ?_
      exact W.zret (v := 1) (ty := .boolean) hx hb hr rfl (fun t ht hW => ⟨⟨_, (cm + 1, upd a28 (Int32.toNatClampNeg (nI cm)) (x &&& (65535 : Int32)), 0), rfl, ⟨⟨by rw [b9]; rfl, (by omega), (by repeat' first | with_reducible assumption | with_reducible exact is16_0 | with_reducible exact is16_m _ | with_reducible exact set16' _ | with_reducible apply rgI_upd | with_reducible apply c3_upd | with_reducible apply o3_upd | exact Or.inl rfl | exact ⟨0, by with_reducible assumption, rfl⟩ | omega | assumption), by rw [b9]; rfl⟩, (by rw [← hSP, s_M_input]; try (rw [if_neg hc1]); try (rw [if_neg hc2]); all_goals rfl)⟩, by rw [ht]; exact hP9, va_K.moved hW.alike hK9, hD9⟩, hS.F ht⟩) hS.2.2 d_M_input_47
    · --  (nI cm) = 64
      refine lv_iconst (v := 0) hx hb d_M_input_21 (by decide) ?_
      have b9 : niB uM cm = false := by simp [niB, cm_64 hcm hc2]
      have hP9 := hP.sub (ws' := [(m0, .inr (6, oM ga (upc uM 0 0) cn sn cm us wt oc ou ow)), (ga 28, .inl (gc 28, 64, .inl a28))]) [0, 1] rfl
      have hD9 := hD.sub (ws' := [(m0, .inr (6, oM ga (upc uM 0 0) cn sn cm us wt oc ou ow)), (ga 28, .inl (gc 28, 64, .inl a28))]) [0, 1] (by decide) rfl
      have hK9 := hK.sub (tys' := [(gc 28, .int)]) [0] rfl
      refine W.widen (k := 0) (n := 0) (Nat.le_of_ble_eq_true rfl) (Nat.le_of_ble_eq_true rfl) ?_
      exact W.zret (v := 0) (ty := .boolean) hx hb hr rfl (fun t ht hW => ⟨⟨_, (cm, a28, 0), rfl, ⟨⟨by rw [b9]; rfl, hcm, (by repeat' first | with_reducible assumption | with_reducible exact is16_0 | with_reducible exact is16_m _ | with_reducible exact set16' _ | with_reducible apply rgI_upd | with_reducible apply c3_upd | with_reducible apply o3_upd | exact Or.inl rfl | exact ⟨0, by with_reducible assumption, rfl⟩ | omega | assumption), by rw [b9]; rfl⟩, (by rw [← hSP, s_M_input]; try (rw [if_neg hc1]); try (rw [if_pos hc2]); all_goals rfl)⟩, by rw [ht]; exact hP9, va_K.moved hW.alike hK9, hD9⟩, hS.F ht⟩) hS.2.2 d_M_input_22

set_option maxHeartbeats 4000000 in
set_option maxRecDepth 100000 in
theorem c_M_output (l : Launch) (dC : Nat → ClassId) (dI : Nat → Nat → Nat) (m0 : Nat) (ga : Nat → Nat) (gc : Nat → ClassId) (uM : Nat → Int32) (cn : Nat) (sn : Nat) (cm : Nat) (us : Nat) (wt : Nat) (oc : Nat) (ou : Nat) (ow : Nat) (a30 : Nat → Int32) (x : Int32) (sz : Nat) : Met l y_M_output (tbw y_M_output b_M_output 3 (some .int)) ({ frames := 0, cells := 0, slots := 0, locals := 0 }) (va_Pc [.ref m0, .int x] (fun U => U.heap.size = sz ∧ va_P (dC, dI) classes [(m0, .inr (6, oM ga uM cn sn cm us wt oc ou ow)), (ga 30, .inl (gc 30, 300, .inl a30))] U.heap ∧ va_K (dC, dI) classes [(gc 30, .int)] U ∧ va_D (fun _ => True) [(m0, .inr (6, oM ga uM cn sn cm us wt oc ou ow)), (ga 30, .inl (gc 30, 300, .inl a30))])) (va_Qi (fun (r : Int32) (u9 : Int32) => match u9 with | y0 => (True) ∧ (r, y0) = s_M_output uM wt a30 x) (fun (u9 : Int32) t => match u9 with | y0 => va_P (dC, dI) classes [(m0, .inr (6, oM ga (upc uM 0 y0) cn sn cm us wt oc ou ow)), (ga 30, .inl (gc 30, 300, .inl a30))] t.heap ∧ va_K (dC, dI) classes [(gc 30, .int)] t ∧ va_D (va_A [(m0, .inr (6, oM ga uM cn sn cm us wt oc ou ow)), (ga 30, .inl (gc 30, 300, .inl a30))] sz) [(m0, .inr (6, oM ga (upc uM 0 y0) cn sn cm us wt oc ou ow)), (ga 30, .inl (gc 30, 300, .inl a30))]) (va_A [(m0, .inr (6, oM ga uM cn sn cm us wt oc ou ow)), (ga 30, .inl (gc 30, 300, .inl a30))] sz)) 0 0 (va_A [(m0, .inr (6, oM ga uM cn sn cm us wt oc ou ow)), (ga 30, .inl (gc 30, 300, .inl a30))] sz) := by
  refine Met.ofW (cc := b_M_output) (maxL := 3) (ret := (some .int)) (by decide) rfl ?_
  intro p e s m args below meth c s₁ B hml hv
  obtain ⟨rfl, hsz, hP, hK, hD0⟩ := hv
  have hx := B.exec
  have hb := B.bytes
  have hr := B.returns
  have hts := atoms_spec (ws := (tbw y_M_output b_M_output 3 (some .int))) B.pre
  have hw : ∀ z9 ∈ tb, z9.before ([.ref m0, .int x] : List Value).toArray s = true := fun z9 h => hts z9 (List.mem_cons_of_mem _ h)
  have hown : s.vm.findClass "VotedTripleModel" = some m.cls := findClass_of_methodNamed B.named
  have hlocks := B.notSynchronized
  subst hsz
  replace hD := hD0.self (sz := s.heap.size)
  generalize hAe : va_A [(m0, .inr (6, oM ga uM cn sn cm us wt oc ou ow)), (ga 30, .inl (gc 30, 300, .inl a30))] s.heap.size = A at hD ⊢
  have hA : ∀ q : Nat, s.heap.size ≤ q → A q := fun q h => by rw [← hAe]; exact Or.inr h
  have hS : va_S A s.heap s.heap [] := va_S.rf
  replace hl := lv_entry ([.ref m0, .int x]) (n := 3) (Nat.le_of_ble_eq_true rfl)
  rw [lg_entry_eq]
  generalize (lg_sl ([.ref m0, .int x]) ++ List.replicate (3 - (lg_sl ([.ref m0, .int x])).length) Slot.unset).toArray = ls at hl ⊢
  replace hl : lv_has ls 3 [(0, .ref m0), (1, .int x)] := hl
  generalize hSP : s_M_output uM wt a30 x = SP
  refine lv_aload_n hx hb d_M_output_0 rfl (lv_at hl 0 rfl) ?_
  refine va_get (D := (dC, dI)) (ci := 6) (v := .int (uM 3)) (C := "VotedTripleModel") (T := F_M) (N := 37) hx hb hw in_M hown hK hP 0 rfl rfl 3 (by decide) (hw _ k_727) (fun _ h9 => h9) rfl d_M_output_1 ?_
  refine lv_if_eq (tgt := 30) hx hb d_M_output_4 rfl (fun hc1 => ?_) (fun hc1 => ?_)
  · --  (uM 3) = 0
    refine lv_iconst (v := 0) hx hb d_M_output_30 (by decide) ?_
    refine lv_istore_n hx hb d_M_output_31 rfl hl (by decide) rfl (fun ls hl => ?_)
    replace hl : lv_has ls 3 [(2, .int 0), (0, .ref m0), (1, .int x)] := hl
    refine lv_aload_n hx hb d_M_output_32 rfl (lv_at hl 1 rfl) ?_
    refine lv_iload_n hx hb d_M_output_33 rfl (lv_at hl 0 rfl) ?_
    refine lv_if_eq (tgt := 41) hx hb d_M_output_34 rfl (fun hc2 => ?_) (fun hc2 => by first | exact absurd (by decide) hc2 | exact absurd hc2 (by decide))
    refine lv_iconst (v := 1) hx hb d_M_output_41 (by decide) ?_
    refine va_put (D := (dC, dI)) (ci := 6) (v := .int 1) (ty := .int) (C := "VotedTripleModel") (T := F_M) (N := 37) hx hb hw in_M ft_M tyok_M nm_M hown hK hP hD hS 0 rfl rfl 0 (by decide) (hw _ k_724) (fun _ h9 => h9) rfl (by decide +kernel) rfl rfl (Nat.le_of_ble_eq_true rfl) d_M_output_42 (fun H locs hP hD hS => ?_)
    replace hP : va_P (dC, dI) classes [(m0, .inr (6, [.int 1, .int (nI cn), .ref (ga 2), .int (uM 3), .int (uM 4), .int (uM 5), .int (nI sn), .int (uM 7), .ref (ga 8), .ref (ga 9), .ref (ga 10), .ref (ga 11), .ref (ga 12), .ref (ga 13), .ref (ga 14), .ref (ga 15), .ref (ga 16), .ref (ga 17), .ref (ga 18), .ref (ga 19), .ref (ga 20), .ref (ga 21), .ref (ga 22), .ref (ga 23), .int (uM 24), .int (uM 25), .int (nI cm), .int (nI us), .ref (ga 28), .int (nI wt), .ref (ga 30), .ref (ga 31), .ref (ga 32), .int (nI oc), .int (nI ou), .int (nI ow), .ref (ga 36)])), (ga 30, .inl (gc 30, 300, .inl a30))] H := hP
    replace hD : va_D A [(m0, .inr (6, [.int 1, .int (nI cn), .ref (ga 2), .int (uM 3), .int (uM 4), .int (uM 5), .int (nI sn), .int (uM 7), .ref (ga 8), .ref (ga 9), .ref (ga 10), .ref (ga 11), .ref (ga 12), .ref (ga 13), .ref (ga 14), .ref (ga 15), .ref (ga 16), .ref (ga 17), .ref (ga 18), .ref (ga 19), .ref (ga 20), .ref (ga 21), .ref (ga 22), .ref (ga 23), .int (uM 24), .int (uM 25), .int (nI cm), .int (nI us), .ref (ga 28), .int (nI wt), .ref (ga 30), .ref (ga 31), .ref (ga 32), .int (nI oc), .int (nI ou), .int (nI ow), .ref (ga 36)])), (ga 30, .inl (gc 30, 300, .inl a30))] := hD
    refine lv_iload_n hx hb d_M_output_45 rfl (lv_at hl 0 rfl) ?_
    refine lv_if_eq (tgt := 58) hx hb d_M_output_46 rfl (fun hc3 => ?_) (fun hc3 => by first | exact absurd (by decide) hc3 | exact absurd hc3 (by decide))
    refine lv_iconst (v := 0) hx hb d_M_output_58 (by decide) ?_
    have hP9 := hP.sub (ws' := [(m0, .inr (6, oM ga (upc uM 0 1) cn sn cm us wt oc ou ow)), (ga 30, .inl (gc 30, 300, .inl a30))]) [0, 1] rfl
    have hD9 := hD.sub (ws' := [(m0, .inr (6, oM ga (upc uM 0 1) cn sn cm us wt oc ou ow)), (ga 30, .inl (gc 30, 300, .inl a30))]) [0, 1] (by decide) rfl
    have hK9 := hK.sub (tys' := [(gc 30, .int)]) [0] rfl
    refine W.widen (k := 0) (n := 0) (Nat.le_of_ble_eq_true rfl) (Nat.le_of_ble_eq_true rfl) ?_
    exact W.iret (v := 0) hx hb hr (fun t ht hW => ⟨⟨_, (1), rfl, ⟨trivial, (by rw [← hSP, s_M_output]; try (rw [if_pos hc1]); all_goals rfl)⟩, by rw [ht]; exact hP9, va_K.moved hW.alike hK9, hD9⟩, hS.F ht⟩) hS.2.2 d_M_output_59
  · --  ¬ (uM 3) = 0
    refine lv_iload_n hx hb d_M_output_7 rfl (lv_at hl 1 rfl) ?_
    refine lv_if_lt (tgt := 30) hx hb d_M_output_8 rfl (fun hc4 => ?_) (fun hc4 => ?_)
    · --  x < 0
      refine lv_iconst (v := 0) hx hb d_M_output_30 (by decide) ?_
      refine lv_istore_n hx hb d_M_output_31 rfl hl (by decide) rfl (fun ls hl => ?_)
      replace hl : lv_has ls 3 [(2, .int 0), (0, .ref m0), (1, .int x)] := hl
      refine lv_aload_n hx hb d_M_output_32 rfl (lv_at hl 1 rfl) ?_
      refine lv_iload_n hx hb d_M_output_33 rfl (lv_at hl 0 rfl) ?_
      refine lv_if_eq (tgt := 41) hx hb d_M_output_34 rfl (fun hc5 => ?_) (fun hc5 => by first | exact absurd (by decide) hc5 | exact absurd hc5 (by decide))
      refine lv_iconst (v := 1) hx hb d_M_output_41 (by decide) ?_
      refine va_put (D := (dC, dI)) (ci := 6) (v := .int 1) (ty := .int) (C := "VotedTripleModel") (T := F_M) (N := 37) hx hb hw in_M ft_M tyok_M nm_M hown hK hP hD hS 0 rfl rfl 0 (by decide) (hw _ k_724) (fun _ h9 => h9) rfl (by decide +kernel) rfl rfl (Nat.le_of_ble_eq_true rfl) d_M_output_42 (fun H locs hP hD hS => ?_)
      replace hP : va_P (dC, dI) classes [(m0, .inr (6, [.int 1, .int (nI cn), .ref (ga 2), .int (uM 3), .int (uM 4), .int (uM 5), .int (nI sn), .int (uM 7), .ref (ga 8), .ref (ga 9), .ref (ga 10), .ref (ga 11), .ref (ga 12), .ref (ga 13), .ref (ga 14), .ref (ga 15), .ref (ga 16), .ref (ga 17), .ref (ga 18), .ref (ga 19), .ref (ga 20), .ref (ga 21), .ref (ga 22), .ref (ga 23), .int (uM 24), .int (uM 25), .int (nI cm), .int (nI us), .ref (ga 28), .int (nI wt), .ref (ga 30), .ref (ga 31), .ref (ga 32), .int (nI oc), .int (nI ou), .int (nI ow), .ref (ga 36)])), (ga 30, .inl (gc 30, 300, .inl a30))] H := hP
      replace hD : va_D A [(m0, .inr (6, [.int 1, .int (nI cn), .ref (ga 2), .int (uM 3), .int (uM 4), .int (uM 5), .int (nI sn), .int (uM 7), .ref (ga 8), .ref (ga 9), .ref (ga 10), .ref (ga 11), .ref (ga 12), .ref (ga 13), .ref (ga 14), .ref (ga 15), .ref (ga 16), .ref (ga 17), .ref (ga 18), .ref (ga 19), .ref (ga 20), .ref (ga 21), .ref (ga 22), .ref (ga 23), .int (uM 24), .int (uM 25), .int (nI cm), .int (nI us), .ref (ga 28), .int (nI wt), .ref (ga 30), .ref (ga 31), .ref (ga 32), .int (nI oc), .int (nI ou), .int (nI ow), .ref (ga 36)])), (ga 30, .inl (gc 30, 300, .inl a30))] := hD
      refine lv_iload_n hx hb d_M_output_45 rfl (lv_at hl 0 rfl) ?_
      refine lv_if_eq (tgt := 58) hx hb d_M_output_46 rfl (fun hc6 => ?_) (fun hc6 => by first | exact absurd (by decide) hc6 | exact absurd hc6 (by decide))
      refine lv_iconst (v := 0) hx hb d_M_output_58 (by decide) ?_
      have hP9 := hP.sub (ws' := [(m0, .inr (6, oM ga (upc uM 0 1) cn sn cm us wt oc ou ow)), (ga 30, .inl (gc 30, 300, .inl a30))]) [0, 1] rfl
      have hD9 := hD.sub (ws' := [(m0, .inr (6, oM ga (upc uM 0 1) cn sn cm us wt oc ou ow)), (ga 30, .inl (gc 30, 300, .inl a30))]) [0, 1] (by decide) rfl
      have hK9 := hK.sub (tys' := [(gc 30, .int)]) [0] rfl
      refine W.widen (k := 0) (n := 0) (Nat.le_of_ble_eq_true rfl) (Nat.le_of_ble_eq_true rfl) ?_
      exact W.iret (v := 0) hx hb hr (fun t ht hW => ⟨⟨_, (1), rfl, ⟨trivial, (by rw [← hSP, s_M_output]; try (rw [if_neg hc1]); try (rw [if_pos hc4]); all_goals rfl)⟩, by rw [ht]; exact hP9, va_K.moved hW.alike hK9, hD9⟩, hS.F ht⟩) hS.2.2 d_M_output_59
    · --  ¬ x < 0
      refine lv_iload_n hx hb d_M_output_11 rfl (lv_at hl 1 rfl) ?_
      refine lv_aload_n hx hb d_M_output_12 rfl (lv_at hl 0 rfl) ?_
      refine va_get (D := (dC, dI)) (ci := 6) (v := .int (nI wt)) (C := "VotedTripleModel") (T := F_M) (N := 37) hx hb hw in_M hown hK hP 0 rfl rfl 29 (by decide) (hw _ k_752) (fun _ h9 => h9) rfl d_M_output_13 ?_
      refine lv_icmp_ge (tgt := 30) hx hb d_M_output_16 rfl (fun hc7 => ?_) (fun hc7 => ?_)
      · --  (nI wt) ≤ x
        refine lv_iconst (v := 0) hx hb d_M_output_30 (by decide) ?_
        refine lv_istore_n hx hb d_M_output_31 rfl hl (by decide) rfl (fun ls hl => ?_)
        replace hl : lv_has ls 3 [(2, .int 0), (0, .ref m0), (1, .int x)] := hl
        refine lv_aload_n hx hb d_M_output_32 rfl (lv_at hl 1 rfl) ?_
        refine lv_iload_n hx hb d_M_output_33 rfl (lv_at hl 0 rfl) ?_
        refine lv_if_eq (tgt := 41) hx hb d_M_output_34 rfl (fun hc8 => ?_) (fun hc8 => by first | exact absurd (by decide) hc8 | exact absurd hc8 (by decide))
        refine lv_iconst (v := 1) hx hb d_M_output_41 (by decide) ?_
        refine va_put (D := (dC, dI)) (ci := 6) (v := .int 1) (ty := .int) (C := "VotedTripleModel") (T := F_M) (N := 37) hx hb hw in_M ft_M tyok_M nm_M hown hK hP hD hS 0 rfl rfl 0 (by decide) (hw _ k_724) (fun _ h9 => h9) rfl (by decide +kernel) rfl rfl (Nat.le_of_ble_eq_true rfl) d_M_output_42 (fun H locs hP hD hS => ?_)
        replace hP : va_P (dC, dI) classes [(m0, .inr (6, [.int 1, .int (nI cn), .ref (ga 2), .int (uM 3), .int (uM 4), .int (uM 5), .int (nI sn), .int (uM 7), .ref (ga 8), .ref (ga 9), .ref (ga 10), .ref (ga 11), .ref (ga 12), .ref (ga 13), .ref (ga 14), .ref (ga 15), .ref (ga 16), .ref (ga 17), .ref (ga 18), .ref (ga 19), .ref (ga 20), .ref (ga 21), .ref (ga 22), .ref (ga 23), .int (uM 24), .int (uM 25), .int (nI cm), .int (nI us), .ref (ga 28), .int (nI wt), .ref (ga 30), .ref (ga 31), .ref (ga 32), .int (nI oc), .int (nI ou), .int (nI ow), .ref (ga 36)])), (ga 30, .inl (gc 30, 300, .inl a30))] H := hP
        replace hD : va_D A [(m0, .inr (6, [.int 1, .int (nI cn), .ref (ga 2), .int (uM 3), .int (uM 4), .int (uM 5), .int (nI sn), .int (uM 7), .ref (ga 8), .ref (ga 9), .ref (ga 10), .ref (ga 11), .ref (ga 12), .ref (ga 13), .ref (ga 14), .ref (ga 15), .ref (ga 16), .ref (ga 17), .ref (ga 18), .ref (ga 19), .ref (ga 20), .ref (ga 21), .ref (ga 22), .ref (ga 23), .int (uM 24), .int (uM 25), .int (nI cm), .int (nI us), .ref (ga 28), .int (nI wt), .ref (ga 30), .ref (ga 31), .ref (ga 32), .int (nI oc), .int (nI ou), .int (nI ow), .ref (ga 36)])), (ga 30, .inl (gc 30, 300, .inl a30))] := hD
        refine lv_iload_n hx hb d_M_output_45 rfl (lv_at hl 0 rfl) ?_
        refine lv_if_eq (tgt := 58) hx hb d_M_output_46 rfl (fun hc9 => ?_) (fun hc9 => by first | exact absurd (by decide) hc9 | exact absurd hc9 (by decide))
        refine lv_iconst (v := 0) hx hb d_M_output_58 (by decide) ?_
        have hP9 := hP.sub (ws' := [(m0, .inr (6, oM ga (upc uM 0 1) cn sn cm us wt oc ou ow)), (ga 30, .inl (gc 30, 300, .inl a30))]) [0, 1] rfl
        have hD9 := hD.sub (ws' := [(m0, .inr (6, oM ga (upc uM 0 1) cn sn cm us wt oc ou ow)), (ga 30, .inl (gc 30, 300, .inl a30))]) [0, 1] (by decide) rfl
        have hK9 := hK.sub (tys' := [(gc 30, .int)]) [0] rfl
        refine W.widen (k := 0) (n := 0) (Nat.le_of_ble_eq_true rfl) (Nat.le_of_ble_eq_true rfl) ?_
        exact W.iret (v := 0) hx hb hr (fun t ht hW => ⟨⟨_, (1), rfl, ⟨trivial, (by rw [← hSP, s_M_output]; try (rw [if_neg hc1]); try (rw [if_neg hc4]); try (rw [if_pos hc7]); all_goals rfl)⟩, by rw [ht]; exact hP9, va_K.moved hW.alike hK9, hD9⟩, hS.F ht⟩) hS.2.2 d_M_output_59
      · --  ¬ (nI wt) ≤ x
        refine lv_iload_n hx hb d_M_output_19 rfl (lv_at hl 1 rfl) ?_
        refine lv_sipush (v := 300) hx hb d_M_output_20 (by decide) ?_
        refine lv_icmp_ge (tgt := 30) hx hb d_M_output_23 rfl (fun hc10 => ?_) (fun hc10 => ?_)
        · --  300 ≤ x
          refine lv_iconst (v := 0) hx hb d_M_output_30 (by decide) ?_
          refine lv_istore_n hx hb d_M_output_31 rfl hl (by decide) rfl (fun ls hl => ?_)
          replace hl : lv_has ls 3 [(2, .int 0), (0, .ref m0), (1, .int x)] := hl
          refine lv_aload_n hx hb d_M_output_32 rfl (lv_at hl 1 rfl) ?_
          refine lv_iload_n hx hb d_M_output_33 rfl (lv_at hl 0 rfl) ?_
          refine lv_if_eq (tgt := 41) hx hb d_M_output_34 rfl (fun hc11 => ?_) (fun hc11 => by first | exact absurd (by decide) hc11 | exact absurd hc11 (by decide))
          refine lv_iconst (v := 1) hx hb d_M_output_41 (by decide) ?_
          refine va_put (D := (dC, dI)) (ci := 6) (v := .int 1) (ty := .int) (C := "VotedTripleModel") (T := F_M) (N := 37) hx hb hw in_M ft_M tyok_M nm_M hown hK hP hD hS 0 rfl rfl 0 (by decide) (hw _ k_724) (fun _ h9 => h9) rfl (by decide +kernel) rfl rfl (Nat.le_of_ble_eq_true rfl) d_M_output_42 (fun H locs hP hD hS => ?_)
          replace hP : va_P (dC, dI) classes [(m0, .inr (6, [.int 1, .int (nI cn), .ref (ga 2), .int (uM 3), .int (uM 4), .int (uM 5), .int (nI sn), .int (uM 7), .ref (ga 8), .ref (ga 9), .ref (ga 10), .ref (ga 11), .ref (ga 12), .ref (ga 13), .ref (ga 14), .ref (ga 15), .ref (ga 16), .ref (ga 17), .ref (ga 18), .ref (ga 19), .ref (ga 20), .ref (ga 21), .ref (ga 22), .ref (ga 23), .int (uM 24), .int (uM 25), .int (nI cm), .int (nI us), .ref (ga 28), .int (nI wt), .ref (ga 30), .ref (ga 31), .ref (ga 32), .int (nI oc), .int (nI ou), .int (nI ow), .ref (ga 36)])), (ga 30, .inl (gc 30, 300, .inl a30))] H := hP
          replace hD : va_D A [(m0, .inr (6, [.int 1, .int (nI cn), .ref (ga 2), .int (uM 3), .int (uM 4), .int (uM 5), .int (nI sn), .int (uM 7), .ref (ga 8), .ref (ga 9), .ref (ga 10), .ref (ga 11), .ref (ga 12), .ref (ga 13), .ref (ga 14), .ref (ga 15), .ref (ga 16), .ref (ga 17), .ref (ga 18), .ref (ga 19), .ref (ga 20), .ref (ga 21), .ref (ga 22), .ref (ga 23), .int (uM 24), .int (uM 25), .int (nI cm), .int (nI us), .ref (ga 28), .int (nI wt), .ref (ga 30), .ref (ga 31), .ref (ga 32), .int (nI oc), .int (nI ou), .int (nI ow), .ref (ga 36)])), (ga 30, .inl (gc 30, 300, .inl a30))] := hD
          refine lv_iload_n hx hb d_M_output_45 rfl (lv_at hl 0 rfl) ?_
          refine lv_if_eq (tgt := 58) hx hb d_M_output_46 rfl (fun hc12 => ?_) (fun hc12 => by first | exact absurd (by decide) hc12 | exact absurd hc12 (by decide))
          refine lv_iconst (v := 0) hx hb d_M_output_58 (by decide) ?_
          have hP9 := hP.sub (ws' := [(m0, .inr (6, oM ga (upc uM 0 1) cn sn cm us wt oc ou ow)), (ga 30, .inl (gc 30, 300, .inl a30))]) [0, 1] rfl
          have hD9 := hD.sub (ws' := [(m0, .inr (6, oM ga (upc uM 0 1) cn sn cm us wt oc ou ow)), (ga 30, .inl (gc 30, 300, .inl a30))]) [0, 1] (by decide) rfl
          have hK9 := hK.sub (tys' := [(gc 30, .int)]) [0] rfl
          refine W.widen (k := 0) (n := 0) (Nat.le_of_ble_eq_true rfl) (Nat.le_of_ble_eq_true rfl) ?_
          exact W.iret (v := 0) hx hb hr (fun t ht hW => ⟨⟨_, (1), rfl, ⟨trivial, (by rw [← hSP, s_M_output]; try (rw [if_neg hc1]); try (rw [if_neg hc4]); try (rw [if_neg hc7]); try (rw [if_pos hc10]); all_goals rfl)⟩, by rw [ht]; exact hP9, va_K.moved hW.alike hK9, hD9⟩, hS.F ht⟩) hS.2.2 d_M_output_59
        · --  ¬ 300 ≤ x
          refine lv_iconst (v := 1) hx hb d_M_output_26 (by decide) ?_
          refine lv_goto (tgt := 31) hx hb d_M_output_27 rfl ?_
          refine lv_istore_n hx hb d_M_output_31 rfl hl (by decide) rfl (fun ls hl => ?_)
          replace hl : lv_has ls 3 [(2, .int 1), (0, .ref m0), (1, .int x)] := hl
          refine lv_aload_n hx hb d_M_output_32 rfl (lv_at hl 1 rfl) ?_
          refine lv_iload_n hx hb d_M_output_33 rfl (lv_at hl 0 rfl) ?_
          refine lv_if_eq (tgt := 41) hx hb d_M_output_34 rfl (fun hc13 => by first | exact absurd hc13 (by decide) | exact absurd (by decide) hc13) (fun hc13 => ?_)
          refine lv_iconst (v := 0) hx hb d_M_output_37 (by decide) ?_
          refine lv_goto (tgt := 42) hx hb d_M_output_38 rfl ?_
          refine va_put (D := (dC, dI)) (ci := 6) (v := .int 0) (ty := .int) (C := "VotedTripleModel") (T := F_M) (N := 37) hx hb hw in_M ft_M tyok_M nm_M hown hK hP hD hS 0 rfl rfl 0 (by decide) (hw _ k_724) (fun _ h9 => h9) rfl (by decide +kernel) rfl rfl (Nat.le_of_ble_eq_true rfl) d_M_output_42 (fun H locs hP hD hS => ?_)
          replace hP : va_P (dC, dI) classes [(m0, .inr (6, [.int 0, .int (nI cn), .ref (ga 2), .int (uM 3), .int (uM 4), .int (uM 5), .int (nI sn), .int (uM 7), .ref (ga 8), .ref (ga 9), .ref (ga 10), .ref (ga 11), .ref (ga 12), .ref (ga 13), .ref (ga 14), .ref (ga 15), .ref (ga 16), .ref (ga 17), .ref (ga 18), .ref (ga 19), .ref (ga 20), .ref (ga 21), .ref (ga 22), .ref (ga 23), .int (uM 24), .int (uM 25), .int (nI cm), .int (nI us), .ref (ga 28), .int (nI wt), .ref (ga 30), .ref (ga 31), .ref (ga 32), .int (nI oc), .int (nI ou), .int (nI ow), .ref (ga 36)])), (ga 30, .inl (gc 30, 300, .inl a30))] H := hP
          replace hD : va_D A [(m0, .inr (6, [.int 0, .int (nI cn), .ref (ga 2), .int (uM 3), .int (uM 4), .int (uM 5), .int (nI sn), .int (uM 7), .ref (ga 8), .ref (ga 9), .ref (ga 10), .ref (ga 11), .ref (ga 12), .ref (ga 13), .ref (ga 14), .ref (ga 15), .ref (ga 16), .ref (ga 17), .ref (ga 18), .ref (ga 19), .ref (ga 20), .ref (ga 21), .ref (ga 22), .ref (ga 23), .int (uM 24), .int (uM 25), .int (nI cm), .int (nI us), .ref (ga 28), .int (nI wt), .ref (ga 30), .ref (ga 31), .ref (ga 32), .int (nI oc), .int (nI ou), .int (nI ow), .ref (ga 36)])), (ga 30, .inl (gc 30, 300, .inl a30))] := hD
          refine lv_iload_n hx hb d_M_output_45 rfl (lv_at hl 0 rfl) ?_
          refine lv_if_eq (tgt := 58) hx hb d_M_output_46 rfl (fun hc14 => by first | exact absurd hc14 (by decide) | exact absurd (by decide) hc14) (fun hc14 => ?_)
          refine lv_aload_n hx hb d_M_output_49 rfl (lv_at hl 1 rfl) ?_
          refine va_get (D := (dC, dI)) (ci := 6) (v := .ref (ga 30)) (C := "VotedTripleModel") (T := F_M) (N := 37) hx hb hw in_M hown hK hP 0 rfl rfl 30 (by decide) (hw _ k_753) (fun _ h9 => h9) rfl d_M_output_50 ?_
          refine lv_iload_n hx hb d_M_output_53 rfl (lv_at hl 2 rfl) ?_
          refine va_iald hx hb hK hP 1 0 rfl rfl (in_of (N := 300) rfl hc4 hc10) d_M_output_54 ?_
          refine lv_goto (tgt := 59) hx hb d_M_output_55 rfl ?_
          have hP9 := hP.sub (ws' := [(m0, .inr (6, oM ga (upc uM 0 0) cn sn cm us wt oc ou ow)), (ga 30, .inl (gc 30, 300, .inl a30))]) [0, 1] rfl
          have hD9 := hD.sub (ws' := [(m0, .inr (6, oM ga (upc uM 0 0) cn sn cm us wt oc ou ow)), (ga 30, .inl (gc 30, 300, .inl a30))]) [0, 1] (by decide) rfl
          have hK9 := hK.sub (tys' := [(gc 30, .int)]) [0] rfl
          refine W.widen (k := 0) (n := 0) (Nat.le_of_ble_eq_true rfl) (Nat.le_of_ble_eq_true rfl) ?_
          exact W.iret (v := (a30 (Int32.toNatClampNeg x))) hx hb hr (fun t ht hW => ⟨⟨_, (0), rfl, ⟨trivial, (by rw [← hSP, s_M_output]; try (rw [if_neg hc1]); try (rw [if_neg hc4]); try (rw [if_neg hc7]); try (rw [if_neg hc10]); all_goals rfl)⟩, by rw [ht]; exact hP9, va_K.moved hW.alike hK9, hD9⟩, hS.F ht⟩) hS.2.2 d_M_output_59

set_option maxHeartbeats 4000000 in
set_option maxRecDepth 100000 in
theorem c_M_perfect (l : Launch) (dC : Nat → ClassId) (dI : Nat → Nat → Nat) (m0 : Nat) (ga : Nat → Nat) (gc : Nat → ClassId) (uM : Nat → Int32) (cn : Nat) (sn : Nat) (cm : Nat) (us : Nat) (wt : Nat) (oc : Nat) (ou : Nat) (ow : Nat) (a36 : Nat → Int32) (x : Int32) (sz : Nat) : Met l y_M_perfect (tbw y_M_perfect b_M_perfect 3 (some .int)) ({ frames := 0, cells := 0, slots := 0, locals := 0 }) (va_Pc [.ref m0, .int x] (fun U => U.heap.size = sz ∧ va_P (dC, dI) classes [(m0, .inr (6, oM ga uM cn sn cm us wt oc ou ow)), (ga 36, .inl (gc 36, 300, .inl a36))] U.heap ∧ va_K (dC, dI) classes [(gc 36, .int)] U ∧ va_D (fun _ => True) [(m0, .inr (6, oM ga uM cn sn cm us wt oc ou ow)), (ga 36, .inl (gc 36, 300, .inl a36))])) (va_Qi (fun (r : Int32) (u9 : Int32) => match u9 with | y0 => (True) ∧ (r, y0) = s_M_perfect uM ow a36 x) (fun (u9 : Int32) t => match u9 with | y0 => va_P (dC, dI) classes [(m0, .inr (6, oM ga (upc uM 0 y0) cn sn cm us wt oc ou ow)), (ga 36, .inl (gc 36, 300, .inl a36))] t.heap ∧ va_K (dC, dI) classes [(gc 36, .int)] t ∧ va_D (va_A [(m0, .inr (6, oM ga uM cn sn cm us wt oc ou ow)), (ga 36, .inl (gc 36, 300, .inl a36))] sz) [(m0, .inr (6, oM ga (upc uM 0 y0) cn sn cm us wt oc ou ow)), (ga 36, .inl (gc 36, 300, .inl a36))]) (va_A [(m0, .inr (6, oM ga uM cn sn cm us wt oc ou ow)), (ga 36, .inl (gc 36, 300, .inl a36))] sz)) 0 0 (va_A [(m0, .inr (6, oM ga uM cn sn cm us wt oc ou ow)), (ga 36, .inl (gc 36, 300, .inl a36))] sz) := by
  refine Met.ofW (cc := b_M_perfect) (maxL := 3) (ret := (some .int)) (by decide) rfl ?_
  intro p e s m args below meth c s₁ B hml hv
  obtain ⟨rfl, hsz, hP, hK, hD0⟩ := hv
  have hx := B.exec
  have hb := B.bytes
  have hr := B.returns
  have hts := atoms_spec (ws := (tbw y_M_perfect b_M_perfect 3 (some .int))) B.pre
  have hw : ∀ z9 ∈ tb, z9.before ([.ref m0, .int x] : List Value).toArray s = true := fun z9 h => hts z9 (List.mem_cons_of_mem _ h)
  have hown : s.vm.findClass "VotedTripleModel" = some m.cls := findClass_of_methodNamed B.named
  have hlocks := B.notSynchronized
  subst hsz
  replace hD := hD0.self (sz := s.heap.size)
  generalize hAe : va_A [(m0, .inr (6, oM ga uM cn sn cm us wt oc ou ow)), (ga 36, .inl (gc 36, 300, .inl a36))] s.heap.size = A at hD ⊢
  have hA : ∀ q : Nat, s.heap.size ≤ q → A q := fun q h => by rw [← hAe]; exact Or.inr h
  have hS : va_S A s.heap s.heap [] := va_S.rf
  replace hl := lv_entry ([.ref m0, .int x]) (n := 3) (Nat.le_of_ble_eq_true rfl)
  rw [lg_entry_eq]
  generalize (lg_sl ([.ref m0, .int x]) ++ List.replicate (3 - (lg_sl ([.ref m0, .int x])).length) Slot.unset).toArray = ls at hl ⊢
  replace hl : lv_has ls 3 [(0, .ref m0), (1, .int x)] := hl
  generalize hSP : s_M_perfect uM ow a36 x = SP
  refine lv_aload_n hx hb d_M_perfect_0 rfl (lv_at hl 0 rfl) ?_
  refine va_get (D := (dC, dI)) (ci := 6) (v := .int (uM 3)) (C := "VotedTripleModel") (T := F_M) (N := 37) hx hb hw in_M hown hK hP 0 rfl rfl 3 (by decide) (hw _ k_727) (fun _ h9 => h9) rfl d_M_perfect_1 ?_
  refine lv_if_eq (tgt := 30) hx hb d_M_perfect_4 rfl (fun hc1 => ?_) (fun hc1 => ?_)
  · --  (uM 3) = 0
    refine lv_iconst (v := 0) hx hb d_M_perfect_30 (by decide) ?_
    refine lv_istore_n hx hb d_M_perfect_31 rfl hl (by decide) rfl (fun ls hl => ?_)
    replace hl : lv_has ls 3 [(2, .int 0), (0, .ref m0), (1, .int x)] := hl
    refine lv_aload_n hx hb d_M_perfect_32 rfl (lv_at hl 1 rfl) ?_
    refine lv_iload_n hx hb d_M_perfect_33 rfl (lv_at hl 0 rfl) ?_
    refine lv_if_eq (tgt := 41) hx hb d_M_perfect_34 rfl (fun hc2 => ?_) (fun hc2 => by first | exact absurd (by decide) hc2 | exact absurd hc2 (by decide))
    refine lv_iconst (v := 1) hx hb d_M_perfect_41 (by decide) ?_
    refine va_put (D := (dC, dI)) (ci := 6) (v := .int 1) (ty := .int) (C := "VotedTripleModel") (T := F_M) (N := 37) hx hb hw in_M ft_M tyok_M nm_M hown hK hP hD hS 0 rfl rfl 0 (by decide) (hw _ k_724) (fun _ h9 => h9) rfl (by decide +kernel) rfl rfl (Nat.le_of_ble_eq_true rfl) d_M_perfect_42 (fun H locs hP hD hS => ?_)
    replace hP : va_P (dC, dI) classes [(m0, .inr (6, [.int 1, .int (nI cn), .ref (ga 2), .int (uM 3), .int (uM 4), .int (uM 5), .int (nI sn), .int (uM 7), .ref (ga 8), .ref (ga 9), .ref (ga 10), .ref (ga 11), .ref (ga 12), .ref (ga 13), .ref (ga 14), .ref (ga 15), .ref (ga 16), .ref (ga 17), .ref (ga 18), .ref (ga 19), .ref (ga 20), .ref (ga 21), .ref (ga 22), .ref (ga 23), .int (uM 24), .int (uM 25), .int (nI cm), .int (nI us), .ref (ga 28), .int (nI wt), .ref (ga 30), .ref (ga 31), .ref (ga 32), .int (nI oc), .int (nI ou), .int (nI ow), .ref (ga 36)])), (ga 36, .inl (gc 36, 300, .inl a36))] H := hP
    replace hD : va_D A [(m0, .inr (6, [.int 1, .int (nI cn), .ref (ga 2), .int (uM 3), .int (uM 4), .int (uM 5), .int (nI sn), .int (uM 7), .ref (ga 8), .ref (ga 9), .ref (ga 10), .ref (ga 11), .ref (ga 12), .ref (ga 13), .ref (ga 14), .ref (ga 15), .ref (ga 16), .ref (ga 17), .ref (ga 18), .ref (ga 19), .ref (ga 20), .ref (ga 21), .ref (ga 22), .ref (ga 23), .int (uM 24), .int (uM 25), .int (nI cm), .int (nI us), .ref (ga 28), .int (nI wt), .ref (ga 30), .ref (ga 31), .ref (ga 32), .int (nI oc), .int (nI ou), .int (nI ow), .ref (ga 36)])), (ga 36, .inl (gc 36, 300, .inl a36))] := hD
    refine lv_iload_n hx hb d_M_perfect_45 rfl (lv_at hl 0 rfl) ?_
    refine lv_if_eq (tgt := 58) hx hb d_M_perfect_46 rfl (fun hc3 => ?_) (fun hc3 => by first | exact absurd (by decide) hc3 | exact absurd hc3 (by decide))
    refine lv_iconst (v := 0) hx hb d_M_perfect_58 (by decide) ?_
    have hP9 := hP.sub (ws' := [(m0, .inr (6, oM ga (upc uM 0 1) cn sn cm us wt oc ou ow)), (ga 36, .inl (gc 36, 300, .inl a36))]) [0, 1] rfl
    have hD9 := hD.sub (ws' := [(m0, .inr (6, oM ga (upc uM 0 1) cn sn cm us wt oc ou ow)), (ga 36, .inl (gc 36, 300, .inl a36))]) [0, 1] (by decide) rfl
    have hK9 := hK.sub (tys' := [(gc 36, .int)]) [0] rfl
    refine W.widen (k := 0) (n := 0) (Nat.le_of_ble_eq_true rfl) (Nat.le_of_ble_eq_true rfl) ?_
    exact W.iret (v := 0) hx hb hr (fun t ht hW => ⟨⟨_, (1), rfl, ⟨trivial, (by rw [← hSP, s_M_perfect]; try (rw [if_pos hc1]); all_goals rfl)⟩, by rw [ht]; exact hP9, va_K.moved hW.alike hK9, hD9⟩, hS.F ht⟩) hS.2.2 d_M_perfect_59
  · --  ¬ (uM 3) = 0
    refine lv_iload_n hx hb d_M_perfect_7 rfl (lv_at hl 1 rfl) ?_
    refine lv_if_lt (tgt := 30) hx hb d_M_perfect_8 rfl (fun hc4 => ?_) (fun hc4 => ?_)
    · --  x < 0
      refine lv_iconst (v := 0) hx hb d_M_perfect_30 (by decide) ?_
      refine lv_istore_n hx hb d_M_perfect_31 rfl hl (by decide) rfl (fun ls hl => ?_)
      replace hl : lv_has ls 3 [(2, .int 0), (0, .ref m0), (1, .int x)] := hl
      refine lv_aload_n hx hb d_M_perfect_32 rfl (lv_at hl 1 rfl) ?_
      refine lv_iload_n hx hb d_M_perfect_33 rfl (lv_at hl 0 rfl) ?_
      refine lv_if_eq (tgt := 41) hx hb d_M_perfect_34 rfl (fun hc5 => ?_) (fun hc5 => by first | exact absurd (by decide) hc5 | exact absurd hc5 (by decide))
      refine lv_iconst (v := 1) hx hb d_M_perfect_41 (by decide) ?_
      refine va_put (D := (dC, dI)) (ci := 6) (v := .int 1) (ty := .int) (C := "VotedTripleModel") (T := F_M) (N := 37) hx hb hw in_M ft_M tyok_M nm_M hown hK hP hD hS 0 rfl rfl 0 (by decide) (hw _ k_724) (fun _ h9 => h9) rfl (by decide +kernel) rfl rfl (Nat.le_of_ble_eq_true rfl) d_M_perfect_42 (fun H locs hP hD hS => ?_)
      replace hP : va_P (dC, dI) classes [(m0, .inr (6, [.int 1, .int (nI cn), .ref (ga 2), .int (uM 3), .int (uM 4), .int (uM 5), .int (nI sn), .int (uM 7), .ref (ga 8), .ref (ga 9), .ref (ga 10), .ref (ga 11), .ref (ga 12), .ref (ga 13), .ref (ga 14), .ref (ga 15), .ref (ga 16), .ref (ga 17), .ref (ga 18), .ref (ga 19), .ref (ga 20), .ref (ga 21), .ref (ga 22), .ref (ga 23), .int (uM 24), .int (uM 25), .int (nI cm), .int (nI us), .ref (ga 28), .int (nI wt), .ref (ga 30), .ref (ga 31), .ref (ga 32), .int (nI oc), .int (nI ou), .int (nI ow), .ref (ga 36)])), (ga 36, .inl (gc 36, 300, .inl a36))] H := hP
      replace hD : va_D A [(m0, .inr (6, [.int 1, .int (nI cn), .ref (ga 2), .int (uM 3), .int (uM 4), .int (uM 5), .int (nI sn), .int (uM 7), .ref (ga 8), .ref (ga 9), .ref (ga 10), .ref (ga 11), .ref (ga 12), .ref (ga 13), .ref (ga 14), .ref (ga 15), .ref (ga 16), .ref (ga 17), .ref (ga 18), .ref (ga 19), .ref (ga 20), .ref (ga 21), .ref (ga 22), .ref (ga 23), .int (uM 24), .int (uM 25), .int (nI cm), .int (nI us), .ref (ga 28), .int (nI wt), .ref (ga 30), .ref (ga 31), .ref (ga 32), .int (nI oc), .int (nI ou), .int (nI ow), .ref (ga 36)])), (ga 36, .inl (gc 36, 300, .inl a36))] := hD
      refine lv_iload_n hx hb d_M_perfect_45 rfl (lv_at hl 0 rfl) ?_
      refine lv_if_eq (tgt := 58) hx hb d_M_perfect_46 rfl (fun hc6 => ?_) (fun hc6 => by first | exact absurd (by decide) hc6 | exact absurd hc6 (by decide))
      refine lv_iconst (v := 0) hx hb d_M_perfect_58 (by decide) ?_
      have hP9 := hP.sub (ws' := [(m0, .inr (6, oM ga (upc uM 0 1) cn sn cm us wt oc ou ow)), (ga 36, .inl (gc 36, 300, .inl a36))]) [0, 1] rfl
      have hD9 := hD.sub (ws' := [(m0, .inr (6, oM ga (upc uM 0 1) cn sn cm us wt oc ou ow)), (ga 36, .inl (gc 36, 300, .inl a36))]) [0, 1] (by decide) rfl
      have hK9 := hK.sub (tys' := [(gc 36, .int)]) [0] rfl
      refine W.widen (k := 0) (n := 0) (Nat.le_of_ble_eq_true rfl) (Nat.le_of_ble_eq_true rfl) ?_
      exact W.iret (v := 0) hx hb hr (fun t ht hW => ⟨⟨_, (1), rfl, ⟨trivial, (by rw [← hSP, s_M_perfect]; try (rw [if_neg hc1]); try (rw [if_pos hc4]); all_goals rfl)⟩, by rw [ht]; exact hP9, va_K.moved hW.alike hK9, hD9⟩, hS.F ht⟩) hS.2.2 d_M_perfect_59
    · --  ¬ x < 0
      refine lv_iload_n hx hb d_M_perfect_11 rfl (lv_at hl 1 rfl) ?_
      refine lv_aload_n hx hb d_M_perfect_12 rfl (lv_at hl 0 rfl) ?_
      refine va_get (D := (dC, dI)) (ci := 6) (v := .int (nI ow)) (C := "VotedTripleModel") (T := F_M) (N := 37) hx hb hw in_M hown hK hP 0 rfl rfl 35 (by decide) (hw _ k_758) (fun _ h9 => h9) rfl d_M_perfect_13 ?_
      refine lv_icmp_ge (tgt := 30) hx hb d_M_perfect_16 rfl (fun hc7 => ?_) (fun hc7 => ?_)
      · --  (nI ow) ≤ x
        refine lv_iconst (v := 0) hx hb d_M_perfect_30 (by decide) ?_
        refine lv_istore_n hx hb d_M_perfect_31 rfl hl (by decide) rfl (fun ls hl => ?_)
        replace hl : lv_has ls 3 [(2, .int 0), (0, .ref m0), (1, .int x)] := hl
        refine lv_aload_n hx hb d_M_perfect_32 rfl (lv_at hl 1 rfl) ?_
        refine lv_iload_n hx hb d_M_perfect_33 rfl (lv_at hl 0 rfl) ?_
        refine lv_if_eq (tgt := 41) hx hb d_M_perfect_34 rfl (fun hc8 => ?_) (fun hc8 => by first | exact absurd (by decide) hc8 | exact absurd hc8 (by decide))
        refine lv_iconst (v := 1) hx hb d_M_perfect_41 (by decide) ?_
        refine va_put (D := (dC, dI)) (ci := 6) (v := .int 1) (ty := .int) (C := "VotedTripleModel") (T := F_M) (N := 37) hx hb hw in_M ft_M tyok_M nm_M hown hK hP hD hS 0 rfl rfl 0 (by decide) (hw _ k_724) (fun _ h9 => h9) rfl (by decide +kernel) rfl rfl (Nat.le_of_ble_eq_true rfl) d_M_perfect_42 (fun H locs hP hD hS => ?_)
        replace hP : va_P (dC, dI) classes [(m0, .inr (6, [.int 1, .int (nI cn), .ref (ga 2), .int (uM 3), .int (uM 4), .int (uM 5), .int (nI sn), .int (uM 7), .ref (ga 8), .ref (ga 9), .ref (ga 10), .ref (ga 11), .ref (ga 12), .ref (ga 13), .ref (ga 14), .ref (ga 15), .ref (ga 16), .ref (ga 17), .ref (ga 18), .ref (ga 19), .ref (ga 20), .ref (ga 21), .ref (ga 22), .ref (ga 23), .int (uM 24), .int (uM 25), .int (nI cm), .int (nI us), .ref (ga 28), .int (nI wt), .ref (ga 30), .ref (ga 31), .ref (ga 32), .int (nI oc), .int (nI ou), .int (nI ow), .ref (ga 36)])), (ga 36, .inl (gc 36, 300, .inl a36))] H := hP
        replace hD : va_D A [(m0, .inr (6, [.int 1, .int (nI cn), .ref (ga 2), .int (uM 3), .int (uM 4), .int (uM 5), .int (nI sn), .int (uM 7), .ref (ga 8), .ref (ga 9), .ref (ga 10), .ref (ga 11), .ref (ga 12), .ref (ga 13), .ref (ga 14), .ref (ga 15), .ref (ga 16), .ref (ga 17), .ref (ga 18), .ref (ga 19), .ref (ga 20), .ref (ga 21), .ref (ga 22), .ref (ga 23), .int (uM 24), .int (uM 25), .int (nI cm), .int (nI us), .ref (ga 28), .int (nI wt), .ref (ga 30), .ref (ga 31), .ref (ga 32), .int (nI oc), .int (nI ou), .int (nI ow), .ref (ga 36)])), (ga 36, .inl (gc 36, 300, .inl a36))] := hD
        refine lv_iload_n hx hb d_M_perfect_45 rfl (lv_at hl 0 rfl) ?_
        refine lv_if_eq (tgt := 58) hx hb d_M_perfect_46 rfl (fun hc9 => ?_) (fun hc9 => by first | exact absurd (by decide) hc9 | exact absurd hc9 (by decide))
        refine lv_iconst (v := 0) hx hb d_M_perfect_58 (by decide) ?_
        have hP9 := hP.sub (ws' := [(m0, .inr (6, oM ga (upc uM 0 1) cn sn cm us wt oc ou ow)), (ga 36, .inl (gc 36, 300, .inl a36))]) [0, 1] rfl
        have hD9 := hD.sub (ws' := [(m0, .inr (6, oM ga (upc uM 0 1) cn sn cm us wt oc ou ow)), (ga 36, .inl (gc 36, 300, .inl a36))]) [0, 1] (by decide) rfl
        have hK9 := hK.sub (tys' := [(gc 36, .int)]) [0] rfl
        refine W.widen (k := 0) (n := 0) (Nat.le_of_ble_eq_true rfl) (Nat.le_of_ble_eq_true rfl) ?_
        exact W.iret (v := 0) hx hb hr (fun t ht hW => ⟨⟨_, (1), rfl, ⟨trivial, (by rw [← hSP, s_M_perfect]; try (rw [if_neg hc1]); try (rw [if_neg hc4]); try (rw [if_pos hc7]); all_goals rfl)⟩, by rw [ht]; exact hP9, va_K.moved hW.alike hK9, hD9⟩, hS.F ht⟩) hS.2.2 d_M_perfect_59
      · --  ¬ (nI ow) ≤ x
        refine lv_iload_n hx hb d_M_perfect_19 rfl (lv_at hl 1 rfl) ?_
        refine lv_sipush (v := 300) hx hb d_M_perfect_20 (by decide) ?_
        refine lv_icmp_ge (tgt := 30) hx hb d_M_perfect_23 rfl (fun hc10 => ?_) (fun hc10 => ?_)
        · --  300 ≤ x
          refine lv_iconst (v := 0) hx hb d_M_perfect_30 (by decide) ?_
          refine lv_istore_n hx hb d_M_perfect_31 rfl hl (by decide) rfl (fun ls hl => ?_)
          replace hl : lv_has ls 3 [(2, .int 0), (0, .ref m0), (1, .int x)] := hl
          refine lv_aload_n hx hb d_M_perfect_32 rfl (lv_at hl 1 rfl) ?_
          refine lv_iload_n hx hb d_M_perfect_33 rfl (lv_at hl 0 rfl) ?_
          refine lv_if_eq (tgt := 41) hx hb d_M_perfect_34 rfl (fun hc11 => ?_) (fun hc11 => by first | exact absurd (by decide) hc11 | exact absurd hc11 (by decide))
          refine lv_iconst (v := 1) hx hb d_M_perfect_41 (by decide) ?_
          refine va_put (D := (dC, dI)) (ci := 6) (v := .int 1) (ty := .int) (C := "VotedTripleModel") (T := F_M) (N := 37) hx hb hw in_M ft_M tyok_M nm_M hown hK hP hD hS 0 rfl rfl 0 (by decide) (hw _ k_724) (fun _ h9 => h9) rfl (by decide +kernel) rfl rfl (Nat.le_of_ble_eq_true rfl) d_M_perfect_42 (fun H locs hP hD hS => ?_)
          replace hP : va_P (dC, dI) classes [(m0, .inr (6, [.int 1, .int (nI cn), .ref (ga 2), .int (uM 3), .int (uM 4), .int (uM 5), .int (nI sn), .int (uM 7), .ref (ga 8), .ref (ga 9), .ref (ga 10), .ref (ga 11), .ref (ga 12), .ref (ga 13), .ref (ga 14), .ref (ga 15), .ref (ga 16), .ref (ga 17), .ref (ga 18), .ref (ga 19), .ref (ga 20), .ref (ga 21), .ref (ga 22), .ref (ga 23), .int (uM 24), .int (uM 25), .int (nI cm), .int (nI us), .ref (ga 28), .int (nI wt), .ref (ga 30), .ref (ga 31), .ref (ga 32), .int (nI oc), .int (nI ou), .int (nI ow), .ref (ga 36)])), (ga 36, .inl (gc 36, 300, .inl a36))] H := hP
          replace hD : va_D A [(m0, .inr (6, [.int 1, .int (nI cn), .ref (ga 2), .int (uM 3), .int (uM 4), .int (uM 5), .int (nI sn), .int (uM 7), .ref (ga 8), .ref (ga 9), .ref (ga 10), .ref (ga 11), .ref (ga 12), .ref (ga 13), .ref (ga 14), .ref (ga 15), .ref (ga 16), .ref (ga 17), .ref (ga 18), .ref (ga 19), .ref (ga 20), .ref (ga 21), .ref (ga 22), .ref (ga 23), .int (uM 24), .int (uM 25), .int (nI cm), .int (nI us), .ref (ga 28), .int (nI wt), .ref (ga 30), .ref (ga 31), .ref (ga 32), .int (nI oc), .int (nI ou), .int (nI ow), .ref (ga 36)])), (ga 36, .inl (gc 36, 300, .inl a36))] := hD
          refine lv_iload_n hx hb d_M_perfect_45 rfl (lv_at hl 0 rfl) ?_
          refine lv_if_eq (tgt := 58) hx hb d_M_perfect_46 rfl (fun hc12 => ?_) (fun hc12 => by first | exact absurd (by decide) hc12 | exact absurd hc12 (by decide))
          refine lv_iconst (v := 0) hx hb d_M_perfect_58 (by decide) ?_
          have hP9 := hP.sub (ws' := [(m0, .inr (6, oM ga (upc uM 0 1) cn sn cm us wt oc ou ow)), (ga 36, .inl (gc 36, 300, .inl a36))]) [0, 1] rfl
          have hD9 := hD.sub (ws' := [(m0, .inr (6, oM ga (upc uM 0 1) cn sn cm us wt oc ou ow)), (ga 36, .inl (gc 36, 300, .inl a36))]) [0, 1] (by decide) rfl
          have hK9 := hK.sub (tys' := [(gc 36, .int)]) [0] rfl
          refine W.widen (k := 0) (n := 0) (Nat.le_of_ble_eq_true rfl) (Nat.le_of_ble_eq_true rfl) ?_
          exact W.iret (v := 0) hx hb hr (fun t ht hW => ⟨⟨_, (1), rfl, ⟨trivial, (by rw [← hSP, s_M_perfect]; try (rw [if_neg hc1]); try (rw [if_neg hc4]); try (rw [if_neg hc7]); try (rw [if_pos hc10]); all_goals rfl)⟩, by rw [ht]; exact hP9, va_K.moved hW.alike hK9, hD9⟩, hS.F ht⟩) hS.2.2 d_M_perfect_59
        · --  ¬ 300 ≤ x
          refine lv_iconst (v := 1) hx hb d_M_perfect_26 (by decide) ?_
          refine lv_goto (tgt := 31) hx hb d_M_perfect_27 rfl ?_
          refine lv_istore_n hx hb d_M_perfect_31 rfl hl (by decide) rfl (fun ls hl => ?_)
          replace hl : lv_has ls 3 [(2, .int 1), (0, .ref m0), (1, .int x)] := hl
          refine lv_aload_n hx hb d_M_perfect_32 rfl (lv_at hl 1 rfl) ?_
          refine lv_iload_n hx hb d_M_perfect_33 rfl (lv_at hl 0 rfl) ?_
          refine lv_if_eq (tgt := 41) hx hb d_M_perfect_34 rfl (fun hc13 => by first | exact absurd hc13 (by decide) | exact absurd (by decide) hc13) (fun hc13 => ?_)
          refine lv_iconst (v := 0) hx hb d_M_perfect_37 (by decide) ?_
          refine lv_goto (tgt := 42) hx hb d_M_perfect_38 rfl ?_
          refine va_put (D := (dC, dI)) (ci := 6) (v := .int 0) (ty := .int) (C := "VotedTripleModel") (T := F_M) (N := 37) hx hb hw in_M ft_M tyok_M nm_M hown hK hP hD hS 0 rfl rfl 0 (by decide) (hw _ k_724) (fun _ h9 => h9) rfl (by decide +kernel) rfl rfl (Nat.le_of_ble_eq_true rfl) d_M_perfect_42 (fun H locs hP hD hS => ?_)
          replace hP : va_P (dC, dI) classes [(m0, .inr (6, [.int 0, .int (nI cn), .ref (ga 2), .int (uM 3), .int (uM 4), .int (uM 5), .int (nI sn), .int (uM 7), .ref (ga 8), .ref (ga 9), .ref (ga 10), .ref (ga 11), .ref (ga 12), .ref (ga 13), .ref (ga 14), .ref (ga 15), .ref (ga 16), .ref (ga 17), .ref (ga 18), .ref (ga 19), .ref (ga 20), .ref (ga 21), .ref (ga 22), .ref (ga 23), .int (uM 24), .int (uM 25), .int (nI cm), .int (nI us), .ref (ga 28), .int (nI wt), .ref (ga 30), .ref (ga 31), .ref (ga 32), .int (nI oc), .int (nI ou), .int (nI ow), .ref (ga 36)])), (ga 36, .inl (gc 36, 300, .inl a36))] H := hP
          replace hD : va_D A [(m0, .inr (6, [.int 0, .int (nI cn), .ref (ga 2), .int (uM 3), .int (uM 4), .int (uM 5), .int (nI sn), .int (uM 7), .ref (ga 8), .ref (ga 9), .ref (ga 10), .ref (ga 11), .ref (ga 12), .ref (ga 13), .ref (ga 14), .ref (ga 15), .ref (ga 16), .ref (ga 17), .ref (ga 18), .ref (ga 19), .ref (ga 20), .ref (ga 21), .ref (ga 22), .ref (ga 23), .int (uM 24), .int (uM 25), .int (nI cm), .int (nI us), .ref (ga 28), .int (nI wt), .ref (ga 30), .ref (ga 31), .ref (ga 32), .int (nI oc), .int (nI ou), .int (nI ow), .ref (ga 36)])), (ga 36, .inl (gc 36, 300, .inl a36))] := hD
          refine lv_iload_n hx hb d_M_perfect_45 rfl (lv_at hl 0 rfl) ?_
          refine lv_if_eq (tgt := 58) hx hb d_M_perfect_46 rfl (fun hc14 => by first | exact absurd hc14 (by decide) | exact absurd (by decide) hc14) (fun hc14 => ?_)
          refine lv_aload_n hx hb d_M_perfect_49 rfl (lv_at hl 1 rfl) ?_
          refine va_get (D := (dC, dI)) (ci := 6) (v := .ref (ga 36)) (C := "VotedTripleModel") (T := F_M) (N := 37) hx hb hw in_M hown hK hP 0 rfl rfl 36 (by decide) (hw _ k_759) (fun _ h9 => h9) rfl d_M_perfect_50 ?_
          refine lv_iload_n hx hb d_M_perfect_53 rfl (lv_at hl 2 rfl) ?_
          refine va_iald hx hb hK hP 1 0 rfl rfl (in_of (N := 300) rfl hc4 hc10) d_M_perfect_54 ?_
          refine lv_goto (tgt := 59) hx hb d_M_perfect_55 rfl ?_
          have hP9 := hP.sub (ws' := [(m0, .inr (6, oM ga (upc uM 0 0) cn sn cm us wt oc ou ow)), (ga 36, .inl (gc 36, 300, .inl a36))]) [0, 1] rfl
          have hD9 := hD.sub (ws' := [(m0, .inr (6, oM ga (upc uM 0 0) cn sn cm us wt oc ou ow)), (ga 36, .inl (gc 36, 300, .inl a36))]) [0, 1] (by decide) rfl
          have hK9 := hK.sub (tys' := [(gc 36, .int)]) [0] rfl
          refine W.widen (k := 0) (n := 0) (Nat.le_of_ble_eq_true rfl) (Nat.le_of_ble_eq_true rfl) ?_
          exact W.iret (v := (a36 (Int32.toNatClampNeg x))) hx hb hr (fun t ht hW => ⟨⟨_, (0), rfl, ⟨trivial, (by rw [← hSP, s_M_perfect]; try (rw [if_neg hc1]); try (rw [if_neg hc4]); try (rw [if_neg hc7]); try (rw [if_neg hc10]); all_goals rfl)⟩, by rw [ht]; exact hP9, va_K.moved hW.alike hK9, hD9⟩, hS.F ht⟩) hS.2.2 d_M_perfect_59

set_option maxHeartbeats 4000000 in
set_option maxRecDepth 100000 in
theorem c_M_freeze (l : Launch) (dC : Nat → ClassId) (dI : Nat → Nat → Nat) (m0 : Nat) (ga : Nat → Nat) (gc : Nat → ClassId) (uM : Nat → Int32) (cn : Nat) (sn : Nat) (cm : Nat) (us : Nat) (wt : Nat) (oc : Nat) (ou : Nat) (ow : Nat) (a14 : Nat → Int32) (x : Int32) (zb : Int32) (sz : Nat) : Met l y_M_freeze (tbw y_M_freeze b_M_freeze 3 (some .boolean)) ({ frames := 1, cells := 0, slots := 0, locals := 20 }) (va_Pc [.ref m0, .int x, .int zb] (fun U => U.heap.size = sz ∧ va_P (dC, dI) classes [(m0, .inr (6, oM ga uM cn sn cm us wt oc ou ow)), (ga 14, .inl (gc 14, 3, .inl a14))] U.heap ∧ va_K (dC, dI) classes [(gc 14, .boolean)] U ∧ va_D (fun _ => True) [(m0, .inr (6, oM ga uM cn sn cm us wt oc ou ow)), (ga 14, .inl (gc 14, 3, .inl a14))])) (va_Qi (fun (r : Int32) (u9 : (Nat → Int32) × Int32) => match u9 with | (a14n, y0) => (r = bI (mmB uM x)) ∧ (r, a14n, y0) = s_M_freeze uM a14 x zb) (fun (u9 : (Nat → Int32) × Int32) t => match u9 with | (a14n, y0) => va_P (dC, dI) classes [(m0, .inr (6, oM ga (upc uM 0 y0) cn sn cm us wt oc ou ow)), (ga 14, .inl (gc 14, 3, .inl a14n))] t.heap ∧ va_K (dC, dI) classes [(gc 14, .boolean)] t ∧ va_D (va_A [(m0, .inr (6, oM ga uM cn sn cm us wt oc ou ow)), (ga 14, .inl (gc 14, 3, .inl a14))] sz) [(m0, .inr (6, oM ga (upc uM 0 y0) cn sn cm us wt oc ou ow)), (ga 14, .inl (gc 14, 3, .inl a14n))]) (va_A [(m0, .inr (6, oM ga uM cn sn cm us wt oc ou ow)), (ga 14, .inl (gc 14, 3, .inl a14))] sz)) 0 0 (va_A [(m0, .inr (6, oM ga uM cn sn cm us wt oc ou ow)), (ga 14, .inl (gc 14, 3, .inl a14))] sz) := by
  refine Met.ofW (cc := b_M_freeze) (maxL := 3) (ret := (some .boolean)) (by decide) rfl ?_
  intro p e s m args below meth c s₁ B hml hv
  obtain ⟨rfl, hsz, hP, hK, hD0⟩ := hv
  have hx := B.exec
  have hb := B.bytes
  have hr := B.returns
  have hts := atoms_spec (ws := (tbw y_M_freeze b_M_freeze 3 (some .boolean))) B.pre
  have hw : ∀ z9 ∈ tb, z9.before ([.ref m0, .int x, .int zb] : List Value).toArray s = true := fun z9 h => hts z9 (List.mem_cons_of_mem _ h)
  have hown : s.vm.findClass "VotedTripleModel" = some m.cls := findClass_of_methodNamed B.named
  have hlocks := B.notSynchronized
  subst hsz
  replace hD := hD0.self (sz := s.heap.size)
  generalize hAe : va_A [(m0, .inr (6, oM ga uM cn sn cm us wt oc ou ow)), (ga 14, .inl (gc 14, 3, .inl a14))] s.heap.size = A at hD ⊢
  have hA : ∀ q : Nat, s.heap.size ≤ q → A q := fun q h => by rw [← hAe]; exact Or.inr h
  have hS : va_S A s.heap s.heap [] := va_S.rf
  replace hl := lv_entry ([.ref m0, .int x, .int zb]) (n := 3) (Nat.le_of_ble_eq_true rfl)
  rw [lg_entry_eq]
  generalize (lg_sl ([.ref m0, .int x, .int zb]) ++ List.replicate (3 - (lg_sl ([.ref m0, .int x, .int zb])).length) Slot.unset).toArray = ls at hl ⊢
  replace hl : lv_has ls 3 [(0, .ref m0), (1, .int x), (2, .int zb)] := hl
  generalize hSP : s_M_freeze uM a14 x zb = SP
  refine lv_aload_n hx hb d_M_freeze_0 rfl (lv_at hl 0 rfl) ?_
  refine lv_iconst (v := 0) hx hb d_M_freeze_1 (by decide) ?_
  refine va_put (D := (dC, dI)) (ci := 6) (v := .int 0) (ty := .int) (C := "VotedTripleModel") (T := F_M) (N := 37) hx hb hw in_M ft_M tyok_M nm_M hown hK hP hD hS 0 rfl rfl 0 (by decide) (hw _ k_724) (fun _ h9 => h9) rfl (by decide +kernel) rfl rfl (Nat.le_of_ble_eq_true rfl) d_M_freeze_2 (fun H locs hP hD hS => ?_)
  replace hP : va_P (dC, dI) classes [(m0, .inr (6, [.int 0, .int (nI cn), .ref (ga 2), .int (uM 3), .int (uM 4), .int (uM 5), .int (nI sn), .int (uM 7), .ref (ga 8), .ref (ga 9), .ref (ga 10), .ref (ga 11), .ref (ga 12), .ref (ga 13), .ref (ga 14), .ref (ga 15), .ref (ga 16), .ref (ga 17), .ref (ga 18), .ref (ga 19), .ref (ga 20), .ref (ga 21), .ref (ga 22), .ref (ga 23), .int (uM 24), .int (uM 25), .int (nI cm), .int (nI us), .ref (ga 28), .int (nI wt), .ref (ga 30), .ref (ga 31), .ref (ga 32), .int (nI oc), .int (nI ou), .int (nI ow), .ref (ga 36)])), (ga 14, .inl (gc 14, 3, .inl a14))] H := hP
  replace hD : va_D A [(m0, .inr (6, [.int 0, .int (nI cn), .ref (ga 2), .int (uM 3), .int (uM 4), .int (uM 5), .int (nI sn), .int (uM 7), .ref (ga 8), .ref (ga 9), .ref (ga 10), .ref (ga 11), .ref (ga 12), .ref (ga 13), .ref (ga 14), .ref (ga 15), .ref (ga 16), .ref (ga 17), .ref (ga 18), .ref (ga 19), .ref (ga 20), .ref (ga 21), .ref (ga 22), .ref (ga 23), .int (uM 24), .int (uM 25), .int (nI cm), .int (nI us), .ref (ga 28), .int (nI wt), .ref (ga 30), .ref (ga 31), .ref (ga 32), .int (nI oc), .int (nI ou), .int (nI ow), .ref (ga 36)])), (ga 14, .inl (gc 14, 3, .inl a14))] := hD
  refine lv_aload_n hx hb d_M_freeze_5 rfl (lv_at hl 0 rfl) ?_
  refine va_get (D := (dC, dI)) (ci := 6) (v := .int (uM 3)) (C := "VotedTripleModel") (T := F_M) (N := 37) hx hb hw in_M hown hK hP 0 rfl rfl 3 (by decide) (hw _ k_727) (fun _ h9 => h9) rfl d_M_freeze_6 ?_
  refine lv_if_eq (tgt := 19) hx hb d_M_freeze_9 rfl (fun hc1 => ?_) (fun hc1 => ?_)
  · --  (uM 3) = 0
    refine lv_iconst (v := 0) hx hb d_M_freeze_19 (by decide) ?_
    have hP9 := hP.sub (ws' := [(m0, .inr (6, oM ga (upc uM 0 0) cn sn cm us wt oc ou ow)), (ga 14, .inl (gc 14, 3, .inl a14))]) [0, 1] rfl
    have hD9 := hD.sub (ws' := [(m0, .inr (6, oM ga (upc uM 0 0) cn sn cm us wt oc ou ow)), (ga 14, .inl (gc 14, 3, .inl a14))]) [0, 1] (by decide) rfl
    have hK9 := hK.sub (tys' := [(gc 14, .boolean)]) [0] rfl
    refine W.widen (k := 0) (n := 0) (Nat.le_of_ble_eq_true rfl) (Nat.le_of_ble_eq_true rfl) ?_
    exact W.zret (v := 0) (ty := .boolean) hx hb hr rfl (fun t ht hW => ⟨⟨_, (a14, 0), rfl, ⟨(by simp [mmB, hc1]; rfl), (by rw [← hSP, s_M_freeze]; try (rw [if_pos hc1]); all_goals rfl)⟩, by rw [ht]; exact hP9, va_K.moved hW.alike hK9, hD9⟩, hS.F ht⟩) hS.2.2 d_M_freeze_20
  · --  ¬ (uM 3) = 0
    refine lv_iload_n hx hb d_M_freeze_12 rfl (lv_at hl 1 rfl) ?_
    refine vp_callSi (va_runS (As := [.int x]) (rest := []) ⟨hx, hb, hml, hown, hw⟩ (c_M_isModule l dC dI x) (va_cwS 1 hw (gdS (k_962) (k_960) (k_961) (k_8)) rfl rfl rfl (by decide +kernel) ⟨Nat.le_of_ble_eq_true rfl, Nat.le_of_ble_eq_true rfl⟩) ⟨fun _ _ _ _ q => q, fun _ _ _ => ⟨rfl, trivial⟩⟩ rfl rfl hl.1 rfl (lv_room (Nat.le_of_ble_eq_true rfl)) d_M_freeze_13 ⟨Nat.le_of_ble_eq_true rfl, Nat.le_of_ble_eq_true rfl⟩).run (fun r2 hr3 => ?_)
    subst hr3
    refine lv_if_ne (tgt := 21) hx hb d_M_freeze_16 rfl (fun hc4 => ?_) (fun hc4 => ?_)
    · --  ¬ (bI (in3 x)) = 0
      refine lv_aload_n hx hb d_M_freeze_21 rfl (lv_at hl 0 rfl) ?_
      refine va_get (D := (dC, dI)) (ci := 6) (v := .ref (ga 14)) (C := "VotedTripleModel") (T := F_M) (N := 37) hx hb hw in_M hown hK hP 0 rfl rfl 14 (by decide) (hw _ k_738) (fun _ h9 => h9) rfl d_M_freeze_22 ?_
      refine lv_iload_n hx hb d_M_freeze_25 rfl (lv_at hl 1 rfl) ?_
      refine lv_iload_n hx hb d_M_freeze_26 rfl (lv_at hl 2 rfl) ?_
      refine va_zast hx hb hK hP hD hS 1 0 rfl rfl (in3_in hc4) d_M_freeze_27 (fun H locs hP hD hS => ?_)
      replace hP : va_P (dC, dI) classes [(m0, .inr (6, [.int 0, .int (nI cn), .ref (ga 2), .int (uM 3), .int (uM 4), .int (uM 5), .int (nI sn), .int (uM 7), .ref (ga 8), .ref (ga 9), .ref (ga 10), .ref (ga 11), .ref (ga 12), .ref (ga 13), .ref (ga 14), .ref (ga 15), .ref (ga 16), .ref (ga 17), .ref (ga 18), .ref (ga 19), .ref (ga 20), .ref (ga 21), .ref (ga 22), .ref (ga 23), .int (uM 24), .int (uM 25), .int (nI cm), .int (nI us), .ref (ga 28), .int (nI wt), .ref (ga 30), .ref (ga 31), .ref (ga 32), .int (nI oc), .int (nI ou), .int (nI ow), .ref (ga 36)])), (ga 14, .inl (gc 14, 3, .inl (upd a14 (Int32.toNatClampNeg x) (vp_nar .boolean zb))))] H := hP
      replace hD : va_D A [(m0, .inr (6, [.int 0, .int (nI cn), .ref (ga 2), .int (uM 3), .int (uM 4), .int (uM 5), .int (nI sn), .int (uM 7), .ref (ga 8), .ref (ga 9), .ref (ga 10), .ref (ga 11), .ref (ga 12), .ref (ga 13), .ref (ga 14), .ref (ga 15), .ref (ga 16), .ref (ga 17), .ref (ga 18), .ref (ga 19), .ref (ga 20), .ref (ga 21), .ref (ga 22), .ref (ga 23), .int (uM 24), .int (uM 25), .int (nI cm), .int (nI us), .ref (ga 28), .int (nI wt), .ref (ga 30), .ref (ga 31), .ref (ga 32), .int (nI oc), .int (nI ou), .int (nI ow), .ref (ga 36)])), (ga 14, .inl (gc 14, 3, .inl (upd a14 (Int32.toNatClampNeg x) (vp_nar .boolean zb))))] := hD
      refine lv_iconst (v := 1) hx hb d_M_freeze_28 (by decide) ?_
      have hP9 := hP.sub (ws' := [(m0, .inr (6, oM ga (upc uM 0 0) cn sn cm us wt oc ou ow)), (ga 14, .inl (gc 14, 3, .inl (upd a14 (Int32.toNatClampNeg x) (vp_nar .boolean zb))))]) [0, 1] rfl
      have hD9 := hD.sub (ws' := [(m0, .inr (6, oM ga (upc uM 0 0) cn sn cm us wt oc ou ow)), (ga 14, .inl (gc 14, 3, .inl (upd a14 (Int32.toNatClampNeg x) (vp_nar .boolean zb))))]) [0, 1] (by decide) rfl
      have hK9 := hK.sub (tys' := [(gc 14, .boolean)]) [0] rfl
      refine W.widen (k := 0) (n := 0) (Nat.le_of_ble_eq_true rfl) (Nat.le_of_ble_eq_true rfl) ?_
      exact W.zret (v := 1) (ty := .boolean) hx hb hr rfl (fun t ht hW => ⟨⟨_, (upd a14 (Int32.toNatClampNeg x) (vp_nar .boolean zb), 0), rfl, ⟨(by rw [show mmB uM x = true by simp [mmB, hc1, bI_t hc4]]; rfl), (by rw [← hSP, s_M_freeze]; try (rw [if_neg hc1]); try (rw [if_neg hc4]); all_goals rfl)⟩, by rw [ht]; exact hP9, va_K.moved hW.alike hK9, hD9⟩, hS.F ht⟩) hS.2.2 d_M_freeze_29
    · --  (bI (in3 x)) = 0
      refine lv_iconst (v := 0) hx hb d_M_freeze_19 (by decide) ?_
      have hP9 := hP.sub (ws' := [(m0, .inr (6, oM ga (upc uM 0 0) cn sn cm us wt oc ou ow)), (ga 14, .inl (gc 14, 3, .inl a14))]) [0, 1] rfl
      have hD9 := hD.sub (ws' := [(m0, .inr (6, oM ga (upc uM 0 0) cn sn cm us wt oc ou ow)), (ga 14, .inl (gc 14, 3, .inl a14))]) [0, 1] (by decide) rfl
      have hK9 := hK.sub (tys' := [(gc 14, .boolean)]) [0] rfl
      refine W.widen (k := 0) (n := 0) (Nat.le_of_ble_eq_true rfl) (Nat.le_of_ble_eq_true rfl) ?_
      exact W.zret (v := 0) (ty := .boolean) hx hb hr rfl (fun t ht hW => ⟨⟨_, (a14, 0), rfl, ⟨(by rw [show mmB uM x = false by simp [mmB, hc1, bI_f hc4]]; rfl), (by rw [← hSP, s_M_freeze]; try (rw [if_neg hc1]); try (rw [if_pos hc4]); all_goals rfl)⟩, by rw [ht]; exact hP9, va_K.moved hW.alike hK9, hD9⟩, hS.F ht⟩) hS.2.2 d_M_freeze_20

set_option maxHeartbeats 4000000 in
set_option maxRecDepth 100000 in
theorem c_M_skip (l : Launch) (dC : Nat → ClassId) (dI : Nat → Nat → Nat) (m0 : Nat) (ga : Nat → Nat) (gc : Nat → ClassId) (uM : Nat → Int32) (cn : Nat) (sn : Nat) (cm : Nat) (us : Nat) (wt : Nat) (oc : Nat) (ou : Nat) (ow : Nat) (a15 : Nat → Int32) (x : Int32) (sz : Nat) : Met l y_M_skip (tbw y_M_skip b_M_skip 2 (some .boolean)) ({ frames := 1, cells := 0, slots := 0, locals := 20 }) (va_Pc [.ref m0, .int x] (fun U => U.heap.size = sz ∧ va_P (dC, dI) classes [(m0, .inr (6, oM ga uM cn sn cm us wt oc ou ow)), (ga 15, .inl (gc 15, 3, .inl a15))] U.heap ∧ va_K (dC, dI) classes [(gc 15, .boolean)] U ∧ va_D (fun _ => True) [(m0, .inr (6, oM ga uM cn sn cm us wt oc ou ow)), (ga 15, .inl (gc 15, 3, .inl a15))])) (va_Qi (fun (r : Int32) (u9 : (Nat → Int32) × Int32) => match u9 with | (a15n, y0) => (r = bI (mmB uM x)) ∧ (r, a15n, y0) = s_M_skip uM a15 x) (fun (u9 : (Nat → Int32) × Int32) t => match u9 with | (a15n, y0) => va_P (dC, dI) classes [(m0, .inr (6, oM ga (upc uM 0 y0) cn sn cm us wt oc ou ow)), (ga 15, .inl (gc 15, 3, .inl a15n))] t.heap ∧ va_K (dC, dI) classes [(gc 15, .boolean)] t ∧ va_D (va_A [(m0, .inr (6, oM ga uM cn sn cm us wt oc ou ow)), (ga 15, .inl (gc 15, 3, .inl a15))] sz) [(m0, .inr (6, oM ga (upc uM 0 y0) cn sn cm us wt oc ou ow)), (ga 15, .inl (gc 15, 3, .inl a15n))]) (va_A [(m0, .inr (6, oM ga uM cn sn cm us wt oc ou ow)), (ga 15, .inl (gc 15, 3, .inl a15))] sz)) 0 0 (va_A [(m0, .inr (6, oM ga uM cn sn cm us wt oc ou ow)), (ga 15, .inl (gc 15, 3, .inl a15))] sz) := by
  refine Met.ofW (cc := b_M_skip) (maxL := 2) (ret := (some .boolean)) (by decide) rfl ?_
  intro p e s m args below meth c s₁ B hml hv
  obtain ⟨rfl, hsz, hP, hK, hD0⟩ := hv
  have hx := B.exec
  have hb := B.bytes
  have hr := B.returns
  have hts := atoms_spec (ws := (tbw y_M_skip b_M_skip 2 (some .boolean))) B.pre
  have hw : ∀ z9 ∈ tb, z9.before ([.ref m0, .int x] : List Value).toArray s = true := fun z9 h => hts z9 (List.mem_cons_of_mem _ h)
  have hown : s.vm.findClass "VotedTripleModel" = some m.cls := findClass_of_methodNamed B.named
  have hlocks := B.notSynchronized
  subst hsz
  replace hD := hD0.self (sz := s.heap.size)
  generalize hAe : va_A [(m0, .inr (6, oM ga uM cn sn cm us wt oc ou ow)), (ga 15, .inl (gc 15, 3, .inl a15))] s.heap.size = A at hD ⊢
  have hA : ∀ q : Nat, s.heap.size ≤ q → A q := fun q h => by rw [← hAe]; exact Or.inr h
  have hS : va_S A s.heap s.heap [] := va_S.rf
  replace hl := lv_entry ([.ref m0, .int x]) (n := 2) (Nat.le_of_ble_eq_true rfl)
  rw [lg_entry_eq]
  generalize (lg_sl ([.ref m0, .int x]) ++ List.replicate (2 - (lg_sl ([.ref m0, .int x])).length) Slot.unset).toArray = ls at hl ⊢
  replace hl : lv_has ls 2 [(0, .ref m0), (1, .int x)] := hl
  generalize hSP : s_M_skip uM a15 x = SP
  refine lv_aload_n hx hb d_M_skip_0 rfl (lv_at hl 0 rfl) ?_
  refine lv_iconst (v := 0) hx hb d_M_skip_1 (by decide) ?_
  refine va_put (D := (dC, dI)) (ci := 6) (v := .int 0) (ty := .int) (C := "VotedTripleModel") (T := F_M) (N := 37) hx hb hw in_M ft_M tyok_M nm_M hown hK hP hD hS 0 rfl rfl 0 (by decide) (hw _ k_724) (fun _ h9 => h9) rfl (by decide +kernel) rfl rfl (Nat.le_of_ble_eq_true rfl) d_M_skip_2 (fun H locs hP hD hS => ?_)
  replace hP : va_P (dC, dI) classes [(m0, .inr (6, [.int 0, .int (nI cn), .ref (ga 2), .int (uM 3), .int (uM 4), .int (uM 5), .int (nI sn), .int (uM 7), .ref (ga 8), .ref (ga 9), .ref (ga 10), .ref (ga 11), .ref (ga 12), .ref (ga 13), .ref (ga 14), .ref (ga 15), .ref (ga 16), .ref (ga 17), .ref (ga 18), .ref (ga 19), .ref (ga 20), .ref (ga 21), .ref (ga 22), .ref (ga 23), .int (uM 24), .int (uM 25), .int (nI cm), .int (nI us), .ref (ga 28), .int (nI wt), .ref (ga 30), .ref (ga 31), .ref (ga 32), .int (nI oc), .int (nI ou), .int (nI ow), .ref (ga 36)])), (ga 15, .inl (gc 15, 3, .inl a15))] H := hP
  replace hD : va_D A [(m0, .inr (6, [.int 0, .int (nI cn), .ref (ga 2), .int (uM 3), .int (uM 4), .int (uM 5), .int (nI sn), .int (uM 7), .ref (ga 8), .ref (ga 9), .ref (ga 10), .ref (ga 11), .ref (ga 12), .ref (ga 13), .ref (ga 14), .ref (ga 15), .ref (ga 16), .ref (ga 17), .ref (ga 18), .ref (ga 19), .ref (ga 20), .ref (ga 21), .ref (ga 22), .ref (ga 23), .int (uM 24), .int (uM 25), .int (nI cm), .int (nI us), .ref (ga 28), .int (nI wt), .ref (ga 30), .ref (ga 31), .ref (ga 32), .int (nI oc), .int (nI ou), .int (nI ow), .ref (ga 36)])), (ga 15, .inl (gc 15, 3, .inl a15))] := hD
  refine lv_aload_n hx hb d_M_skip_5 rfl (lv_at hl 0 rfl) ?_
  refine va_get (D := (dC, dI)) (ci := 6) (v := .int (uM 3)) (C := "VotedTripleModel") (T := F_M) (N := 37) hx hb hw in_M hown hK hP 0 rfl rfl 3 (by decide) (hw _ k_727) (fun _ h9 => h9) rfl d_M_skip_6 ?_
  refine lv_if_eq (tgt := 19) hx hb d_M_skip_9 rfl (fun hc1 => ?_) (fun hc1 => ?_)
  · --  (uM 3) = 0
    refine lv_iconst (v := 0) hx hb d_M_skip_19 (by decide) ?_
    have hP9 := hP.sub (ws' := [(m0, .inr (6, oM ga (upc uM 0 0) cn sn cm us wt oc ou ow)), (ga 15, .inl (gc 15, 3, .inl a15))]) [0, 1] rfl
    have hD9 := hD.sub (ws' := [(m0, .inr (6, oM ga (upc uM 0 0) cn sn cm us wt oc ou ow)), (ga 15, .inl (gc 15, 3, .inl a15))]) [0, 1] (by decide) rfl
    have hK9 := hK.sub (tys' := [(gc 15, .boolean)]) [0] rfl
    refine W.widen (k := 0) (n := 0) (Nat.le_of_ble_eq_true rfl) (Nat.le_of_ble_eq_true rfl) ?_
    exact W.zret (v := 0) (ty := .boolean) hx hb hr rfl (fun t ht hW => ⟨⟨_, (a15, 0), rfl, ⟨(by simp [mmB, hc1]; rfl), (by rw [← hSP, s_M_skip]; try (rw [if_pos hc1]); all_goals rfl)⟩, by rw [ht]; exact hP9, va_K.moved hW.alike hK9, hD9⟩, hS.F ht⟩) hS.2.2 d_M_skip_20
  · --  ¬ (uM 3) = 0
    refine lv_iload_n hx hb d_M_skip_12 rfl (lv_at hl 1 rfl) ?_
    refine vp_callSi (va_runS (As := [.int x]) (rest := []) ⟨hx, hb, hml, hown, hw⟩ (c_M_isModule l dC dI x) (va_cwS 1 hw (gdS (k_962) (k_960) (k_961) (k_8)) rfl rfl rfl (by decide +kernel) ⟨Nat.le_of_ble_eq_true rfl, Nat.le_of_ble_eq_true rfl⟩) ⟨fun _ _ _ _ q => q, fun _ _ _ => ⟨rfl, trivial⟩⟩ rfl rfl hl.1 rfl (lv_room (Nat.le_of_ble_eq_true rfl)) d_M_skip_13 ⟨Nat.le_of_ble_eq_true rfl, Nat.le_of_ble_eq_true rfl⟩).run (fun r2 hr3 => ?_)
    subst hr3
    refine lv_if_ne (tgt := 21) hx hb d_M_skip_16 rfl (fun hc4 => ?_) (fun hc4 => ?_)
    · --  ¬ (bI (in3 x)) = 0
      refine lv_aload_n hx hb d_M_skip_21 rfl (lv_at hl 0 rfl) ?_
      refine va_get (D := (dC, dI)) (ci := 6) (v := .ref (ga 15)) (C := "VotedTripleModel") (T := F_M) (N := 37) hx hb hw in_M hown hK hP 0 rfl rfl 15 (by decide) (hw _ k_739) (fun _ h9 => h9) rfl d_M_skip_22 ?_
      refine lv_iload_n hx hb d_M_skip_25 rfl (lv_at hl 1 rfl) ?_
      refine lv_iconst (v := 1) hx hb d_M_skip_26 (by decide) ?_
      refine va_zast hx hb hK hP hD hS 1 0 rfl rfl (in3_in hc4) d_M_skip_27 (fun H locs hP hD hS => ?_)
      replace hP : va_P (dC, dI) classes [(m0, .inr (6, [.int 0, .int (nI cn), .ref (ga 2), .int (uM 3), .int (uM 4), .int (uM 5), .int (nI sn), .int (uM 7), .ref (ga 8), .ref (ga 9), .ref (ga 10), .ref (ga 11), .ref (ga 12), .ref (ga 13), .ref (ga 14), .ref (ga 15), .ref (ga 16), .ref (ga 17), .ref (ga 18), .ref (ga 19), .ref (ga 20), .ref (ga 21), .ref (ga 22), .ref (ga 23), .int (uM 24), .int (uM 25), .int (nI cm), .int (nI us), .ref (ga 28), .int (nI wt), .ref (ga 30), .ref (ga 31), .ref (ga 32), .int (nI oc), .int (nI ou), .int (nI ow), .ref (ga 36)])), (ga 15, .inl (gc 15, 3, .inl (upd a15 (Int32.toNatClampNeg x) (1 : Int32))))] H := hP
      replace hD : va_D A [(m0, .inr (6, [.int 0, .int (nI cn), .ref (ga 2), .int (uM 3), .int (uM 4), .int (uM 5), .int (nI sn), .int (uM 7), .ref (ga 8), .ref (ga 9), .ref (ga 10), .ref (ga 11), .ref (ga 12), .ref (ga 13), .ref (ga 14), .ref (ga 15), .ref (ga 16), .ref (ga 17), .ref (ga 18), .ref (ga 19), .ref (ga 20), .ref (ga 21), .ref (ga 22), .ref (ga 23), .int (uM 24), .int (uM 25), .int (nI cm), .int (nI us), .ref (ga 28), .int (nI wt), .ref (ga 30), .ref (ga 31), .ref (ga 32), .int (nI oc), .int (nI ou), .int (nI ow), .ref (ga 36)])), (ga 15, .inl (gc 15, 3, .inl (upd a15 (Int32.toNatClampNeg x) (1 : Int32))))] := hD
      refine lv_iconst (v := 1) hx hb d_M_skip_28 (by decide) ?_
      have hP9 := hP.sub (ws' := [(m0, .inr (6, oM ga (upc uM 0 0) cn sn cm us wt oc ou ow)), (ga 15, .inl (gc 15, 3, .inl (upd a15 (Int32.toNatClampNeg x) (1 : Int32))))]) [0, 1] rfl
      have hD9 := hD.sub (ws' := [(m0, .inr (6, oM ga (upc uM 0 0) cn sn cm us wt oc ou ow)), (ga 15, .inl (gc 15, 3, .inl (upd a15 (Int32.toNatClampNeg x) (1 : Int32))))]) [0, 1] (by decide) rfl
      have hK9 := hK.sub (tys' := [(gc 15, .boolean)]) [0] rfl
      refine W.widen (k := 0) (n := 0) (Nat.le_of_ble_eq_true rfl) (Nat.le_of_ble_eq_true rfl) ?_
      exact W.zret (v := 1) (ty := .boolean) hx hb hr rfl (fun t ht hW => ⟨⟨_, (upd a15 (Int32.toNatClampNeg x) (1 : Int32), 0), rfl, ⟨(by rw [show mmB uM x = true by simp [mmB, hc1, bI_t hc4]]; rfl), (by rw [← hSP, s_M_skip]; try (rw [if_neg hc1]); try (rw [if_neg hc4]); all_goals rfl)⟩, by rw [ht]; exact hP9, va_K.moved hW.alike hK9, hD9⟩, hS.F ht⟩) hS.2.2 d_M_skip_29
    · --  (bI (in3 x)) = 0
      refine lv_iconst (v := 0) hx hb d_M_skip_19 (by decide) ?_
      have hP9 := hP.sub (ws' := [(m0, .inr (6, oM ga (upc uM 0 0) cn sn cm us wt oc ou ow)), (ga 15, .inl (gc 15, 3, .inl a15))]) [0, 1] rfl
      have hD9 := hD.sub (ws' := [(m0, .inr (6, oM ga (upc uM 0 0) cn sn cm us wt oc ou ow)), (ga 15, .inl (gc 15, 3, .inl a15))]) [0, 1] (by decide) rfl
      have hK9 := hK.sub (tys' := [(gc 15, .boolean)]) [0] rfl
      refine W.widen (k := 0) (n := 0) (Nat.le_of_ble_eq_true rfl) (Nat.le_of_ble_eq_true rfl) ?_
      exact W.zret (v := 0) (ty := .boolean) hx hb hr rfl (fun t ht hW => ⟨⟨_, (a15, 0), rfl, ⟨(by rw [show mmB uM x = false by simp [mmB, hc1, bI_f hc4]]; rfl), (by rw [← hSP, s_M_skip]; try (rw [if_neg hc1]); try (rw [if_pos hc4]); all_goals rfl)⟩, by rw [ht]; exact hP9, va_K.moved hW.alike hK9, hD9⟩, hS.F ht⟩) hS.2.2 d_M_skip_20

set_option maxHeartbeats 4000000 in
set_option maxRecDepth 100000 in
theorem c_M_allow (l : Launch) (dC : Nat → ClassId) (dI : Nat → Nat → Nat) (m0 : Nat) (ga : Nat → Nat) (gc : Nat → ClassId) (uM : Nat → Int32) (cn : Nat) (sn : Nat) (cm : Nat) (us : Nat) (wt : Nat) (oc : Nat) (ou : Nat) (ow : Nat) (zb : Int32) (hz_zb : narrow .boolean (.int zb) = .int zb ∧ fits .boolean (.int zb) = true) (sz : Nat) : Met l y_M_allow (tbw y_M_allow b_M_allow 2 none) ({ frames := 0, cells := 0, slots := 0, locals := 0 }) (va_Pc [.ref m0, .int zb] (fun U => U.heap.size = sz ∧ va_P (dC, dI) classes [(m0, .inr (6, oM ga uM cn sn cm us wt oc ou ow))] U.heap ∧ va_K (dC, dI) classes [] U ∧ va_D (fun _ => True) [(m0, .inr (6, oM ga uM cn sn cm us wt oc ou ow))])) (va_Qv (fun (u9 : (Nat → Int32)) => match u9 with | uMn => ((uMn 3 = uM 3 ∧ uMn 4 = uM 4)) ∧ (uMn) = s_M_allow uM zb) (fun (u9 : (Nat → Int32)) t => match u9 with | uMn => va_P (dC, dI) classes [(m0, .inr (6, oM ga uMn cn sn cm us wt oc ou ow))] t.heap ∧ va_K (dC, dI) classes [] t ∧ va_D (va_A [(m0, .inr (6, oM ga uM cn sn cm us wt oc ou ow))] sz) [(m0, .inr (6, oM ga uMn cn sn cm us wt oc ou ow))]) (va_A [(m0, .inr (6, oM ga uM cn sn cm us wt oc ou ow))] sz)) 0 0 (va_A [(m0, .inr (6, oM ga uM cn sn cm us wt oc ou ow))] sz) := by
  refine Met.ofW (cc := b_M_allow) (maxL := 2) (ret := none) (by decide) rfl ?_
  intro p e s m args below meth c s₁ B hml hv
  obtain ⟨rfl, hsz, hP, hK, hD0⟩ := hv
  have hx := B.exec
  have hb := B.bytes
  have hr := B.returns
  have hts := atoms_spec (ws := (tbw y_M_allow b_M_allow 2 none)) B.pre
  have hw : ∀ z9 ∈ tb, z9.before ([.ref m0, .int zb] : List Value).toArray s = true := fun z9 h => hts z9 (List.mem_cons_of_mem _ h)
  have hown : s.vm.findClass "VotedTripleModel" = some m.cls := findClass_of_methodNamed B.named
  have hlocks := B.notSynchronized
  subst hsz
  replace hD := hD0.self (sz := s.heap.size)
  generalize hAe : va_A [(m0, .inr (6, oM ga uM cn sn cm us wt oc ou ow))] s.heap.size = A at hD ⊢
  have hA : ∀ q : Nat, s.heap.size ≤ q → A q := fun q h => by rw [← hAe]; exact Or.inr h
  have hS : va_S A s.heap s.heap [] := va_S.rf
  replace hl := lv_entry ([.ref m0, .int zb]) (n := 2) (Nat.le_of_ble_eq_true rfl)
  rw [lg_entry_eq]
  generalize (lg_sl ([.ref m0, .int zb]) ++ List.replicate (2 - (lg_sl ([.ref m0, .int zb])).length) Slot.unset).toArray = ls at hl ⊢
  replace hl : lv_has ls 2 [(0, .ref m0), (1, .int zb)] := hl
  generalize hSP : s_M_allow uM zb = SP
  refine lv_aload_n hx hb d_M_allow_0 rfl (lv_at hl 0 rfl) ?_
  refine lv_iconst (v := 0) hx hb d_M_allow_1 (by decide) ?_
  refine va_put (D := (dC, dI)) (ci := 6) (v := .int 0) (ty := .int) (C := "VotedTripleModel") (T := F_M) (N := 37) hx hb hw in_M ft_M tyok_M nm_M hown hK hP hD hS 0 rfl rfl 0 (by decide) (hw _ k_724) (fun _ h9 => h9) rfl (by decide +kernel) rfl rfl (Nat.le_of_ble_eq_true rfl) d_M_allow_2 (fun H locs hP hD hS => ?_)
  replace hP : va_P (dC, dI) classes [(m0, .inr (6, [.int 0, .int (nI cn), .ref (ga 2), .int (uM 3), .int (uM 4), .int (uM 5), .int (nI sn), .int (uM 7), .ref (ga 8), .ref (ga 9), .ref (ga 10), .ref (ga 11), .ref (ga 12), .ref (ga 13), .ref (ga 14), .ref (ga 15), .ref (ga 16), .ref (ga 17), .ref (ga 18), .ref (ga 19), .ref (ga 20), .ref (ga 21), .ref (ga 22), .ref (ga 23), .int (uM 24), .int (uM 25), .int (nI cm), .int (nI us), .ref (ga 28), .int (nI wt), .ref (ga 30), .ref (ga 31), .ref (ga 32), .int (nI oc), .int (nI ou), .int (nI ow), .ref (ga 36)]))] H := hP
  replace hD : va_D A [(m0, .inr (6, [.int 0, .int (nI cn), .ref (ga 2), .int (uM 3), .int (uM 4), .int (uM 5), .int (nI sn), .int (uM 7), .ref (ga 8), .ref (ga 9), .ref (ga 10), .ref (ga 11), .ref (ga 12), .ref (ga 13), .ref (ga 14), .ref (ga 15), .ref (ga 16), .ref (ga 17), .ref (ga 18), .ref (ga 19), .ref (ga 20), .ref (ga 21), .ref (ga 22), .ref (ga 23), .int (uM 24), .int (uM 25), .int (nI cm), .int (nI us), .ref (ga 28), .int (nI wt), .ref (ga 30), .ref (ga 31), .ref (ga 32), .int (nI oc), .int (nI ou), .int (nI ow), .ref (ga 36)]))] := hD
  refine lv_aload_n hx hb d_M_allow_5 rfl (lv_at hl 0 rfl) ?_
  refine lv_iload_n hx hb d_M_allow_6 rfl (lv_at hl 1 rfl) ?_
  refine va_put (D := (dC, dI)) (ci := 6) (v := .int zb) (ty := .boolean) (C := "VotedTripleModel") (T := F_M) (N := 37) hx hb hw in_M ft_M tyok_M nm_M hown hK hP hD hS 0 rfl rfl 5 (by decide) (hw _ k_729) (fun _ h9 => h9) rfl (by decide +kernel) hz_zb.1 hz_zb.2 (Nat.le_of_ble_eq_true rfl) d_M_allow_7 (fun H locs hP hD hS => ?_)
  replace hP : va_P (dC, dI) classes [(m0, .inr (6, [.int 0, .int (nI cn), .ref (ga 2), .int (uM 3), .int (uM 4), .int zb, .int (nI sn), .int (uM 7), .ref (ga 8), .ref (ga 9), .ref (ga 10), .ref (ga 11), .ref (ga 12), .ref (ga 13), .ref (ga 14), .ref (ga 15), .ref (ga 16), .ref (ga 17), .ref (ga 18), .ref (ga 19), .ref (ga 20), .ref (ga 21), .ref (ga 22), .ref (ga 23), .int (uM 24), .int (uM 25), .int (nI cm), .int (nI us), .ref (ga 28), .int (nI wt), .ref (ga 30), .ref (ga 31), .ref (ga 32), .int (nI oc), .int (nI ou), .int (nI ow), .ref (ga 36)]))] H := hP
  replace hD : va_D A [(m0, .inr (6, [.int 0, .int (nI cn), .ref (ga 2), .int (uM 3), .int (uM 4), .int zb, .int (nI sn), .int (uM 7), .ref (ga 8), .ref (ga 9), .ref (ga 10), .ref (ga 11), .ref (ga 12), .ref (ga 13), .ref (ga 14), .ref (ga 15), .ref (ga 16), .ref (ga 17), .ref (ga 18), .ref (ga 19), .ref (ga 20), .ref (ga 21), .ref (ga 22), .ref (ga 23), .int (uM 24), .int (uM 25), .int (nI cm), .int (nI us), .ref (ga 28), .int (nI wt), .ref (ga 30), .ref (ga 31), .ref (ga 32), .int (nI oc), .int (nI ou), .int (nI ow), .ref (ga 36)]))] := hD
  have hP9 := hP.sub (ws' := [(m0, .inr (6, oM ga (upc (upc uM 0 (0 : Int32)) 5 zb) cn sn cm us wt oc ou ow))]) [0] rfl
  have hD9 := hD.sub (ws' := [(m0, .inr (6, oM ga (upc (upc uM 0 (0 : Int32)) 5 zb) cn sn cm us wt oc ou ow))]) [0] (by decide) rfl
  have hK9 := hK.sub (tys' := []) [] rfl
  refine W.widen (k := 0) (n := 0) (Nat.le_of_ble_eq_true rfl) (Nat.le_of_ble_eq_true rfl) ?_
  exact W.vret hx hb hr (fun t ht hW => ⟨⟨(upc (upc uM 0 (0 : Int32)) 5 zb), rfl, ⟨⟨rfl, rfl⟩, (by rw [← hSP, s_M_allow]; all_goals rfl)⟩, by rw [ht]; exact hP9, va_K.moved hW.alike hK9, hD9⟩, hS.F ht⟩) hS.2.2 d_M_allow_10

set_option maxHeartbeats 4000000 in
set_option maxRecDepth 100000 in
theorem c_M_module (l : Launch) (dC : Nat → ClassId) (dI : Nat → Nat → Nat) (m0 : Nat) (ga : Nat → Nat) (gc : Nat → ClassId) (uM : Nat → Int32) (cn : Nat) (sn : Nat) (cm : Nat) (us : Nat) (wt : Nat) (oc : Nat) (ou : Nat) (ow : Nat) (a10 : Nat → Int32) (a11 : Nat → Int32) (a12 : Nat → Int32) (a13 : Nat → Int32) (a16 : Nat → Int32) (a17 : Nat → Int32) (x : Int32) (y : Int32) (sz : Nat) : Met l y_M_module (tbw y_M_module b_M_module 3 (some .int)) ({ frames := 1, cells := 0, slots := 0, locals := 20 }) (va_Pc [.ref m0, .int x, .int y] (fun U => U.heap.size = sz ∧ va_P (dC, dI) classes [(m0, .inr (6, oM ga uM cn sn cm us wt oc ou ow)), (ga 10, .inl (gc 10, 3, .inl a10)), (ga 11, .inl (gc 11, 3, .inl a11)), (ga 12, .inl (gc 12, 3, .inl a12)), (ga 13, .inl (gc 13, 3, .inl a13)), (ga 16, .inl (gc 16, 3, .inl a16)), (ga 17, .inl (gc 17, 3, .inl a17))] U.heap ∧ va_K (dC, dI) classes [(gc 10, .int), (gc 11, .int), (gc 12, .int), (gc 13, .int), (gc 16, .int), (gc 17, .int)] U ∧ va_D (fun _ => True) [(m0, .inr (6, oM ga uM cn sn cm us wt oc ou ow)), (ga 10, .inl (gc 10, 3, .inl a10)), (ga 11, .inl (gc 11, 3, .inl a11)), (ga 12, .inl (gc 12, 3, .inl a12)), (ga 13, .inl (gc 13, 3, .inl a13)), (ga 16, .inl (gc 16, 3, .inl a16)), (ga 17, .inl (gc 17, 3, .inl a17))])) (va_Qi (fun (r : Int32) (u9 : Int32) => match u9 with | y0 => (True) ∧ (r, y0) = s_M_module uM a10 a11 a12 a13 a16 a17 x y) (fun (u9 : Int32) t => match u9 with | y0 => va_P (dC, dI) classes [(m0, .inr (6, oM ga (upc uM 0 y0) cn sn cm us wt oc ou ow)), (ga 10, .inl (gc 10, 3, .inl a10)), (ga 11, .inl (gc 11, 3, .inl a11)), (ga 12, .inl (gc 12, 3, .inl a12)), (ga 13, .inl (gc 13, 3, .inl a13)), (ga 16, .inl (gc 16, 3, .inl a16)), (ga 17, .inl (gc 17, 3, .inl a17))] t.heap ∧ va_K (dC, dI) classes [(gc 10, .int), (gc 11, .int), (gc 12, .int), (gc 13, .int), (gc 16, .int), (gc 17, .int)] t ∧ va_D (va_A [(m0, .inr (6, oM ga uM cn sn cm us wt oc ou ow)), (ga 10, .inl (gc 10, 3, .inl a10)), (ga 11, .inl (gc 11, 3, .inl a11)), (ga 12, .inl (gc 12, 3, .inl a12)), (ga 13, .inl (gc 13, 3, .inl a13)), (ga 16, .inl (gc 16, 3, .inl a16)), (ga 17, .inl (gc 17, 3, .inl a17))] sz) [(m0, .inr (6, oM ga (upc uM 0 y0) cn sn cm us wt oc ou ow)), (ga 10, .inl (gc 10, 3, .inl a10)), (ga 11, .inl (gc 11, 3, .inl a11)), (ga 12, .inl (gc 12, 3, .inl a12)), (ga 13, .inl (gc 13, 3, .inl a13)), (ga 16, .inl (gc 16, 3, .inl a16)), (ga 17, .inl (gc 17, 3, .inl a17))]) (va_A [(m0, .inr (6, oM ga uM cn sn cm us wt oc ou ow)), (ga 10, .inl (gc 10, 3, .inl a10)), (ga 11, .inl (gc 11, 3, .inl a11)), (ga 12, .inl (gc 12, 3, .inl a12)), (ga 13, .inl (gc 13, 3, .inl a13)), (ga 16, .inl (gc 16, 3, .inl a16)), (ga 17, .inl (gc 17, 3, .inl a17))] sz)) 0 0 (va_A [(m0, .inr (6, oM ga uM cn sn cm us wt oc ou ow)), (ga 10, .inl (gc 10, 3, .inl a10)), (ga 11, .inl (gc 11, 3, .inl a11)), (ga 12, .inl (gc 12, 3, .inl a12)), (ga 13, .inl (gc 13, 3, .inl a13)), (ga 16, .inl (gc 16, 3, .inl a16)), (ga 17, .inl (gc 17, 3, .inl a17))] sz) := by
  refine Met.ofW (cc := b_M_module) (maxL := 3) (ret := (some .int)) (by decide) rfl ?_
  intro p e s m args below meth c s₁ B hml hv
  obtain ⟨rfl, hsz, hP, hK, hD0⟩ := hv
  have hx := B.exec
  have hb := B.bytes
  have hr := B.returns
  have hts := atoms_spec (ws := (tbw y_M_module b_M_module 3 (some .int))) B.pre
  have hw : ∀ z9 ∈ tb, z9.before ([.ref m0, .int x, .int y] : List Value).toArray s = true := fun z9 h => hts z9 (List.mem_cons_of_mem _ h)
  have hown : s.vm.findClass "VotedTripleModel" = some m.cls := findClass_of_methodNamed B.named
  have hlocks := B.notSynchronized
  subst hsz
  replace hD := hD0.self (sz := s.heap.size)
  generalize hAe : va_A [(m0, .inr (6, oM ga uM cn sn cm us wt oc ou ow)), (ga 10, .inl (gc 10, 3, .inl a10)), (ga 11, .inl (gc 11, 3, .inl a11)), (ga 12, .inl (gc 12, 3, .inl a12)), (ga 13, .inl (gc 13, 3, .inl a13)), (ga 16, .inl (gc 16, 3, .inl a16)), (ga 17, .inl (gc 17, 3, .inl a17))] s.heap.size = A at hD ⊢
  have hA : ∀ q : Nat, s.heap.size ≤ q → A q := fun q h => by rw [← hAe]; exact Or.inr h
  have hS : va_S A s.heap s.heap [] := va_S.rf
  replace hl := lv_entry ([.ref m0, .int x, .int y]) (n := 3) (Nat.le_of_ble_eq_true rfl)
  rw [lg_entry_eq]
  generalize (lg_sl ([.ref m0, .int x, .int y]) ++ List.replicate (3 - (lg_sl ([.ref m0, .int x, .int y])).length) Slot.unset).toArray = ls at hl ⊢
  replace hl : lv_has ls 3 [(0, .ref m0), (1, .int x), (2, .int y)] := hl
  generalize hSP : s_M_module uM a10 a11 a12 a13 a16 a17 x y = SP
  refine lv_aload_n hx hb d_M_module_0 rfl (lv_at hl 0 rfl) ?_
  refine lv_iconst (v := 0) hx hb d_M_module_1 (by decide) ?_
  refine va_put (D := (dC, dI)) (ci := 6) (v := .int 0) (ty := .int) (C := "VotedTripleModel") (T := F_M) (N := 37) hx hb hw in_M ft_M tyok_M nm_M hown hK hP hD hS 0 rfl rfl 0 (by decide) (hw _ k_724) (fun _ h9 => h9) rfl (by decide +kernel) rfl rfl (Nat.le_of_ble_eq_true rfl) d_M_module_2 (fun H locs hP hD hS => ?_)
  replace hP : va_P (dC, dI) classes [(m0, .inr (6, [.int 0, .int (nI cn), .ref (ga 2), .int (uM 3), .int (uM 4), .int (uM 5), .int (nI sn), .int (uM 7), .ref (ga 8), .ref (ga 9), .ref (ga 10), .ref (ga 11), .ref (ga 12), .ref (ga 13), .ref (ga 14), .ref (ga 15), .ref (ga 16), .ref (ga 17), .ref (ga 18), .ref (ga 19), .ref (ga 20), .ref (ga 21), .ref (ga 22), .ref (ga 23), .int (uM 24), .int (uM 25), .int (nI cm), .int (nI us), .ref (ga 28), .int (nI wt), .ref (ga 30), .ref (ga 31), .ref (ga 32), .int (nI oc), .int (nI ou), .int (nI ow), .ref (ga 36)])), (ga 10, .inl (gc 10, 3, .inl a10)), (ga 11, .inl (gc 11, 3, .inl a11)), (ga 12, .inl (gc 12, 3, .inl a12)), (ga 13, .inl (gc 13, 3, .inl a13)), (ga 16, .inl (gc 16, 3, .inl a16)), (ga 17, .inl (gc 17, 3, .inl a17))] H := hP
  replace hD : va_D A [(m0, .inr (6, [.int 0, .int (nI cn), .ref (ga 2), .int (uM 3), .int (uM 4), .int (uM 5), .int (nI sn), .int (uM 7), .ref (ga 8), .ref (ga 9), .ref (ga 10), .ref (ga 11), .ref (ga 12), .ref (ga 13), .ref (ga 14), .ref (ga 15), .ref (ga 16), .ref (ga 17), .ref (ga 18), .ref (ga 19), .ref (ga 20), .ref (ga 21), .ref (ga 22), .ref (ga 23), .int (uM 24), .int (uM 25), .int (nI cm), .int (nI us), .ref (ga 28), .int (nI wt), .ref (ga 30), .ref (ga 31), .ref (ga 32), .int (nI oc), .int (nI ou), .int (nI ow), .ref (ga 36)])), (ga 10, .inl (gc 10, 3, .inl a10)), (ga 11, .inl (gc 11, 3, .inl a11)), (ga 12, .inl (gc 12, 3, .inl a12)), (ga 13, .inl (gc 13, 3, .inl a13)), (ga 16, .inl (gc 16, 3, .inl a16)), (ga 17, .inl (gc 17, 3, .inl a17))] := hD
  refine lv_aload_n hx hb d_M_module_5 rfl (lv_at hl 0 rfl) ?_
  refine va_get (D := (dC, dI)) (ci := 6) (v := .int (uM 3)) (C := "VotedTripleModel") (T := F_M) (N := 37) hx hb hw in_M hown hK hP 0 rfl rfl 3 (by decide) (hw _ k_727) (fun _ h9 => h9) rfl d_M_module_6 ?_
  refine lv_if_eq (tgt := 28) hx hb d_M_module_9 rfl (fun hc1 => ?_) (fun hc1 => ?_)
  · --  (uM 3) = 0
    refine lv_iconst (v := (-1)) hx hb d_M_module_28 (by decide) ?_
    have hP9 := hP.sub (ws' := [(m0, .inr (6, oM ga (upc uM 0 0) cn sn cm us wt oc ou ow)), (ga 10, .inl (gc 10, 3, .inl a10)), (ga 11, .inl (gc 11, 3, .inl a11)), (ga 12, .inl (gc 12, 3, .inl a12)), (ga 13, .inl (gc 13, 3, .inl a13)), (ga 16, .inl (gc 16, 3, .inl a16)), (ga 17, .inl (gc 17, 3, .inl a17))]) [0, 1, 2, 3, 4, 5, 6] rfl
    have hD9 := hD.sub (ws' := [(m0, .inr (6, oM ga (upc uM 0 0) cn sn cm us wt oc ou ow)), (ga 10, .inl (gc 10, 3, .inl a10)), (ga 11, .inl (gc 11, 3, .inl a11)), (ga 12, .inl (gc 12, 3, .inl a12)), (ga 13, .inl (gc 13, 3, .inl a13)), (ga 16, .inl (gc 16, 3, .inl a16)), (ga 17, .inl (gc 17, 3, .inl a17))]) [0, 1, 2, 3, 4, 5, 6] (by decide) rfl
    have hK9 := hK.sub (tys' := [(gc 10, .int), (gc 11, .int), (gc 12, .int), (gc 13, .int), (gc 16, .int), (gc 17, .int)]) [0, 1, 2, 3, 4, 5] rfl
    refine W.widen (k := 0) (n := 0) (Nat.le_of_ble_eq_true rfl) (Nat.le_of_ble_eq_true rfl) ?_
    exact W.iret (v := (-1)) hx hb hr (fun t ht hW => ⟨⟨_, (0), rfl, ⟨trivial, (by rw [← hSP, s_M_module]; try (rw [if_pos hc1]); all_goals rfl)⟩, by rw [ht]; exact hP9, va_K.moved hW.alike hK9, hD9⟩, hS.F ht⟩) hS.2.2 d_M_module_29
  · --  ¬ (uM 3) = 0
    refine lv_iload_n hx hb d_M_module_12 rfl (lv_at hl 1 rfl) ?_
    refine vp_callSi (va_runS (As := [.int x]) (rest := []) ⟨hx, hb, hml, hown, hw⟩ (c_M_isModule l dC dI x) (va_cwS 1 hw (gdS (k_962) (k_960) (k_961) (k_8)) rfl rfl rfl (by decide +kernel) ⟨Nat.le_of_ble_eq_true rfl, Nat.le_of_ble_eq_true rfl⟩) ⟨fun _ _ _ _ q => q, fun _ _ _ => ⟨rfl, trivial⟩⟩ rfl rfl hl.1 rfl (lv_room (Nat.le_of_ble_eq_true rfl)) d_M_module_13 ⟨Nat.le_of_ble_eq_true rfl, Nat.le_of_ble_eq_true rfl⟩).run (fun r2 hr3 => ?_)
    subst hr3
    refine lv_if_eq (tgt := 28) hx hb d_M_module_16 rfl (fun hc4 => ?_) (fun hc4 => ?_)
    · --  (bI (in3 x)) = 0
      refine lv_iconst (v := (-1)) hx hb d_M_module_28 (by decide) ?_
      have hP9 := hP.sub (ws' := [(m0, .inr (6, oM ga (upc uM 0 0) cn sn cm us wt oc ou ow)), (ga 10, .inl (gc 10, 3, .inl a10)), (ga 11, .inl (gc 11, 3, .inl a11)), (ga 12, .inl (gc 12, 3, .inl a12)), (ga 13, .inl (gc 13, 3, .inl a13)), (ga 16, .inl (gc 16, 3, .inl a16)), (ga 17, .inl (gc 17, 3, .inl a17))]) [0, 1, 2, 3, 4, 5, 6] rfl
      have hD9 := hD.sub (ws' := [(m0, .inr (6, oM ga (upc uM 0 0) cn sn cm us wt oc ou ow)), (ga 10, .inl (gc 10, 3, .inl a10)), (ga 11, .inl (gc 11, 3, .inl a11)), (ga 12, .inl (gc 12, 3, .inl a12)), (ga 13, .inl (gc 13, 3, .inl a13)), (ga 16, .inl (gc 16, 3, .inl a16)), (ga 17, .inl (gc 17, 3, .inl a17))]) [0, 1, 2, 3, 4, 5, 6] (by decide) rfl
      have hK9 := hK.sub (tys' := [(gc 10, .int), (gc 11, .int), (gc 12, .int), (gc 13, .int), (gc 16, .int), (gc 17, .int)]) [0, 1, 2, 3, 4, 5] rfl
      refine W.widen (k := 0) (n := 0) (Nat.le_of_ble_eq_true rfl) (Nat.le_of_ble_eq_true rfl) ?_
      exact W.iret (v := (-1)) hx hb hr (fun t ht hW => ⟨⟨_, (0), rfl, ⟨trivial, (by rw [← hSP, s_M_module]; try (rw [if_neg hc1]); try (rw [if_pos hc4]); all_goals rfl)⟩, by rw [ht]; exact hP9, va_K.moved hW.alike hK9, hD9⟩, hS.F ht⟩) hS.2.2 d_M_module_29
    · --  ¬ (bI (in3 x)) = 0
      refine lv_iload_n hx hb d_M_module_19 rfl (lv_at hl 2 rfl) ?_
      refine lv_if_lt (tgt := 28) hx hb d_M_module_20 rfl (fun hc5 => ?_) (fun hc5 => ?_)
      · --  y < 0
        refine lv_iconst (v := (-1)) hx hb d_M_module_28 (by decide) ?_
        have hP9 := hP.sub (ws' := [(m0, .inr (6, oM ga (upc uM 0 0) cn sn cm us wt oc ou ow)), (ga 10, .inl (gc 10, 3, .inl a10)), (ga 11, .inl (gc 11, 3, .inl a11)), (ga 12, .inl (gc 12, 3, .inl a12)), (ga 13, .inl (gc 13, 3, .inl a13)), (ga 16, .inl (gc 16, 3, .inl a16)), (ga 17, .inl (gc 17, 3, .inl a17))]) [0, 1, 2, 3, 4, 5, 6] rfl
        have hD9 := hD.sub (ws' := [(m0, .inr (6, oM ga (upc uM 0 0) cn sn cm us wt oc ou ow)), (ga 10, .inl (gc 10, 3, .inl a10)), (ga 11, .inl (gc 11, 3, .inl a11)), (ga 12, .inl (gc 12, 3, .inl a12)), (ga 13, .inl (gc 13, 3, .inl a13)), (ga 16, .inl (gc 16, 3, .inl a16)), (ga 17, .inl (gc 17, 3, .inl a17))]) [0, 1, 2, 3, 4, 5, 6] (by decide) rfl
        have hK9 := hK.sub (tys' := [(gc 10, .int), (gc 11, .int), (gc 12, .int), (gc 13, .int), (gc 16, .int), (gc 17, .int)]) [0, 1, 2, 3, 4, 5] rfl
        refine W.widen (k := 0) (n := 0) (Nat.le_of_ble_eq_true rfl) (Nat.le_of_ble_eq_true rfl) ?_
        exact W.iret (v := (-1)) hx hb hr (fun t ht hW => ⟨⟨_, (0), rfl, ⟨trivial, (by rw [← hSP, s_M_module]; try (rw [if_neg hc1]); try (rw [if_neg hc4]); try (rw [if_pos hc5]); all_goals rfl)⟩, by rw [ht]; exact hP9, va_K.moved hW.alike hK9, hD9⟩, hS.F ht⟩) hS.2.2 d_M_module_29
      · --  ¬ y < 0
        refine lv_iload_n hx hb d_M_module_23 rfl (lv_at hl 2 rfl) ?_
        refine lv_iconst (v := 5) hx hb d_M_module_24 (by decide) ?_
        refine lv_icmp_le (tgt := 30) hx hb d_M_module_25 rfl (fun hc6 => ?_) (fun hc6 => ?_)
        · --  y ≤ 5
          refine lv_iload_n hx hb d_M_module_30 rfl (lv_at hl 2 rfl) ?_
          refine lv_if_ne (tgt := 43) hx hb d_M_module_31 rfl (fun hc7 => ?_) (fun hc7 => ?_)
          · --  ¬ y = 0
            refine lv_iload_n hx hb d_M_module_43 rfl (lv_at hl 2 rfl) ?_
            refine lv_iconst (v := 1) hx hb d_M_module_44 (by decide) ?_
            refine lv_icmp_ne (tgt := 57) hx hb d_M_module_45 rfl (fun hc8 => ?_) (fun hc8 => ?_)
            · --  ¬ y = 1
              refine lv_iload_n hx hb d_M_module_57 rfl (lv_at hl 2 rfl) ?_
              refine lv_iconst (v := 2) hx hb d_M_module_58 (by decide) ?_
              refine lv_icmp_ne (tgt := 71) hx hb d_M_module_59 rfl (fun hc9 => ?_) (fun hc9 => ?_)
              · --  ¬ y = 2
                refine lv_iload_n hx hb d_M_module_71 rfl (lv_at hl 2 rfl) ?_
                refine lv_iconst (v := 3) hx hb d_M_module_72 (by decide) ?_
                refine lv_icmp_ne (tgt := 85) hx hb d_M_module_73 rfl (fun hc10 => ?_) (fun hc10 => ?_)
                · --  ¬ y = 3
                  refine lv_iload_n hx hb d_M_module_85 rfl (lv_at hl 2 rfl) ?_
                  refine lv_iconst (v := 4) hx hb d_M_module_86 (by decide) ?_
                  refine lv_icmp_ne (tgt := 99) hx hb d_M_module_87 rfl (fun hc11 => ?_) (fun hc11 => ?_)
                  · --  ¬ y = 4
                    refine lv_aload_n hx hb d_M_module_99 rfl (lv_at hl 0 rfl) ?_
                    refine va_get (D := (dC, dI)) (ci := 6) (v := .ref (ga 17)) (C := "VotedTripleModel") (T := F_M) (N := 37) hx hb hw in_M hown hK hP 0 rfl rfl 17 (by decide) (hw _ k_741) (fun _ h9 => h9) rfl d_M_module_100 ?_
                    refine lv_iload_n hx hb d_M_module_103 rfl (lv_at hl 1 rfl) ?_
                    refine va_iald hx hb hK hP 6 5 rfl rfl (in3_in hc4) d_M_module_104 ?_
                    have hP9 := hP.sub (ws' := [(m0, .inr (6, oM ga (upc uM 0 0) cn sn cm us wt oc ou ow)), (ga 10, .inl (gc 10, 3, .inl a10)), (ga 11, .inl (gc 11, 3, .inl a11)), (ga 12, .inl (gc 12, 3, .inl a12)), (ga 13, .inl (gc 13, 3, .inl a13)), (ga 16, .inl (gc 16, 3, .inl a16)), (ga 17, .inl (gc 17, 3, .inl a17))]) [0, 1, 2, 3, 4, 5, 6] rfl
                    have hD9 := hD.sub (ws' := [(m0, .inr (6, oM ga (upc uM 0 0) cn sn cm us wt oc ou ow)), (ga 10, .inl (gc 10, 3, .inl a10)), (ga 11, .inl (gc 11, 3, .inl a11)), (ga 12, .inl (gc 12, 3, .inl a12)), (ga 13, .inl (gc 13, 3, .inl a13)), (ga 16, .inl (gc 16, 3, .inl a16)), (ga 17, .inl (gc 17, 3, .inl a17))]) [0, 1, 2, 3, 4, 5, 6] (by decide) rfl
                    have hK9 := hK.sub (tys' := [(gc 10, .int), (gc 11, .int), (gc 12, .int), (gc 13, .int), (gc 16, .int), (gc 17, .int)]) [0, 1, 2, 3, 4, 5] rfl
                    refine W.widen (k := 0) (n := 0) (Nat.le_of_ble_eq_true rfl) (Nat.le_of_ble_eq_true rfl) ?_
                    exact W.iret (v := (a17 (Int32.toNatClampNeg x))) hx hb hr (fun t ht hW => ⟨⟨_, (0), rfl, ⟨trivial, (by rw [← hSP, s_M_module]; try (rw [if_neg hc1]); try (rw [if_neg hc4]); try (rw [if_neg hc5]); try (rw [if_pos hc6]); try (rw [if_neg hc7]); try (rw [if_neg hc8]); try (rw [if_neg hc9]); try (rw [if_neg hc10]); try (rw [if_neg hc11]); all_goals rfl)⟩, by rw [ht]; exact hP9, va_K.moved hW.alike hK9, hD9⟩, hS.F ht⟩) hS.2.2 d_M_module_105
                  · --  y = 4
                    refine lv_aload_n hx hb d_M_module_90 rfl (lv_at hl 0 rfl) ?_
                    refine va_get (D := (dC, dI)) (ci := 6) (v := .ref (ga 16)) (C := "VotedTripleModel") (T := F_M) (N := 37) hx hb hw in_M hown hK hP 0 rfl rfl 16 (by decide) (hw _ k_740) (fun _ h9 => h9) rfl d_M_module_91 ?_
                    refine lv_iload_n hx hb d_M_module_94 rfl (lv_at hl 1 rfl) ?_
                    refine va_iald hx hb hK hP 5 4 rfl rfl (in3_in hc4) d_M_module_95 ?_
                    refine lv_goto (tgt := 105) hx hb d_M_module_96 rfl ?_
                    have hP9 := hP.sub (ws' := [(m0, .inr (6, oM ga (upc uM 0 0) cn sn cm us wt oc ou ow)), (ga 10, .inl (gc 10, 3, .inl a10)), (ga 11, .inl (gc 11, 3, .inl a11)), (ga 12, .inl (gc 12, 3, .inl a12)), (ga 13, .inl (gc 13, 3, .inl a13)), (ga 16, .inl (gc 16, 3, .inl a16)), (ga 17, .inl (gc 17, 3, .inl a17))]) [0, 1, 2, 3, 4, 5, 6] rfl
                    have hD9 := hD.sub (ws' := [(m0, .inr (6, oM ga (upc uM 0 0) cn sn cm us wt oc ou ow)), (ga 10, .inl (gc 10, 3, .inl a10)), (ga 11, .inl (gc 11, 3, .inl a11)), (ga 12, .inl (gc 12, 3, .inl a12)), (ga 13, .inl (gc 13, 3, .inl a13)), (ga 16, .inl (gc 16, 3, .inl a16)), (ga 17, .inl (gc 17, 3, .inl a17))]) [0, 1, 2, 3, 4, 5, 6] (by decide) rfl
                    have hK9 := hK.sub (tys' := [(gc 10, .int), (gc 11, .int), (gc 12, .int), (gc 13, .int), (gc 16, .int), (gc 17, .int)]) [0, 1, 2, 3, 4, 5] rfl
                    refine W.widen (k := 0) (n := 0) (Nat.le_of_ble_eq_true rfl) (Nat.le_of_ble_eq_true rfl) ?_
                    exact W.iret (v := (a16 (Int32.toNatClampNeg x))) hx hb hr (fun t ht hW => ⟨⟨_, (0), rfl, ⟨trivial, (by rw [← hSP, s_M_module]; try (rw [if_neg hc1]); try (rw [if_neg hc4]); try (rw [if_neg hc5]); try (rw [if_pos hc6]); try (rw [if_neg hc7]); try (rw [if_neg hc8]); try (rw [if_neg hc9]); try (rw [if_neg hc10]); try (rw [if_pos hc11]); all_goals rfl)⟩, by rw [ht]; exact hP9, va_K.moved hW.alike hK9, hD9⟩, hS.F ht⟩) hS.2.2 d_M_module_105
                · --  y = 3
                  refine lv_aload_n hx hb d_M_module_76 rfl (lv_at hl 0 rfl) ?_
                  refine va_get (D := (dC, dI)) (ci := 6) (v := .ref (ga 10)) (C := "VotedTripleModel") (T := F_M) (N := 37) hx hb hw in_M hown hK hP 0 rfl rfl 10 (by decide) (hw _ k_734) (fun _ h9 => h9) rfl d_M_module_77 ?_
                  refine lv_iload_n hx hb d_M_module_80 rfl (lv_at hl 1 rfl) ?_
                  refine va_iald hx hb hK hP 1 0 rfl rfl (in3_in hc4) d_M_module_81 ?_
                  refine lv_goto (tgt := 105) hx hb d_M_module_82 rfl ?_
                  have hP9 := hP.sub (ws' := [(m0, .inr (6, oM ga (upc uM 0 0) cn sn cm us wt oc ou ow)), (ga 10, .inl (gc 10, 3, .inl a10)), (ga 11, .inl (gc 11, 3, .inl a11)), (ga 12, .inl (gc 12, 3, .inl a12)), (ga 13, .inl (gc 13, 3, .inl a13)), (ga 16, .inl (gc 16, 3, .inl a16)), (ga 17, .inl (gc 17, 3, .inl a17))]) [0, 1, 2, 3, 4, 5, 6] rfl
                  have hD9 := hD.sub (ws' := [(m0, .inr (6, oM ga (upc uM 0 0) cn sn cm us wt oc ou ow)), (ga 10, .inl (gc 10, 3, .inl a10)), (ga 11, .inl (gc 11, 3, .inl a11)), (ga 12, .inl (gc 12, 3, .inl a12)), (ga 13, .inl (gc 13, 3, .inl a13)), (ga 16, .inl (gc 16, 3, .inl a16)), (ga 17, .inl (gc 17, 3, .inl a17))]) [0, 1, 2, 3, 4, 5, 6] (by decide) rfl
                  have hK9 := hK.sub (tys' := [(gc 10, .int), (gc 11, .int), (gc 12, .int), (gc 13, .int), (gc 16, .int), (gc 17, .int)]) [0, 1, 2, 3, 4, 5] rfl
                  refine W.widen (k := 0) (n := 0) (Nat.le_of_ble_eq_true rfl) (Nat.le_of_ble_eq_true rfl) ?_
                  exact W.iret (v := (a10 (Int32.toNatClampNeg x))) hx hb hr (fun t ht hW => ⟨⟨_, (0), rfl, ⟨trivial, (by rw [← hSP, s_M_module]; try (rw [if_neg hc1]); try (rw [if_neg hc4]); try (rw [if_neg hc5]); try (rw [if_pos hc6]); try (rw [if_neg hc7]); try (rw [if_neg hc8]); try (rw [if_neg hc9]); try (rw [if_pos hc10]); all_goals rfl)⟩, by rw [ht]; exact hP9, va_K.moved hW.alike hK9, hD9⟩, hS.F ht⟩) hS.2.2 d_M_module_105
              · --  y = 2
                refine lv_aload_n hx hb d_M_module_62 rfl (lv_at hl 0 rfl) ?_
                refine va_get (D := (dC, dI)) (ci := 6) (v := .ref (ga 13)) (C := "VotedTripleModel") (T := F_M) (N := 37) hx hb hw in_M hown hK hP 0 rfl rfl 13 (by decide) (hw _ k_737) (fun _ h9 => h9) rfl d_M_module_63 ?_
                refine lv_iload_n hx hb d_M_module_66 rfl (lv_at hl 1 rfl) ?_
                refine va_iald hx hb hK hP 4 3 rfl rfl (in3_in hc4) d_M_module_67 ?_
                refine lv_goto (tgt := 105) hx hb d_M_module_68 rfl ?_
                have hP9 := hP.sub (ws' := [(m0, .inr (6, oM ga (upc uM 0 0) cn sn cm us wt oc ou ow)), (ga 10, .inl (gc 10, 3, .inl a10)), (ga 11, .inl (gc 11, 3, .inl a11)), (ga 12, .inl (gc 12, 3, .inl a12)), (ga 13, .inl (gc 13, 3, .inl a13)), (ga 16, .inl (gc 16, 3, .inl a16)), (ga 17, .inl (gc 17, 3, .inl a17))]) [0, 1, 2, 3, 4, 5, 6] rfl
                have hD9 := hD.sub (ws' := [(m0, .inr (6, oM ga (upc uM 0 0) cn sn cm us wt oc ou ow)), (ga 10, .inl (gc 10, 3, .inl a10)), (ga 11, .inl (gc 11, 3, .inl a11)), (ga 12, .inl (gc 12, 3, .inl a12)), (ga 13, .inl (gc 13, 3, .inl a13)), (ga 16, .inl (gc 16, 3, .inl a16)), (ga 17, .inl (gc 17, 3, .inl a17))]) [0, 1, 2, 3, 4, 5, 6] (by decide) rfl
                have hK9 := hK.sub (tys' := [(gc 10, .int), (gc 11, .int), (gc 12, .int), (gc 13, .int), (gc 16, .int), (gc 17, .int)]) [0, 1, 2, 3, 4, 5] rfl
                refine W.widen (k := 0) (n := 0) (Nat.le_of_ble_eq_true rfl) (Nat.le_of_ble_eq_true rfl) ?_
                exact W.iret (v := (a13 (Int32.toNatClampNeg x))) hx hb hr (fun t ht hW => ⟨⟨_, (0), rfl, ⟨trivial, (by rw [← hSP, s_M_module]; try (rw [if_neg hc1]); try (rw [if_neg hc4]); try (rw [if_neg hc5]); try (rw [if_pos hc6]); try (rw [if_neg hc7]); try (rw [if_neg hc8]); try (rw [if_pos hc9]); all_goals rfl)⟩, by rw [ht]; exact hP9, va_K.moved hW.alike hK9, hD9⟩, hS.F ht⟩) hS.2.2 d_M_module_105
            · --  y = 1
              refine lv_aload_n hx hb d_M_module_48 rfl (lv_at hl 0 rfl) ?_
              refine va_get (D := (dC, dI)) (ci := 6) (v := .ref (ga 12)) (C := "VotedTripleModel") (T := F_M) (N := 37) hx hb hw in_M hown hK hP 0 rfl rfl 12 (by decide) (hw _ k_736) (fun _ h9 => h9) rfl d_M_module_49 ?_
              refine lv_iload_n hx hb d_M_module_52 rfl (lv_at hl 1 rfl) ?_
              refine va_iald hx hb hK hP 3 2 rfl rfl (in3_in hc4) d_M_module_53 ?_
              refine lv_goto (tgt := 105) hx hb d_M_module_54 rfl ?_
              have hP9 := hP.sub (ws' := [(m0, .inr (6, oM ga (upc uM 0 0) cn sn cm us wt oc ou ow)), (ga 10, .inl (gc 10, 3, .inl a10)), (ga 11, .inl (gc 11, 3, .inl a11)), (ga 12, .inl (gc 12, 3, .inl a12)), (ga 13, .inl (gc 13, 3, .inl a13)), (ga 16, .inl (gc 16, 3, .inl a16)), (ga 17, .inl (gc 17, 3, .inl a17))]) [0, 1, 2, 3, 4, 5, 6] rfl
              have hD9 := hD.sub (ws' := [(m0, .inr (6, oM ga (upc uM 0 0) cn sn cm us wt oc ou ow)), (ga 10, .inl (gc 10, 3, .inl a10)), (ga 11, .inl (gc 11, 3, .inl a11)), (ga 12, .inl (gc 12, 3, .inl a12)), (ga 13, .inl (gc 13, 3, .inl a13)), (ga 16, .inl (gc 16, 3, .inl a16)), (ga 17, .inl (gc 17, 3, .inl a17))]) [0, 1, 2, 3, 4, 5, 6] (by decide) rfl
              have hK9 := hK.sub (tys' := [(gc 10, .int), (gc 11, .int), (gc 12, .int), (gc 13, .int), (gc 16, .int), (gc 17, .int)]) [0, 1, 2, 3, 4, 5] rfl
              refine W.widen (k := 0) (n := 0) (Nat.le_of_ble_eq_true rfl) (Nat.le_of_ble_eq_true rfl) ?_
              exact W.iret (v := (a12 (Int32.toNatClampNeg x))) hx hb hr (fun t ht hW => ⟨⟨_, (0), rfl, ⟨trivial, (by rw [← hSP, s_M_module]; try (rw [if_neg hc1]); try (rw [if_neg hc4]); try (rw [if_neg hc5]); try (rw [if_pos hc6]); try (rw [if_neg hc7]); try (rw [if_pos hc8]); all_goals rfl)⟩, by rw [ht]; exact hP9, va_K.moved hW.alike hK9, hD9⟩, hS.F ht⟩) hS.2.2 d_M_module_105
          · --  y = 0
            refine lv_aload_n hx hb d_M_module_34 rfl (lv_at hl 0 rfl) ?_
            refine va_get (D := (dC, dI)) (ci := 6) (v := .ref (ga 11)) (C := "VotedTripleModel") (T := F_M) (N := 37) hx hb hw in_M hown hK hP 0 rfl rfl 11 (by decide) (hw _ k_735) (fun _ h9 => h9) rfl d_M_module_35 ?_
            refine lv_iload_n hx hb d_M_module_38 rfl (lv_at hl 1 rfl) ?_
            refine va_iald hx hb hK hP 2 1 rfl rfl (in3_in hc4) d_M_module_39 ?_
            refine lv_goto (tgt := 105) hx hb d_M_module_40 rfl ?_
            have hP9 := hP.sub (ws' := [(m0, .inr (6, oM ga (upc uM 0 0) cn sn cm us wt oc ou ow)), (ga 10, .inl (gc 10, 3, .inl a10)), (ga 11, .inl (gc 11, 3, .inl a11)), (ga 12, .inl (gc 12, 3, .inl a12)), (ga 13, .inl (gc 13, 3, .inl a13)), (ga 16, .inl (gc 16, 3, .inl a16)), (ga 17, .inl (gc 17, 3, .inl a17))]) [0, 1, 2, 3, 4, 5, 6] rfl
            have hD9 := hD.sub (ws' := [(m0, .inr (6, oM ga (upc uM 0 0) cn sn cm us wt oc ou ow)), (ga 10, .inl (gc 10, 3, .inl a10)), (ga 11, .inl (gc 11, 3, .inl a11)), (ga 12, .inl (gc 12, 3, .inl a12)), (ga 13, .inl (gc 13, 3, .inl a13)), (ga 16, .inl (gc 16, 3, .inl a16)), (ga 17, .inl (gc 17, 3, .inl a17))]) [0, 1, 2, 3, 4, 5, 6] (by decide) rfl
            have hK9 := hK.sub (tys' := [(gc 10, .int), (gc 11, .int), (gc 12, .int), (gc 13, .int), (gc 16, .int), (gc 17, .int)]) [0, 1, 2, 3, 4, 5] rfl
            refine W.widen (k := 0) (n := 0) (Nat.le_of_ble_eq_true rfl) (Nat.le_of_ble_eq_true rfl) ?_
            exact W.iret (v := (a11 (Int32.toNatClampNeg x))) hx hb hr (fun t ht hW => ⟨⟨_, (0), rfl, ⟨trivial, (by rw [← hSP, s_M_module]; try (rw [if_neg hc1]); try (rw [if_neg hc4]); try (rw [if_neg hc5]); try (rw [if_pos hc6]); try (rw [if_pos hc7]); all_goals rfl)⟩, by rw [ht]; exact hP9, va_K.moved hW.alike hK9, hD9⟩, hS.F ht⟩) hS.2.2 d_M_module_105
        · --  ¬ y ≤ 5
          refine lv_iconst (v := (-1)) hx hb d_M_module_28 (by decide) ?_
          have hP9 := hP.sub (ws' := [(m0, .inr (6, oM ga (upc uM 0 0) cn sn cm us wt oc ou ow)), (ga 10, .inl (gc 10, 3, .inl a10)), (ga 11, .inl (gc 11, 3, .inl a11)), (ga 12, .inl (gc 12, 3, .inl a12)), (ga 13, .inl (gc 13, 3, .inl a13)), (ga 16, .inl (gc 16, 3, .inl a16)), (ga 17, .inl (gc 17, 3, .inl a17))]) [0, 1, 2, 3, 4, 5, 6] rfl
          have hD9 := hD.sub (ws' := [(m0, .inr (6, oM ga (upc uM 0 0) cn sn cm us wt oc ou ow)), (ga 10, .inl (gc 10, 3, .inl a10)), (ga 11, .inl (gc 11, 3, .inl a11)), (ga 12, .inl (gc 12, 3, .inl a12)), (ga 13, .inl (gc 13, 3, .inl a13)), (ga 16, .inl (gc 16, 3, .inl a16)), (ga 17, .inl (gc 17, 3, .inl a17))]) [0, 1, 2, 3, 4, 5, 6] (by decide) rfl
          have hK9 := hK.sub (tys' := [(gc 10, .int), (gc 11, .int), (gc 12, .int), (gc 13, .int), (gc 16, .int), (gc 17, .int)]) [0, 1, 2, 3, 4, 5] rfl
          refine W.widen (k := 0) (n := 0) (Nat.le_of_ble_eq_true rfl) (Nat.le_of_ble_eq_true rfl) ?_
          exact W.iret (v := (-1)) hx hb hr (fun t ht hW => ⟨⟨_, (0), rfl, ⟨trivial, (by rw [← hSP, s_M_module]; try (rw [if_neg hc1]); try (rw [if_neg hc4]); try (rw [if_neg hc5]); try (rw [if_neg hc6]); all_goals rfl)⟩, by rw [ht]; exact hP9, va_K.moved hW.alike hK9, hD9⟩, hS.F ht⟩) hS.2.2 d_M_module_29

set_option maxHeartbeats 4000000 in
set_option maxRecDepth 100000 in
theorem c_M_register (l : Launch) (dC : Nat → ClassId) (dI : Nat → Nat → Nat) (m0 : Nat) (ga : Nat → Nat) (gc : Nat → ClassId) (uM : Nat → Int32) (cn : Nat) (sn : Nat) (cm : Nat) (us : Nat) (wt : Nat) (oc : Nat) (ou : Nat) (ow : Nat) (a8 : Nat → Int32) (x : Int32) (y : Int32) (sz : Nat) : Met l y_M_register (tbw y_M_register b_M_register 3 (some .int)) ({ frames := 1, cells := 0, slots := 0, locals := 20 }) (va_Pc [.ref m0, .int x, .int y] (fun U => U.heap.size = sz ∧ va_P (dC, dI) classes [(m0, .inr (6, oM ga uM cn sn cm us wt oc ou ow)), (ga 8, .inl (gc 8, 24, .inl a8))] U.heap ∧ va_K (dC, dI) classes [(gc 8, .int)] U ∧ va_D (fun _ => True) [(m0, .inr (6, oM ga uM cn sn cm us wt oc ou ow)), (ga 8, .inl (gc 8, 24, .inl a8))])) (va_Qi (fun (r : Int32) (u9 : Int32) => match u9 with | y0 => (True) ∧ (r, y0) = s_M_register uM a8 x y) (fun (u9 : Int32) t => match u9 with | y0 => va_P (dC, dI) classes [(m0, .inr (6, oM ga (upc uM 0 y0) cn sn cm us wt oc ou ow)), (ga 8, .inl (gc 8, 24, .inl a8))] t.heap ∧ va_K (dC, dI) classes [(gc 8, .int)] t ∧ va_D (va_A [(m0, .inr (6, oM ga uM cn sn cm us wt oc ou ow)), (ga 8, .inl (gc 8, 24, .inl a8))] sz) [(m0, .inr (6, oM ga (upc uM 0 y0) cn sn cm us wt oc ou ow)), (ga 8, .inl (gc 8, 24, .inl a8))]) (va_A [(m0, .inr (6, oM ga uM cn sn cm us wt oc ou ow)), (ga 8, .inl (gc 8, 24, .inl a8))] sz)) 0 0 (va_A [(m0, .inr (6, oM ga uM cn sn cm us wt oc ou ow)), (ga 8, .inl (gc 8, 24, .inl a8))] sz) := by
  refine Met.ofW (cc := b_M_register) (maxL := 3) (ret := (some .int)) (by decide) rfl ?_
  intro p e s m args below meth c s₁ B hml hv
  obtain ⟨rfl, hsz, hP, hK, hD0⟩ := hv
  have hx := B.exec
  have hb := B.bytes
  have hr := B.returns
  have hts := atoms_spec (ws := (tbw y_M_register b_M_register 3 (some .int))) B.pre
  have hw : ∀ z9 ∈ tb, z9.before ([.ref m0, .int x, .int y] : List Value).toArray s = true := fun z9 h => hts z9 (List.mem_cons_of_mem _ h)
  have hown : s.vm.findClass "VotedTripleModel" = some m.cls := findClass_of_methodNamed B.named
  have hlocks := B.notSynchronized
  subst hsz
  replace hD := hD0.self (sz := s.heap.size)
  generalize hAe : va_A [(m0, .inr (6, oM ga uM cn sn cm us wt oc ou ow)), (ga 8, .inl (gc 8, 24, .inl a8))] s.heap.size = A at hD ⊢
  have hA : ∀ q : Nat, s.heap.size ≤ q → A q := fun q h => by rw [← hAe]; exact Or.inr h
  have hS : va_S A s.heap s.heap [] := va_S.rf
  replace hl := lv_entry ([.ref m0, .int x, .int y]) (n := 3) (Nat.le_of_ble_eq_true rfl)
  rw [lg_entry_eq]
  generalize (lg_sl ([.ref m0, .int x, .int y]) ++ List.replicate (3 - (lg_sl ([.ref m0, .int x, .int y])).length) Slot.unset).toArray = ls at hl ⊢
  replace hl : lv_has ls 3 [(0, .ref m0), (1, .int x), (2, .int y)] := hl
  generalize hSP : s_M_register uM a8 x y = SP
  refine lv_aload_n hx hb d_M_register_0 rfl (lv_at hl 0 rfl) ?_
  refine lv_iconst (v := 0) hx hb d_M_register_1 (by decide) ?_
  refine va_put (D := (dC, dI)) (ci := 6) (v := .int 0) (ty := .int) (C := "VotedTripleModel") (T := F_M) (N := 37) hx hb hw in_M ft_M tyok_M nm_M hown hK hP hD hS 0 rfl rfl 0 (by decide) (hw _ k_724) (fun _ h9 => h9) rfl (by decide +kernel) rfl rfl (Nat.le_of_ble_eq_true rfl) d_M_register_2 (fun H locs hP hD hS => ?_)
  replace hP : va_P (dC, dI) classes [(m0, .inr (6, [.int 0, .int (nI cn), .ref (ga 2), .int (uM 3), .int (uM 4), .int (uM 5), .int (nI sn), .int (uM 7), .ref (ga 8), .ref (ga 9), .ref (ga 10), .ref (ga 11), .ref (ga 12), .ref (ga 13), .ref (ga 14), .ref (ga 15), .ref (ga 16), .ref (ga 17), .ref (ga 18), .ref (ga 19), .ref (ga 20), .ref (ga 21), .ref (ga 22), .ref (ga 23), .int (uM 24), .int (uM 25), .int (nI cm), .int (nI us), .ref (ga 28), .int (nI wt), .ref (ga 30), .ref (ga 31), .ref (ga 32), .int (nI oc), .int (nI ou), .int (nI ow), .ref (ga 36)])), (ga 8, .inl (gc 8, 24, .inl a8))] H := hP
  replace hD : va_D A [(m0, .inr (6, [.int 0, .int (nI cn), .ref (ga 2), .int (uM 3), .int (uM 4), .int (uM 5), .int (nI sn), .int (uM 7), .ref (ga 8), .ref (ga 9), .ref (ga 10), .ref (ga 11), .ref (ga 12), .ref (ga 13), .ref (ga 14), .ref (ga 15), .ref (ga 16), .ref (ga 17), .ref (ga 18), .ref (ga 19), .ref (ga 20), .ref (ga 21), .ref (ga 22), .ref (ga 23), .int (uM 24), .int (uM 25), .int (nI cm), .int (nI us), .ref (ga 28), .int (nI wt), .ref (ga 30), .ref (ga 31), .ref (ga 32), .int (nI oc), .int (nI ou), .int (nI ow), .ref (ga 36)])), (ga 8, .inl (gc 8, 24, .inl a8))] := hD
  refine lv_aload_n hx hb d_M_register_5 rfl (lv_at hl 0 rfl) ?_
  refine va_get (D := (dC, dI)) (ci := 6) (v := .int (uM 3)) (C := "VotedTripleModel") (T := F_M) (N := 37) hx hb hw in_M hown hK hP 0 rfl rfl 3 (by decide) (hw _ k_727) (fun _ h9 => h9) rfl d_M_register_6 ?_
  refine lv_if_eq (tgt := 29) hx hb d_M_register_9 rfl (fun hc1 => ?_) (fun hc1 => ?_)
  · --  (uM 3) = 0
    refine lv_iconst (v := (-1)) hx hb d_M_register_29 (by decide) ?_
    refine lv_goto (tgt := 44) hx hb d_M_register_30 rfl ?_
    have hP9 := hP.sub (ws' := [(m0, .inr (6, oM ga (upc uM 0 0) cn sn cm us wt oc ou ow)), (ga 8, .inl (gc 8, 24, .inl a8))]) [0, 1] rfl
    have hD9 := hD.sub (ws' := [(m0, .inr (6, oM ga (upc uM 0 0) cn sn cm us wt oc ou ow)), (ga 8, .inl (gc 8, 24, .inl a8))]) [0, 1] (by decide) rfl
    have hK9 := hK.sub (tys' := [(gc 8, .int)]) [0] rfl
    refine W.widen (k := 0) (n := 0) (Nat.le_of_ble_eq_true rfl) (Nat.le_of_ble_eq_true rfl) ?_
    exact W.iret (v := (-1)) hx hb hr (fun t ht hW => ⟨⟨_, (0), rfl, ⟨trivial, (by rw [← hSP, s_M_register]; try (rw [if_pos hc1]); all_goals rfl)⟩, by rw [ht]; exact hP9, va_K.moved hW.alike hK9, hD9⟩, hS.F ht⟩) hS.2.2 d_M_register_44
  · --  ¬ (uM 3) = 0
    refine lv_iload_n hx hb d_M_register_12 rfl (lv_at hl 1 rfl) ?_
    refine vp_callSi (va_runS (As := [.int x]) (rest := []) ⟨hx, hb, hml, hown, hw⟩ (c_M_isModule l dC dI x) (va_cwS 1 hw (gdS (k_962) (k_960) (k_961) (k_8)) rfl rfl rfl (by decide +kernel) ⟨Nat.le_of_ble_eq_true rfl, Nat.le_of_ble_eq_true rfl⟩) ⟨fun _ _ _ _ q => q, fun _ _ _ => ⟨rfl, trivial⟩⟩ rfl rfl hl.1 rfl (lv_room (Nat.le_of_ble_eq_true rfl)) d_M_register_13 ⟨Nat.le_of_ble_eq_true rfl, Nat.le_of_ble_eq_true rfl⟩).run (fun r2 hr3 => ?_)
    subst hr3
    refine lv_if_eq (tgt := 29) hx hb d_M_register_16 rfl (fun hc4 => ?_) (fun hc4 => ?_)
    · --  (bI (in3 x)) = 0
      refine lv_iconst (v := (-1)) hx hb d_M_register_29 (by decide) ?_
      refine lv_goto (tgt := 44) hx hb d_M_register_30 rfl ?_
      have hP9 := hP.sub (ws' := [(m0, .inr (6, oM ga (upc uM 0 0) cn sn cm us wt oc ou ow)), (ga 8, .inl (gc 8, 24, .inl a8))]) [0, 1] rfl
      have hD9 := hD.sub (ws' := [(m0, .inr (6, oM ga (upc uM 0 0) cn sn cm us wt oc ou ow)), (ga 8, .inl (gc 8, 24, .inl a8))]) [0, 1] (by decide) rfl
      have hK9 := hK.sub (tys' := [(gc 8, .int)]) [0] rfl
      refine W.widen (k := 0) (n := 0) (Nat.le_of_ble_eq_true rfl) (Nat.le_of_ble_eq_true rfl) ?_
      exact W.iret (v := (-1)) hx hb hr (fun t ht hW => ⟨⟨_, (0), rfl, ⟨trivial, (by rw [← hSP, s_M_register]; try (rw [if_neg hc1]); try (rw [if_pos hc4]); all_goals rfl)⟩, by rw [ht]; exact hP9, va_K.moved hW.alike hK9, hD9⟩, hS.F ht⟩) hS.2.2 d_M_register_44
    · --  ¬ (bI (in3 x)) = 0
      refine lv_iload_n hx hb d_M_register_19 rfl (lv_at hl 2 rfl) ?_
      refine lv_if_lt (tgt := 29) hx hb d_M_register_20 rfl (fun hc5 => ?_) (fun hc5 => ?_)
      · --  y < 0
        refine lv_iconst (v := (-1)) hx hb d_M_register_29 (by decide) ?_
        refine lv_goto (tgt := 44) hx hb d_M_register_30 rfl ?_
        have hP9 := hP.sub (ws' := [(m0, .inr (6, oM ga (upc uM 0 0) cn sn cm us wt oc ou ow)), (ga 8, .inl (gc 8, 24, .inl a8))]) [0, 1] rfl
        have hD9 := hD.sub (ws' := [(m0, .inr (6, oM ga (upc uM 0 0) cn sn cm us wt oc ou ow)), (ga 8, .inl (gc 8, 24, .inl a8))]) [0, 1] (by decide) rfl
        have hK9 := hK.sub (tys' := [(gc 8, .int)]) [0] rfl
        refine W.widen (k := 0) (n := 0) (Nat.le_of_ble_eq_true rfl) (Nat.le_of_ble_eq_true rfl) ?_
        exact W.iret (v := (-1)) hx hb hr (fun t ht hW => ⟨⟨_, (0), rfl, ⟨trivial, (by rw [← hSP, s_M_register]; try (rw [if_neg hc1]); try (rw [if_neg hc4]); try (rw [if_pos hc5]); all_goals rfl)⟩, by rw [ht]; exact hP9, va_K.moved hW.alike hK9, hD9⟩, hS.F ht⟩) hS.2.2 d_M_register_44
      · --  ¬ y < 0
        refine lv_iload_n hx hb d_M_register_23 rfl (lv_at hl 2 rfl) ?_
        refine lv_bipush (v := 7) hx hb d_M_register_24 (by decide) ?_
        refine lv_icmp_le (tgt := 33) hx hb d_M_register_26 rfl (fun hc6 => ?_) (fun hc6 => ?_)
        · --  y ≤ 7
          refine lv_aload_n hx hb d_M_register_33 rfl (lv_at hl 0 rfl) ?_
          refine va_get (D := (dC, dI)) (ci := 6) (v := .ref (ga 8)) (C := "VotedTripleModel") (T := F_M) (N := 37) hx hb hw in_M hown hK hP 0 rfl rfl 8 (by decide) (hw _ k_732) (fun _ h9 => h9) rfl d_M_register_34 ?_
          refine lv_bipush (v := 8) hx hb d_M_register_37 (by decide) ?_
          refine lv_iload_n hx hb d_M_register_39 rfl (lv_at hl 1 rfl) ?_
          refine lv_imul hx hb d_M_register_40 ?_
          refine lv_iload_n hx hb d_M_register_41 rfl (lv_at hl 2 rfl) ?_
          refine lv_iadd hx hb d_M_register_42 ?_
          refine va_iald hx hb hK hP 1 0 rfl rfl (by obtain ⟨k9, hk9, e9⟩ := in3_nI hc4; exact ix8 e9 hk9 (in_of2 (N := 7) rfl hc5 (Int32.not_lt.mpr hc6))) d_M_register_43 ?_
          have hP9 := hP.sub (ws' := [(m0, .inr (6, oM ga (upc uM 0 0) cn sn cm us wt oc ou ow)), (ga 8, .inl (gc 8, 24, .inl a8))]) [0, 1] rfl
          have hD9 := hD.sub (ws' := [(m0, .inr (6, oM ga (upc uM 0 0) cn sn cm us wt oc ou ow)), (ga 8, .inl (gc 8, 24, .inl a8))]) [0, 1] (by decide) rfl
          have hK9 := hK.sub (tys' := [(gc 8, .int)]) [0] rfl
          refine W.widen (k := 0) (n := 0) (Nat.le_of_ble_eq_true rfl) (Nat.le_of_ble_eq_true rfl) ?_
          exact W.iret (v := (a8 (Int32.toNatClampNeg (((8 : Int32) * x) + y)))) hx hb hr (fun t ht hW => ⟨⟨_, (0), rfl, ⟨trivial, (by rw [← hSP, s_M_register]; try (rw [if_neg hc1]); try (rw [if_neg hc4]); try (rw [if_neg hc5]); try (rw [if_pos hc6]); all_goals rfl)⟩, by rw [ht]; exact hP9, va_K.moved hW.alike hK9, hD9⟩, hS.F ht⟩) hS.2.2 d_M_register_44
        · --  ¬ y ≤ 7
          refine lv_iconst (v := (-1)) hx hb d_M_register_29 (by decide) ?_
          refine lv_goto (tgt := 44) hx hb d_M_register_30 rfl ?_
          have hP9 := hP.sub (ws' := [(m0, .inr (6, oM ga (upc uM 0 0) cn sn cm us wt oc ou ow)), (ga 8, .inl (gc 8, 24, .inl a8))]) [0, 1] rfl
          have hD9 := hD.sub (ws' := [(m0, .inr (6, oM ga (upc uM 0 0) cn sn cm us wt oc ou ow)), (ga 8, .inl (gc 8, 24, .inl a8))]) [0, 1] (by decide) rfl
          have hK9 := hK.sub (tys' := [(gc 8, .int)]) [0] rfl
          refine W.widen (k := 0) (n := 0) (Nat.le_of_ble_eq_true rfl) (Nat.le_of_ble_eq_true rfl) ?_
          exact W.iret (v := (-1)) hx hb hr (fun t ht hW => ⟨⟨_, (0), rfl, ⟨trivial, (by rw [← hSP, s_M_register]; try (rw [if_neg hc1]); try (rw [if_neg hc4]); try (rw [if_neg hc5]); try (rw [if_neg hc6]); all_goals rfl)⟩, by rw [ht]; exact hP9, va_K.moved hW.alike hK9, hD9⟩, hS.F ht⟩) hS.2.2 d_M_register_44

set_option maxHeartbeats 4000000 in
set_option maxRecDepth 100000 in
theorem c_M_code (l : Launch) (dC : Nat → ClassId) (dI : Nat → Nat → Nat) (m0 : Nat) (ga : Nat → Nat) (gc : Nat → ClassId) (uM : Nat → Int32) (cn : Nat) (sn : Nat) (cm : Nat) (us : Nat) (wt : Nat) (oc : Nat) (ou : Nat) (ow : Nat) (a9 : Nat → Int32) (x : Int32) (y : Int32) (sz : Nat) : Met l y_M_code (tbw y_M_code b_M_code 3 (some .int)) ({ frames := 1, cells := 0, slots := 0, locals := 20 }) (va_Pc [.ref m0, .int x, .int y] (fun U => U.heap.size = sz ∧ va_P (dC, dI) classes [(m0, .inr (6, oM ga uM cn sn cm us wt oc ou ow)), (ga 9, .inl (gc 9, 96, .inl a9))] U.heap ∧ va_K (dC, dI) classes [(gc 9, .int)] U ∧ va_D (fun _ => True) [(m0, .inr (6, oM ga uM cn sn cm us wt oc ou ow)), (ga 9, .inl (gc 9, 96, .inl a9))])) (va_Qi (fun (r : Int32) (u9 : Int32) => match u9 with | y0 => (True) ∧ (r, y0) = s_M_code uM a9 x y) (fun (u9 : Int32) t => match u9 with | y0 => va_P (dC, dI) classes [(m0, .inr (6, oM ga (upc uM 0 y0) cn sn cm us wt oc ou ow)), (ga 9, .inl (gc 9, 96, .inl a9))] t.heap ∧ va_K (dC, dI) classes [(gc 9, .int)] t ∧ va_D (va_A [(m0, .inr (6, oM ga uM cn sn cm us wt oc ou ow)), (ga 9, .inl (gc 9, 96, .inl a9))] sz) [(m0, .inr (6, oM ga (upc uM 0 y0) cn sn cm us wt oc ou ow)), (ga 9, .inl (gc 9, 96, .inl a9))]) (va_A [(m0, .inr (6, oM ga uM cn sn cm us wt oc ou ow)), (ga 9, .inl (gc 9, 96, .inl a9))] sz)) 0 0 (va_A [(m0, .inr (6, oM ga uM cn sn cm us wt oc ou ow)), (ga 9, .inl (gc 9, 96, .inl a9))] sz) := by
  refine Met.ofW (cc := b_M_code) (maxL := 3) (ret := (some .int)) (by decide) rfl ?_
  intro p e s m args below meth c s₁ B hml hv
  obtain ⟨rfl, hsz, hP, hK, hD0⟩ := hv
  have hx := B.exec
  have hb := B.bytes
  have hr := B.returns
  have hts := atoms_spec (ws := (tbw y_M_code b_M_code 3 (some .int))) B.pre
  have hw : ∀ z9 ∈ tb, z9.before ([.ref m0, .int x, .int y] : List Value).toArray s = true := fun z9 h => hts z9 (List.mem_cons_of_mem _ h)
  have hown : s.vm.findClass "VotedTripleModel" = some m.cls := findClass_of_methodNamed B.named
  have hlocks := B.notSynchronized
  subst hsz
  replace hD := hD0.self (sz := s.heap.size)
  generalize hAe : va_A [(m0, .inr (6, oM ga uM cn sn cm us wt oc ou ow)), (ga 9, .inl (gc 9, 96, .inl a9))] s.heap.size = A at hD ⊢
  have hA : ∀ q : Nat, s.heap.size ≤ q → A q := fun q h => by rw [← hAe]; exact Or.inr h
  have hS : va_S A s.heap s.heap [] := va_S.rf
  replace hl := lv_entry ([.ref m0, .int x, .int y]) (n := 3) (Nat.le_of_ble_eq_true rfl)
  rw [lg_entry_eq]
  generalize (lg_sl ([.ref m0, .int x, .int y]) ++ List.replicate (3 - (lg_sl ([.ref m0, .int x, .int y])).length) Slot.unset).toArray = ls at hl ⊢
  replace hl : lv_has ls 3 [(0, .ref m0), (1, .int x), (2, .int y)] := hl
  generalize hSP : s_M_code uM a9 x y = SP
  refine lv_aload_n hx hb d_M_code_0 rfl (lv_at hl 0 rfl) ?_
  refine lv_iconst (v := 0) hx hb d_M_code_1 (by decide) ?_
  refine va_put (D := (dC, dI)) (ci := 6) (v := .int 0) (ty := .int) (C := "VotedTripleModel") (T := F_M) (N := 37) hx hb hw in_M ft_M tyok_M nm_M hown hK hP hD hS 0 rfl rfl 0 (by decide) (hw _ k_724) (fun _ h9 => h9) rfl (by decide +kernel) rfl rfl (Nat.le_of_ble_eq_true rfl) d_M_code_2 (fun H locs hP hD hS => ?_)
  replace hP : va_P (dC, dI) classes [(m0, .inr (6, [.int 0, .int (nI cn), .ref (ga 2), .int (uM 3), .int (uM 4), .int (uM 5), .int (nI sn), .int (uM 7), .ref (ga 8), .ref (ga 9), .ref (ga 10), .ref (ga 11), .ref (ga 12), .ref (ga 13), .ref (ga 14), .ref (ga 15), .ref (ga 16), .ref (ga 17), .ref (ga 18), .ref (ga 19), .ref (ga 20), .ref (ga 21), .ref (ga 22), .ref (ga 23), .int (uM 24), .int (uM 25), .int (nI cm), .int (nI us), .ref (ga 28), .int (nI wt), .ref (ga 30), .ref (ga 31), .ref (ga 32), .int (nI oc), .int (nI ou), .int (nI ow), .ref (ga 36)])), (ga 9, .inl (gc 9, 96, .inl a9))] H := hP
  replace hD : va_D A [(m0, .inr (6, [.int 0, .int (nI cn), .ref (ga 2), .int (uM 3), .int (uM 4), .int (uM 5), .int (nI sn), .int (uM 7), .ref (ga 8), .ref (ga 9), .ref (ga 10), .ref (ga 11), .ref (ga 12), .ref (ga 13), .ref (ga 14), .ref (ga 15), .ref (ga 16), .ref (ga 17), .ref (ga 18), .ref (ga 19), .ref (ga 20), .ref (ga 21), .ref (ga 22), .ref (ga 23), .int (uM 24), .int (uM 25), .int (nI cm), .int (nI us), .ref (ga 28), .int (nI wt), .ref (ga 30), .ref (ga 31), .ref (ga 32), .int (nI oc), .int (nI ou), .int (nI ow), .ref (ga 36)])), (ga 9, .inl (gc 9, 96, .inl a9))] := hD
  refine lv_aload_n hx hb d_M_code_5 rfl (lv_at hl 0 rfl) ?_
  refine va_get (D := (dC, dI)) (ci := 6) (v := .int (uM 3)) (C := "VotedTripleModel") (T := F_M) (N := 37) hx hb hw in_M hown hK hP 0 rfl rfl 3 (by decide) (hw _ k_727) (fun _ h9 => h9) rfl d_M_code_6 ?_
  refine lv_if_eq (tgt := 29) hx hb d_M_code_9 rfl (fun hc1 => ?_) (fun hc1 => ?_)
  · --  (uM 3) = 0
    refine lv_iconst (v := (-1)) hx hb d_M_code_29 (by decide) ?_
    refine lv_goto (tgt := 44) hx hb d_M_code_30 rfl ?_
    have hP9 := hP.sub (ws' := [(m0, .inr (6, oM ga (upc uM 0 0) cn sn cm us wt oc ou ow)), (ga 9, .inl (gc 9, 96, .inl a9))]) [0, 1] rfl
    have hD9 := hD.sub (ws' := [(m0, .inr (6, oM ga (upc uM 0 0) cn sn cm us wt oc ou ow)), (ga 9, .inl (gc 9, 96, .inl a9))]) [0, 1] (by decide) rfl
    have hK9 := hK.sub (tys' := [(gc 9, .int)]) [0] rfl
    refine W.widen (k := 0) (n := 0) (Nat.le_of_ble_eq_true rfl) (Nat.le_of_ble_eq_true rfl) ?_
    exact W.iret (v := (-1)) hx hb hr (fun t ht hW => ⟨⟨_, (0), rfl, ⟨trivial, (by rw [← hSP, s_M_code]; try (rw [if_pos hc1]); all_goals rfl)⟩, by rw [ht]; exact hP9, va_K.moved hW.alike hK9, hD9⟩, hS.F ht⟩) hS.2.2 d_M_code_44
  · --  ¬ (uM 3) = 0
    refine lv_iload_n hx hb d_M_code_12 rfl (lv_at hl 1 rfl) ?_
    refine vp_callSi (va_runS (As := [.int x]) (rest := []) ⟨hx, hb, hml, hown, hw⟩ (c_M_isModule l dC dI x) (va_cwS 1 hw (gdS (k_962) (k_960) (k_961) (k_8)) rfl rfl rfl (by decide +kernel) ⟨Nat.le_of_ble_eq_true rfl, Nat.le_of_ble_eq_true rfl⟩) ⟨fun _ _ _ _ q => q, fun _ _ _ => ⟨rfl, trivial⟩⟩ rfl rfl hl.1 rfl (lv_room (Nat.le_of_ble_eq_true rfl)) d_M_code_13 ⟨Nat.le_of_ble_eq_true rfl, Nat.le_of_ble_eq_true rfl⟩).run (fun r2 hr3 => ?_)
    subst hr3
    refine lv_if_eq (tgt := 29) hx hb d_M_code_16 rfl (fun hc4 => ?_) (fun hc4 => ?_)
    · --  (bI (in3 x)) = 0
      refine lv_iconst (v := (-1)) hx hb d_M_code_29 (by decide) ?_
      refine lv_goto (tgt := 44) hx hb d_M_code_30 rfl ?_
      have hP9 := hP.sub (ws' := [(m0, .inr (6, oM ga (upc uM 0 0) cn sn cm us wt oc ou ow)), (ga 9, .inl (gc 9, 96, .inl a9))]) [0, 1] rfl
      have hD9 := hD.sub (ws' := [(m0, .inr (6, oM ga (upc uM 0 0) cn sn cm us wt oc ou ow)), (ga 9, .inl (gc 9, 96, .inl a9))]) [0, 1] (by decide) rfl
      have hK9 := hK.sub (tys' := [(gc 9, .int)]) [0] rfl
      refine W.widen (k := 0) (n := 0) (Nat.le_of_ble_eq_true rfl) (Nat.le_of_ble_eq_true rfl) ?_
      exact W.iret (v := (-1)) hx hb hr (fun t ht hW => ⟨⟨_, (0), rfl, ⟨trivial, (by rw [← hSP, s_M_code]; try (rw [if_neg hc1]); try (rw [if_pos hc4]); all_goals rfl)⟩, by rw [ht]; exact hP9, va_K.moved hW.alike hK9, hD9⟩, hS.F ht⟩) hS.2.2 d_M_code_44
    · --  ¬ (bI (in3 x)) = 0
      refine lv_iload_n hx hb d_M_code_19 rfl (lv_at hl 2 rfl) ?_
      refine lv_if_lt (tgt := 29) hx hb d_M_code_20 rfl (fun hc5 => ?_) (fun hc5 => ?_)
      · --  y < 0
        refine lv_iconst (v := (-1)) hx hb d_M_code_29 (by decide) ?_
        refine lv_goto (tgt := 44) hx hb d_M_code_30 rfl ?_
        have hP9 := hP.sub (ws' := [(m0, .inr (6, oM ga (upc uM 0 0) cn sn cm us wt oc ou ow)), (ga 9, .inl (gc 9, 96, .inl a9))]) [0, 1] rfl
        have hD9 := hD.sub (ws' := [(m0, .inr (6, oM ga (upc uM 0 0) cn sn cm us wt oc ou ow)), (ga 9, .inl (gc 9, 96, .inl a9))]) [0, 1] (by decide) rfl
        have hK9 := hK.sub (tys' := [(gc 9, .int)]) [0] rfl
        refine W.widen (k := 0) (n := 0) (Nat.le_of_ble_eq_true rfl) (Nat.le_of_ble_eq_true rfl) ?_
        exact W.iret (v := (-1)) hx hb hr (fun t ht hW => ⟨⟨_, (0), rfl, ⟨trivial, (by rw [← hSP, s_M_code]; try (rw [if_neg hc1]); try (rw [if_neg hc4]); try (rw [if_pos hc5]); all_goals rfl)⟩, by rw [ht]; exact hP9, va_K.moved hW.alike hK9, hD9⟩, hS.F ht⟩) hS.2.2 d_M_code_44
      · --  ¬ y < 0
        refine lv_iload_n hx hb d_M_code_23 rfl (lv_at hl 2 rfl) ?_
        refine lv_bipush (v := 32) hx hb d_M_code_24 (by decide) ?_
        refine lv_icmp_lt (tgt := 33) hx hb d_M_code_26 rfl (fun hc6 => ?_) (fun hc6 => ?_)
        · --  y < 32
          refine lv_aload_n hx hb d_M_code_33 rfl (lv_at hl 0 rfl) ?_
          refine va_get (D := (dC, dI)) (ci := 6) (v := .ref (ga 9)) (C := "VotedTripleModel") (T := F_M) (N := 37) hx hb hw in_M hown hK hP 0 rfl rfl 9 (by decide) (hw _ k_733) (fun _ h9 => h9) rfl d_M_code_34 ?_
          refine lv_bipush (v := 32) hx hb d_M_code_37 (by decide) ?_
          refine lv_iload_n hx hb d_M_code_39 rfl (lv_at hl 1 rfl) ?_
          refine lv_imul hx hb d_M_code_40 ?_
          refine lv_iload_n hx hb d_M_code_41 rfl (lv_at hl 2 rfl) ?_
          refine lv_iadd hx hb d_M_code_42 ?_
          refine va_iald hx hb hK hP 1 0 rfl rfl (by obtain ⟨k9, hk9, e9⟩ := in3_nI hc4; exact ix32 e9 hk9 (in_of (N := 32) rfl hc5 (Int32.not_le.mpr hc6))) d_M_code_43 ?_
          have hP9 := hP.sub (ws' := [(m0, .inr (6, oM ga (upc uM 0 0) cn sn cm us wt oc ou ow)), (ga 9, .inl (gc 9, 96, .inl a9))]) [0, 1] rfl
          have hD9 := hD.sub (ws' := [(m0, .inr (6, oM ga (upc uM 0 0) cn sn cm us wt oc ou ow)), (ga 9, .inl (gc 9, 96, .inl a9))]) [0, 1] (by decide) rfl
          have hK9 := hK.sub (tys' := [(gc 9, .int)]) [0] rfl
          refine W.widen (k := 0) (n := 0) (Nat.le_of_ble_eq_true rfl) (Nat.le_of_ble_eq_true rfl) ?_
          exact W.iret (v := (a9 (Int32.toNatClampNeg (((32 : Int32) * x) + y)))) hx hb hr (fun t ht hW => ⟨⟨_, (0), rfl, ⟨trivial, (by rw [← hSP, s_M_code]; try (rw [if_neg hc1]); try (rw [if_neg hc4]); try (rw [if_neg hc5]); try (rw [if_pos hc6]); all_goals rfl)⟩, by rw [ht]; exact hP9, va_K.moved hW.alike hK9, hD9⟩, hS.F ht⟩) hS.2.2 d_M_code_44
        · --  ¬ y < 32
          refine lv_iconst (v := (-1)) hx hb d_M_code_29 (by decide) ?_
          refine lv_goto (tgt := 44) hx hb d_M_code_30 rfl ?_
          have hP9 := hP.sub (ws' := [(m0, .inr (6, oM ga (upc uM 0 0) cn sn cm us wt oc ou ow)), (ga 9, .inl (gc 9, 96, .inl a9))]) [0, 1] rfl
          have hD9 := hD.sub (ws' := [(m0, .inr (6, oM ga (upc uM 0 0) cn sn cm us wt oc ou ow)), (ga 9, .inl (gc 9, 96, .inl a9))]) [0, 1] (by decide) rfl
          have hK9 := hK.sub (tys' := [(gc 9, .int)]) [0] rfl
          refine W.widen (k := 0) (n := 0) (Nat.le_of_ble_eq_true rfl) (Nat.le_of_ble_eq_true rfl) ?_
          exact W.iret (v := (-1)) hx hb hr (fun t ht hW => ⟨⟨_, (0), rfl, ⟨trivial, (by rw [← hSP, s_M_code]; try (rw [if_neg hc1]); try (rw [if_neg hc4]); try (rw [if_neg hc5]); try (rw [if_neg hc6]); all_goals rfl)⟩, by rw [ht]; exact hP9, va_K.moved hW.alike hK9, hD9⟩, hS.F ht⟩) hS.2.2 d_M_code_44

set_option maxHeartbeats 4000000 in
set_option maxRecDepth 100000 in
theorem c_M_state (l : Launch) (dC : Nat → ClassId) (dI : Nat → Nat → Nat) (m0 : Nat) (ga : Nat → Nat) (gc : Nat → ClassId) (uM : Nat → Int32) (cn : Nat) (sn : Nat) (cm : Nat) (us : Nat) (wt : Nat) (oc : Nat) (ou : Nat) (ow : Nat) (a11 : Nat → Int32) (x : Int32) (sz : Nat) : Met l y_M_state (tbw y_M_state b_M_state 2 (some .int)) ({ frames := 1, cells := 0, slots := 0, locals := 22 }) (va_Pc [.ref m0, .int x] (fun U => U.heap.size = sz ∧ va_P (dC, dI) classes [(m0, .inr (6, oM ga uM cn sn cm us wt oc ou ow)), (ga 11, .inl (gc 11, 3, .inl a11))] U.heap ∧ va_K (dC, dI) classes [(gc 11, .int)] U ∧ va_D (fun _ => True) [(m0, .inr (6, oM ga uM cn sn cm us wt oc ou ow)), (ga 11, .inl (gc 11, 3, .inl a11))])) (va_Qi (fun (r : Int32) (u9 : Int32) => match u9 with | y0 => (True) ∧ (r, y0) = s_M_state uM sn cm us wt ow a11 x) (fun (u9 : Int32) t => match u9 with | y0 => va_P (dC, dI) classes [(m0, .inr (6, oM ga (upc uM 0 y0) cn sn cm us wt oc ou ow)), (ga 11, .inl (gc 11, 3, .inl a11))] t.heap ∧ va_K (dC, dI) classes [(gc 11, .int)] t ∧ va_D (va_A [(m0, .inr (6, oM ga uM cn sn cm us wt oc ou ow)), (ga 11, .inl (gc 11, 3, .inl a11))] sz) [(m0, .inr (6, oM ga (upc uM 0 y0) cn sn cm us wt oc ou ow)), (ga 11, .inl (gc 11, 3, .inl a11))]) (va_A [(m0, .inr (6, oM ga uM cn sn cm us wt oc ou ow)), (ga 11, .inl (gc 11, 3, .inl a11))] sz)) 0 0 (va_A [(m0, .inr (6, oM ga uM cn sn cm us wt oc ou ow)), (ga 11, .inl (gc 11, 3, .inl a11))] sz) := by
  refine Met.ofW (cc := b_M_state) (maxL := 2) (ret := (some .int)) (by decide) rfl ?_
  intro p e s m args below meth c s₁ B hml hv
  obtain ⟨rfl, hsz, hP, hK, hD0⟩ := hv
  have hx := B.exec
  have hb := B.bytes
  have hr := B.returns
  have hts := atoms_spec (ws := (tbw y_M_state b_M_state 2 (some .int))) B.pre
  have hw : ∀ z9 ∈ tb, z9.before ([.ref m0, .int x] : List Value).toArray s = true := fun z9 h => hts z9 (List.mem_cons_of_mem _ h)
  have hown : s.vm.findClass "VotedTripleModel" = some m.cls := findClass_of_methodNamed B.named
  have hlocks := B.notSynchronized
  subst hsz
  replace hD := hD0.self (sz := s.heap.size)
  generalize hAe : va_A [(m0, .inr (6, oM ga uM cn sn cm us wt oc ou ow)), (ga 11, .inl (gc 11, 3, .inl a11))] s.heap.size = A at hD ⊢
  have hA : ∀ q : Nat, s.heap.size ≤ q → A q := fun q h => by rw [← hAe]; exact Or.inr h
  have hS : va_S A s.heap s.heap [] := va_S.rf
  replace hl := lv_entry ([.ref m0, .int x]) (n := 2) (Nat.le_of_ble_eq_true rfl)
  rw [lg_entry_eq]
  generalize (lg_sl ([.ref m0, .int x]) ++ List.replicate (2 - (lg_sl ([.ref m0, .int x])).length) Slot.unset).toArray = ls at hl ⊢
  replace hl : lv_has ls 2 [(0, .ref m0), (1, .int x)] := hl
  generalize hSP : s_M_state uM sn cm us wt ow a11 x = SP
  refine lv_aload_n hx hb d_M_state_0 rfl (lv_at hl 0 rfl) ?_
  refine lv_iconst (v := 0) hx hb d_M_state_1 (by decide) ?_
  refine va_put (D := (dC, dI)) (ci := 6) (v := .int 0) (ty := .int) (C := "VotedTripleModel") (T := F_M) (N := 37) hx hb hw in_M ft_M tyok_M nm_M hown hK hP hD hS 0 rfl rfl 0 (by decide) (hw _ k_724) (fun _ h9 => h9) rfl (by decide +kernel) rfl rfl (Nat.le_of_ble_eq_true rfl) d_M_state_2 (fun H locs hP hD hS => ?_)
  replace hP : va_P (dC, dI) classes [(m0, .inr (6, [.int 0, .int (nI cn), .ref (ga 2), .int (uM 3), .int (uM 4), .int (uM 5), .int (nI sn), .int (uM 7), .ref (ga 8), .ref (ga 9), .ref (ga 10), .ref (ga 11), .ref (ga 12), .ref (ga 13), .ref (ga 14), .ref (ga 15), .ref (ga 16), .ref (ga 17), .ref (ga 18), .ref (ga 19), .ref (ga 20), .ref (ga 21), .ref (ga 22), .ref (ga 23), .int (uM 24), .int (uM 25), .int (nI cm), .int (nI us), .ref (ga 28), .int (nI wt), .ref (ga 30), .ref (ga 31), .ref (ga 32), .int (nI oc), .int (nI ou), .int (nI ow), .ref (ga 36)])), (ga 11, .inl (gc 11, 3, .inl a11))] H := hP
  replace hD : va_D A [(m0, .inr (6, [.int 0, .int (nI cn), .ref (ga 2), .int (uM 3), .int (uM 4), .int (uM 5), .int (nI sn), .int (uM 7), .ref (ga 8), .ref (ga 9), .ref (ga 10), .ref (ga 11), .ref (ga 12), .ref (ga 13), .ref (ga 14), .ref (ga 15), .ref (ga 16), .ref (ga 17), .ref (ga 18), .ref (ga 19), .ref (ga 20), .ref (ga 21), .ref (ga 22), .ref (ga 23), .int (uM 24), .int (uM 25), .int (nI cm), .int (nI us), .ref (ga 28), .int (nI wt), .ref (ga 30), .ref (ga 31), .ref (ga 32), .int (nI oc), .int (nI ou), .int (nI ow), .ref (ga 36)])), (ga 11, .inl (gc 11, 3, .inl a11))] := hD
  refine lv_iload_n hx hb d_M_state_5 rfl (lv_at hl 1 rfl) ?_
  rcases sw6 (x) with hs1 | hs1 | hs1 | hs1 | hs1 | hs1 | hs1 | hs1
  · refine lv_tableIn (off := 42) (tgt := 48) hx hb d_M_state_6 (by rw [hs1]; decide) (by rw [hs1]; decide) (by rw [hs1]; decide) rfl ?_
    refine lv_aload_n hx hb d_M_state_48 rfl (lv_at hl 0 rfl) ?_
    refine va_get (D := (dC, dI)) (ci := 6) (v := .int (uM 3)) (C := "VotedTripleModel") (T := F_M) (N := 37) hx hb hw in_M hown hK hP 0 rfl rfl 3 (by decide) (hw _ k_727) (fun _ h9 => h9) rfl d_M_state_49 ?_
    refine lv_if_ne (tgt := 59) hx hb d_M_state_52 rfl (fun hc2 => ?_) (fun hc2 => ?_)
    · --  ¬ (uM 3) = 0
      refine lv_aload_n hx hb d_M_state_59 rfl (lv_at hl 0 rfl) ?_
      refine va_get (D := (dC, dI)) (ci := 6) (v := .int (uM 4)) (C := "VotedTripleModel") (T := F_M) (N := 37) hx hb hw in_M hown hK hP 0 rfl rfl 4 (by decide) (hw _ k_728) (fun _ h9 => h9) rfl d_M_state_60 ?_
      refine lv_if_eq (tgt := 70) hx hb d_M_state_63 rfl (fun hc3 => ?_) (fun hc3 => ?_)
      · --  (uM 4) = 0
        refine lv_aload_n hx hb d_M_state_70 rfl (lv_at hl 0 rfl) ?_
        replace hP : va_P (dC, dI) classes [(m0, .inr (6, oM ga (upc uM 0 (0 : Int32)) cn sn cm us wt oc ou ow)), (ga 11, .inl (gc 11, 3, .inl a11))] H := hP
        replace hD : va_D A [(m0, .inr (6, oM ga (upc uM 0 (0 : Int32)) cn sn cm us wt oc ou ow)), (ga 11, .inl (gc 11, 3, .inl a11))] := hD
        replace hPc := hP.sub (ws' := [(m0, .inr (6, oM ga (upc uM 0 (0 : Int32)) cn sn cm us wt oc ou ow)), (ga 11, .inl (gc 11, 3, .inl a11))]) [0, 1] rfl
        replace hKc := hK.sub (tys' := [(gc 11, .int)]) [0] rfl
        refine vp_callSi (va_runV (C := "VotedTripleModel") (As := []) (rest := []) ⟨hx, hb, hml, hown, hw⟩ (c_M_inStep l dC dI m0 ga gc (upc uM 0 (0 : Int32)) cn sn cm us wt oc ou ow a11) (cwV 0 hw (gdV (k_939) (k_936) (k_938) (ks_37) (k_8)) rfl rfl rfl (by decide +kernel) ⟨Nat.le_of_ble_eq_true rfl, Nat.le_of_ble_eq_true rfl⟩) ⟨fun a U g mk q => ⟨q.1, q.2.1, va_K.moved (u := U) (U := U.calling g mk a) (Vm.Alike.refl U.vm) q.2.2⟩, va_recv hK hP rfl (q0 := 0) rfl, fun U hU hW => ⟨rfl, by rw [hU]; exact hPc, va_K.moved hW.alike hKc⟩⟩ rfl rfl hl.1 rfl (lv_room (Nat.le_of_ble_eq_true rfl)) d_M_state_71 ⟨Nat.le_of_ble_eq_true rfl, Nat.le_of_ble_eq_true rfl⟩).run (fun r4 hr5 => ?_)
        subst hr5
        have hP9 := hP.sub (ws' := [(m0, .inr (6, oM ga (upc uM 0 (upc uM 0 (0 : Int32) 0)) cn sn cm us wt oc ou ow)), (ga 11, .inl (gc 11, 3, .inl a11))]) [0, 1] rfl
        have hD9 := hD.sub (ws' := [(m0, .inr (6, oM ga (upc uM 0 (upc uM 0 (0 : Int32) 0)) cn sn cm us wt oc ou ow)), (ga 11, .inl (gc 11, 3, .inl a11))]) [0, 1] (by decide) rfl
        have hK9 := hK.sub (tys' := [(gc 11, .int)]) [0] rfl
        refine W.widen (k := 0) (n := 0) (Nat.le_of_ble_eq_true rfl) (Nat.le_of_ble_eq_true rfl) ?_
        exact W.iret (v := (cn3 a11)) hx hb hr (fun t ht hW => ⟨⟨_, (upc uM 0 (0 : Int32) 0), rfl, ⟨trivial, (by rw [← hSP, s_M_state]; try (rw [if_pos hs1]); try (rw [if_neg hc2]); try (rw [if_pos hc3]); all_goals rfl)⟩, by rw [ht]; exact hP9, va_K.moved hW.alike hK9, hD9⟩, hS.F ht⟩) hS.2.2 d_M_state_74
      · --  ¬ (uM 4) = 0
        refine lv_iconst (v := 0) hx hb d_M_state_66 (by decide) ?_
        refine lv_goto (tgt := 74) hx hb d_M_state_67 rfl ?_
        have hP9 := hP.sub (ws' := [(m0, .inr (6, oM ga (upc uM 0 0) cn sn cm us wt oc ou ow)), (ga 11, .inl (gc 11, 3, .inl a11))]) [0, 1] rfl
        have hD9 := hD.sub (ws' := [(m0, .inr (6, oM ga (upc uM 0 0) cn sn cm us wt oc ou ow)), (ga 11, .inl (gc 11, 3, .inl a11))]) [0, 1] (by decide) rfl
        have hK9 := hK.sub (tys' := [(gc 11, .int)]) [0] rfl
        refine W.widen (k := 0) (n := 0) (Nat.le_of_ble_eq_true rfl) (Nat.le_of_ble_eq_true rfl) ?_
        exact W.iret (v := 0) hx hb hr (fun t ht hW => ⟨⟨_, (0), rfl, ⟨trivial, (by rw [← hSP, s_M_state]; try (rw [if_pos hs1]); try (rw [if_neg hc2]); try (rw [if_neg hc3]); all_goals rfl)⟩, by rw [ht]; exact hP9, va_K.moved hW.alike hK9, hD9⟩, hS.F ht⟩) hS.2.2 d_M_state_74
    · --  (uM 3) = 0
      refine lv_iconst (v := (-1)) hx hb d_M_state_55 (by decide) ?_
      refine lv_goto (tgt := 74) hx hb d_M_state_56 rfl ?_
      have hP9 := hP.sub (ws' := [(m0, .inr (6, oM ga (upc uM 0 0) cn sn cm us wt oc ou ow)), (ga 11, .inl (gc 11, 3, .inl a11))]) [0, 1] rfl
      have hD9 := hD.sub (ws' := [(m0, .inr (6, oM ga (upc uM 0 0) cn sn cm us wt oc ou ow)), (ga 11, .inl (gc 11, 3, .inl a11))]) [0, 1] (by decide) rfl
      have hK9 := hK.sub (tys' := [(gc 11, .int)]) [0] rfl
      refine W.widen (k := 0) (n := 0) (Nat.le_of_ble_eq_true rfl) (Nat.le_of_ble_eq_true rfl) ?_
      exact W.iret (v := (-1)) hx hb hr (fun t ht hW => ⟨⟨_, (0), rfl, ⟨trivial, (by rw [← hSP, s_M_state]; try (rw [if_pos hs1]); try (rw [if_pos hc2]); all_goals rfl)⟩, by rw [ht]; exact hP9, va_K.moved hW.alike hK9, hD9⟩, hS.F ht⟩) hS.2.2 d_M_state_74
  · refine lv_tableIn (off := 69) (tgt := 75) hx hb d_M_state_6 (by rw [hs1]; decide) (by rw [hs1]; decide) (by rw [hs1]; decide) rfl ?_
    refine lv_aload_n hx hb d_M_state_75 rfl (lv_at hl 0 rfl) ?_
    refine va_get (D := (dC, dI)) (ci := 6) (v := .int (nI sn)) (C := "VotedTripleModel") (T := F_M) (N := 37) hx hb hw in_M hown hK hP 0 rfl rfl 6 (by decide) (hw _ k_730) (fun _ h9 => h9) rfl d_M_state_76 ?_
    have hP9 := hP.sub (ws' := [(m0, .inr (6, oM ga (upc uM 0 0) cn sn cm us wt oc ou ow)), (ga 11, .inl (gc 11, 3, .inl a11))]) [0, 1] rfl
    have hD9 := hD.sub (ws' := [(m0, .inr (6, oM ga (upc uM 0 0) cn sn cm us wt oc ou ow)), (ga 11, .inl (gc 11, 3, .inl a11))]) [0, 1] (by decide) rfl
    have hK9 := hK.sub (tys' := [(gc 11, .int)]) [0] rfl
    refine W.widen (k := 0) (n := 0) (Nat.le_of_ble_eq_true rfl) (Nat.le_of_ble_eq_true rfl) ?_
    exact W.iret (v := (nI sn)) hx hb hr (fun t ht hW => ⟨⟨_, (0), rfl, ⟨trivial, (by rw [← hSP, s_M_state]; try (rw [if_neg (by rw [hs1]; decide)]); try (rw [if_pos hs1]); all_goals rfl)⟩, by rw [ht]; exact hP9, va_K.moved hW.alike hK9, hD9⟩, hS.F ht⟩) hS.2.2 d_M_state_79
  · refine lv_tableIn (off := 74) (tgt := 80) hx hb d_M_state_6 (by rw [hs1]; decide) (by rw [hs1]; decide) (by rw [hs1]; decide) rfl ?_
    refine lv_aload_n hx hb d_M_state_80 rfl (lv_at hl 0 rfl) ?_
    refine va_get (D := (dC, dI)) (ci := 6) (v := .int (uM 7)) (C := "VotedTripleModel") (T := F_M) (N := 37) hx hb hw in_M hown hK hP 0 rfl rfl 7 (by decide) (hw _ k_731) (fun _ h9 => h9) rfl d_M_state_81 ?_
    have hP9 := hP.sub (ws' := [(m0, .inr (6, oM ga (upc uM 0 0) cn sn cm us wt oc ou ow)), (ga 11, .inl (gc 11, 3, .inl a11))]) [0, 1] rfl
    have hD9 := hD.sub (ws' := [(m0, .inr (6, oM ga (upc uM 0 0) cn sn cm us wt oc ou ow)), (ga 11, .inl (gc 11, 3, .inl a11))]) [0, 1] (by decide) rfl
    have hK9 := hK.sub (tys' := [(gc 11, .int)]) [0] rfl
    refine W.widen (k := 0) (n := 0) (Nat.le_of_ble_eq_true rfl) (Nat.le_of_ble_eq_true rfl) ?_
    exact W.iret (v := (uM 7)) hx hb hr (fun t ht hW => ⟨⟨_, (0), rfl, ⟨trivial, (by rw [← hSP, s_M_state]; try (rw [if_neg (by rw [hs1]; decide)]); try (rw [if_neg (by rw [hs1]; decide)]); try (rw [if_pos hs1]); all_goals rfl)⟩, by rw [ht]; exact hP9, va_K.moved hW.alike hK9, hD9⟩, hS.F ht⟩) hS.2.2 d_M_state_84
  · refine lv_tableIn (off := 79) (tgt := 85) hx hb d_M_state_6 (by rw [hs1]; decide) (by rw [hs1]; decide) (by rw [hs1]; decide) rfl ?_
    refine lv_aload_n hx hb d_M_state_85 rfl (lv_at hl 0 rfl) ?_
    refine va_get (D := (dC, dI)) (ci := 6) (v := .int (nI wt)) (C := "VotedTripleModel") (T := F_M) (N := 37) hx hb hw in_M hown hK hP 0 rfl rfl 29 (by decide) (hw _ k_752) (fun _ h9 => h9) rfl d_M_state_86 ?_
    have hP9 := hP.sub (ws' := [(m0, .inr (6, oM ga (upc uM 0 0) cn sn cm us wt oc ou ow)), (ga 11, .inl (gc 11, 3, .inl a11))]) [0, 1] rfl
    have hD9 := hD.sub (ws' := [(m0, .inr (6, oM ga (upc uM 0 0) cn sn cm us wt oc ou ow)), (ga 11, .inl (gc 11, 3, .inl a11))]) [0, 1] (by decide) rfl
    have hK9 := hK.sub (tys' := [(gc 11, .int)]) [0] rfl
    refine W.widen (k := 0) (n := 0) (Nat.le_of_ble_eq_true rfl) (Nat.le_of_ble_eq_true rfl) ?_
    exact W.iret (v := (nI wt)) hx hb hr (fun t ht hW => ⟨⟨_, (0), rfl, ⟨trivial, (by rw [← hSP, s_M_state]; try (rw [if_neg (by rw [hs1]; decide)]); try (rw [if_neg (by rw [hs1]; decide)]); try (rw [if_neg (by rw [hs1]; decide)]); try (rw [if_pos hs1]); all_goals rfl)⟩, by rw [ht]; exact hP9, va_K.moved hW.alike hK9, hD9⟩, hS.F ht⟩) hS.2.2 d_M_state_89
  · refine lv_tableIn (off := 84) (tgt := 90) hx hb d_M_state_6 (by rw [hs1]; decide) (by rw [hs1]; decide) (by rw [hs1]; decide) rfl ?_
    refine lv_aload_n hx hb d_M_state_90 rfl (lv_at hl 0 rfl) ?_
    refine va_get (D := (dC, dI)) (ci := 6) (v := .int (nI ow)) (C := "VotedTripleModel") (T := F_M) (N := 37) hx hb hw in_M hown hK hP 0 rfl rfl 35 (by decide) (hw _ k_758) (fun _ h9 => h9) rfl d_M_state_91 ?_
    have hP9 := hP.sub (ws' := [(m0, .inr (6, oM ga (upc uM 0 0) cn sn cm us wt oc ou ow)), (ga 11, .inl (gc 11, 3, .inl a11))]) [0, 1] rfl
    have hD9 := hD.sub (ws' := [(m0, .inr (6, oM ga (upc uM 0 0) cn sn cm us wt oc ou ow)), (ga 11, .inl (gc 11, 3, .inl a11))]) [0, 1] (by decide) rfl
    have hK9 := hK.sub (tys' := [(gc 11, .int)]) [0] rfl
    refine W.widen (k := 0) (n := 0) (Nat.le_of_ble_eq_true rfl) (Nat.le_of_ble_eq_true rfl) ?_
    exact W.iret (v := (nI ow)) hx hb hr (fun t ht hW => ⟨⟨_, (0), rfl, ⟨trivial, (by rw [← hSP, s_M_state]; try (rw [if_neg (by rw [hs1]; decide)]); try (rw [if_neg (by rw [hs1]; decide)]); try (rw [if_neg (by rw [hs1]; decide)]); try (rw [if_neg (by rw [hs1]; decide)]); try (rw [if_pos hs1]); all_goals rfl)⟩, by rw [ht]; exact hP9, va_K.moved hW.alike hK9, hD9⟩, hS.F ht⟩) hS.2.2 d_M_state_94
  · refine lv_tableIn (off := 89) (tgt := 95) hx hb d_M_state_6 (by rw [hs1]; decide) (by rw [hs1]; decide) (by rw [hs1]; decide) rfl ?_
    refine lv_aload_n hx hb d_M_state_95 rfl (lv_at hl 0 rfl) ?_
    refine va_get (D := (dC, dI)) (ci := 6) (v := .int (nI cm)) (C := "VotedTripleModel") (T := F_M) (N := 37) hx hb hw in_M hown hK hP 0 rfl rfl 26 (by decide) (hw _ k_749) (fun _ h9 => h9) rfl d_M_state_96 ?_
    refine lv_aload_n hx hb d_M_state_99 rfl (lv_at hl 0 rfl) ?_
    refine va_get (D := (dC, dI)) (ci := 6) (v := .int (nI us)) (C := "VotedTripleModel") (T := F_M) (N := 37) hx hb hw in_M hown hK hP 0 rfl rfl 27 (by decide) (hw _ k_750) (fun _ h9 => h9) rfl d_M_state_100 ?_
    refine lv_isub hx hb d_M_state_103 ?_
    have hP9 := hP.sub (ws' := [(m0, .inr (6, oM ga (upc uM 0 0) cn sn cm us wt oc ou ow)), (ga 11, .inl (gc 11, 3, .inl a11))]) [0, 1] rfl
    have hD9 := hD.sub (ws' := [(m0, .inr (6, oM ga (upc uM 0 0) cn sn cm us wt oc ou ow)), (ga 11, .inl (gc 11, 3, .inl a11))]) [0, 1] (by decide) rfl
    have hK9 := hK.sub (tys' := [(gc 11, .int)]) [0] rfl
    refine W.widen (k := 0) (n := 0) (Nat.le_of_ble_eq_true rfl) (Nat.le_of_ble_eq_true rfl) ?_
    exact W.iret (v := ((nI cm) - (nI us))) hx hb hr (fun t ht hW => ⟨⟨_, (0), rfl, ⟨trivial, (by rw [← hSP, s_M_state]; try (rw [if_neg (by rw [hs1]; decide)]); try (rw [if_neg (by rw [hs1]; decide)]); try (rw [if_neg (by rw [hs1]; decide)]); try (rw [if_neg (by rw [hs1]; decide)]); try (rw [if_neg (by rw [hs1]; decide)]); try (rw [if_pos hs1]); all_goals rfl)⟩, by rw [ht]; exact hP9, va_K.moved hW.alike hK9, hD9⟩, hS.F ht⟩) hS.2.2 d_M_state_104
  · refine lv_tableIn (off := 99) (tgt := 105) hx hb d_M_state_6 (by rw [hs1]; decide) (by rw [hs1]; decide) (by rw [hs1]; decide) rfl ?_
    refine lv_aload_n hx hb d_M_state_105 rfl (lv_at hl 0 rfl) ?_
    refine va_get (D := (dC, dI)) (ci := 6) (v := .int (uM 5)) (C := "VotedTripleModel") (T := F_M) (N := 37) hx hb hw in_M hown hK hP 0 rfl rfl 5 (by decide) (hw _ k_729) (fun _ h9 => h9) rfl d_M_state_106 ?_
    refine lv_if_eq (tgt := 116) hx hb d_M_state_109 rfl (fun hc6 => ?_) (fun hc6 => ?_)
    · --  (uM 5) = 0
      refine lv_iconst (v := 0) hx hb d_M_state_116 (by decide) ?_
      have hP9 := hP.sub (ws' := [(m0, .inr (6, oM ga (upc uM 0 0) cn sn cm us wt oc ou ow)), (ga 11, .inl (gc 11, 3, .inl a11))]) [0, 1] rfl
      have hD9 := hD.sub (ws' := [(m0, .inr (6, oM ga (upc uM 0 0) cn sn cm us wt oc ou ow)), (ga 11, .inl (gc 11, 3, .inl a11))]) [0, 1] (by decide) rfl
      have hK9 := hK.sub (tys' := [(gc 11, .int)]) [0] rfl
      refine W.widen (k := 0) (n := 0) (Nat.le_of_ble_eq_true rfl) (Nat.le_of_ble_eq_true rfl) ?_
      exact W.iret (v := 0) hx hb hr (fun t ht hW => ⟨⟨_, (0), rfl, ⟨trivial, (by rw [← hSP, s_M_state]; try (rw [if_neg (by rw [hs1]; decide)]); try (rw [if_neg (by rw [hs1]; decide)]); try (rw [if_neg (by rw [hs1]; decide)]); try (rw [if_neg (by rw [hs1]; decide)]); try (rw [if_neg (by rw [hs1]; decide)]); try (rw [if_neg (by rw [hs1]; decide)]); try (rw [if_pos hs1]); try (rw [if_pos hc6]); all_goals rfl)⟩, by rw [ht]; exact hP9, va_K.moved hW.alike hK9, hD9⟩, hS.F ht⟩) hS.2.2 d_M_state_117
    · --  ¬ (uM 5) = 0
      refine lv_iconst (v := 1) hx hb d_M_state_112 (by decide) ?_
      refine lv_goto (tgt := 117) hx hb d_M_state_113 rfl ?_
      have hP9 := hP.sub (ws' := [(m0, .inr (6, oM ga (upc uM 0 0) cn sn cm us wt oc ou ow)), (ga 11, .inl (gc 11, 3, .inl a11))]) [0, 1] rfl
      have hD9 := hD.sub (ws' := [(m0, .inr (6, oM ga (upc uM 0 0) cn sn cm us wt oc ou ow)), (ga 11, .inl (gc 11, 3, .inl a11))]) [0, 1] (by decide) rfl
      have hK9 := hK.sub (tys' := [(gc 11, .int)]) [0] rfl
      refine W.widen (k := 0) (n := 0) (Nat.le_of_ble_eq_true rfl) (Nat.le_of_ble_eq_true rfl) ?_
      exact W.iret (v := 1) hx hb hr (fun t ht hW => ⟨⟨_, (0), rfl, ⟨trivial, (by rw [← hSP, s_M_state]; try (rw [if_neg (by rw [hs1]; decide)]); try (rw [if_neg (by rw [hs1]; decide)]); try (rw [if_neg (by rw [hs1]; decide)]); try (rw [if_neg (by rw [hs1]; decide)]); try (rw [if_neg (by rw [hs1]; decide)]); try (rw [if_neg (by rw [hs1]; decide)]); try (rw [if_pos hs1]); try (rw [if_neg hc6]); all_goals rfl)⟩, by rw [ht]; exact hP9, va_K.moved hW.alike hK9, hD9⟩, hS.F ht⟩) hS.2.2 d_M_state_117
  · refine lv_tableOut (tgt := 118) hx hb d_M_state_6 hs1 rfl ?_
    refine lv_iconst (v := (-1)) hx hb d_M_state_118 (by decide) ?_
    have hP9 := hP.sub (ws' := [(m0, .inr (6, oM ga (upc uM 0 0) cn sn cm us wt oc ou ow)), (ga 11, .inl (gc 11, 3, .inl a11))]) [0, 1] rfl
    have hD9 := hD.sub (ws' := [(m0, .inr (6, oM ga (upc uM 0 0) cn sn cm us wt oc ou ow)), (ga 11, .inl (gc 11, 3, .inl a11))]) [0, 1] (by decide) rfl
    have hK9 := hK.sub (tys' := [(gc 11, .int)]) [0] rfl
    refine W.widen (k := 0) (n := 0) (Nat.le_of_ble_eq_true rfl) (Nat.le_of_ble_eq_true rfl) ?_
    exact W.iret (v := (-1)) hx hb hr (fun t ht hW => ⟨⟨_, (0), rfl, ⟨trivial, (by rw [← hSP, s_M_state]; try (rw [if_neg (fun e9 => by rw [e9] at hs1; revert hs1; decide)]); try (rw [if_neg (fun e9 => by rw [e9] at hs1; revert hs1; decide)]); try (rw [if_neg (fun e9 => by rw [e9] at hs1; revert hs1; decide)]); try (rw [if_neg (fun e9 => by rw [e9] at hs1; revert hs1; decide)]); try (rw [if_neg (fun e9 => by rw [e9] at hs1; revert hs1; decide)]); try (rw [if_neg (fun e9 => by rw [e9] at hs1; revert hs1; decide)]); try (rw [if_neg (fun e9 => by rw [e9] at hs1; revert hs1; decide)]); all_goals rfl)⟩, by rw [ht]; exact hP9, va_K.moved hW.alike hK9, hD9⟩, hS.F ht⟩) hS.2.2 d_M_state_119
