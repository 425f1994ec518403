set_option maxHeartbeats 4000000 in
set_option maxRecDepth 100000 in
theorem c_M_blameAll (l : Launch) (dC : Nat → ClassId) (dI : Nat → Nat → Nat) (m0 : Nat) (ga : Nat → Nat) (gc : Nat → ClassId) (uM : Nat → Int32) (cn : Nat) (sn : Nat) (cm : Nat) (us : Nat) (wt : Nat) (oc : Nat) (ou : Nat) (ow : Nat) (a11 : Nat → Int32) (a12 : Nat → Int32) (a13 : Nat → Int32) (a17 : Nat → Int32) (a23 : Nat → Int32) (h12 : mk3 a11 a12) (sz : Nat) : Met l y_M_blameAll (tbw y_M_blameAll b_M_blameAll 2 (some .boolean)) ({ frames := 1, cells := 0, slots := 0, locals := 22 }) (va_Pc [.ref m0] (fun U => U.heap.size = sz ∧ va_P (dC, dI) classes [(m0, .inr (6, oM ga uM cn sn cm us wt oc ou ow)), (ga 11, .inl (gc 11, 3, .inl a11)), (ga 12, .inl (gc 12, 3, .inl a12)), (ga 13, .inl (gc 13, 3, .inl a13)), (ga 17, .inl (gc 17, 3, .inl a17)), (ga 23, .inl (gc 23, 3, .inl a23))] U.heap ∧ va_K (dC, dI) classes [(gc 11, .int), (gc 12, .int), (gc 13, .int), (gc 17, .int), (gc 23, .boolean)] U ∧ va_D (fun _ => True) [(m0, .inr (6, oM ga uM cn sn cm us wt oc ou ow)), (ga 11, .inl (gc 11, 3, .inl a11)), (ga 12, .inl (gc 12, 3, .inl a12)), (ga 13, .inl (gc 13, 3, .inl a13)), (ga 17, .inl (gc 17, 3, .inl a17)), (ga 23, .inl (gc 23, 3, .inl a23))])) (va_Qi (fun (r : Int32) (u9 : (Nat → Int32) × (Nat → Int32) × (Nat → Int32) × (Nat → Int32)) => match u9 with | (a11n, a12n, a13n, a17n) => (mk3 a11n a12n ∧ (¬ r = 0 → s3 a11n)) ∧ (r, a11n, a12n, a13n, a17n) = s_M_blameAll uM a11 a12 a13 a17 a23) (fun (u9 : (Nat → Int32) × (Nat → Int32) × (Nat → Int32) × (Nat → Int32)) t => match u9 with | (a11n, a12n, a13n, a17n) => va_P (dC, dI) classes [(m0, .inr (6, oM ga uM cn sn cm us wt oc ou ow)), (ga 11, .inl (gc 11, 3, .inl a11n)), (ga 12, .inl (gc 12, 3, .inl a12n)), (ga 13, .inl (gc 13, 3, .inl a13n)), (ga 17, .inl (gc 17, 3, .inl a17n)), (ga 23, .inl (gc 23, 3, .inl a23))] t.heap ∧ va_K (dC, dI) classes [(gc 11, .int), (gc 12, .int), (gc 13, .int), (gc 17, .int), (gc 23, .boolean)] t ∧ va_D (va_A [(m0, .inr (6, oM ga uM cn sn cm us wt oc ou ow)), (ga 11, .inl (gc 11, 3, .inl a11)), (ga 12, .inl (gc 12, 3, .inl a12)), (ga 13, .inl (gc 13, 3, .inl a13)), (ga 17, .inl (gc 17, 3, .inl a17)), (ga 23, .inl (gc 23, 3, .inl a23))] sz) [(m0, .inr (6, oM ga uM cn sn cm us wt oc ou ow)), (ga 11, .inl (gc 11, 3, .inl a11n)), (ga 12, .inl (gc 12, 3, .inl a12n)), (ga 13, .inl (gc 13, 3, .inl a13n)), (ga 17, .inl (gc 17, 3, .inl a17n)), (ga 23, .inl (gc 23, 3, .inl a23))]) (va_A [(m0, .inr (6, oM ga uM cn sn cm us wt oc ou ow)), (ga 11, .inl (gc 11, 3, .inl a11)), (ga 12, .inl (gc 12, 3, .inl a12)), (ga 13, .inl (gc 13, 3, .inl a13)), (ga 17, .inl (gc 17, 3, .inl a17)), (ga 23, .inl (gc 23, 3, .inl a23))] sz)) 0 0 (va_A [(m0, .inr (6, oM ga uM cn sn cm us wt oc ou ow)), (ga 11, .inl (gc 11, 3, .inl a11)), (ga 12, .inl (gc 12, 3, .inl a12)), (ga 13, .inl (gc 13, 3, .inl a13)), (ga 17, .inl (gc 17, 3, .inl a17)), (ga 23, .inl (gc 23, 3, .inl a23))] sz) := by
  refine Met.ofW (cc := b_M_blameAll) (maxL := 2) (ret := (some .boolean)) (by decide) rfl ?_
  intro p e s m args below meth c s₁ B hml hv
  obtain ⟨rfl, hsz, hP, hK, hD0⟩ := hv
  have hx := B.exec
  have hb := B.bytes
  have hr := B.returns
  have hts := atoms_spec (ws := (tbw y_M_blameAll b_M_blameAll 2 (some .boolean))) B.pre
  have hw : ∀ z9 ∈ tb, z9.before ([.ref m0] : List Value).toArray s = true := fun z9 h => hts z9 (List.mem_cons_of_mem _ h)
  have hown : s.vm.findClass "VotedTripleModel" = some m.cls := findClass_of_methodNamed B.named
  have hlocks := B.notSynchronized
  subst hsz
  replace hD := hD0.self (sz := s.heap.size)
  generalize hAe : va_A [(m0, .inr (6, oM ga uM cn sn cm us wt oc ou ow)), (ga 11, .inl (gc 11, 3, .inl a11)), (ga 12, .inl (gc 12, 3, .inl a12)), (ga 13, .inl (gc 13, 3, .inl a13)), (ga 17, .inl (gc 17, 3, .inl a17)), (ga 23, .inl (gc 23, 3, .inl a23))] s.heap.size = A at hD ⊢
  have hA : ∀ q : Nat, s.heap.size ≤ q → A q := fun q h => by rw [← hAe]; exact Or.inr h
  have hS : va_S A s.heap s.heap [] := va_S.rf
  replace hl := lv_entry ([.ref m0]) (n := 2) (Nat.le_of_ble_eq_true rfl)
  rw [lg_entry_eq]
  generalize (lg_sl ([.ref m0]) ++ List.replicate (2 - (lg_sl ([.ref m0])).length) Slot.unset).toArray = ls at hl ⊢
  replace hl : lv_has ls 2 [(0, .ref m0)] := hl
  generalize hSP : s_M_blameAll uM a11 a12 a13 a17 a23 = SP
  have cut2_3 : ∀ (a11 : Nat → Int32) (a12 : Nat → Int32) (a13 : Nat → Int32) (a17 : Nat → Int32) (ls : Array Slot) (H : Heap) (locs : List Loc), mk3 a11 a12 → SP = s_M_blameAll_cut2_3 uM a11 a12 a13 a17 →  lv_has ls 2 [(0, .ref m0), (1, .int 3)] → va_P (dC, dI) classes [(m0, .inr (6, oM ga uM cn sn cm us wt oc ou ow)), (ga 11, .inl (gc 11, 3, .inl a11)), (ga 12, .inl (gc 12, 3, .inl a12)), (ga 13, .inl (gc 13, 3, .inl a13)), (ga 17, .inl (gc 17, 3, .inl a17)), (ga 23, .inl (gc 23, 3, .inl a23))] H → va_D A [(m0, .inr (6, oM ga uM cn sn cm us wt oc ou ow)), (ga 11, .inl (gc 11, 3, .inl a11)), (ga 12, .inl (gc 12, 3, .inl a12)), (ga 13, .inl (gc 13, 3, .inl a13)), (ga 17, .inl (gc 17, 3, .inl a17)), (ga 23, .inl (gc 23, 3, .inl a23))] → va_S A s.heap H locs → W p l e (headSpec (tbw y_M_blameAll b_M_blameAll 2 (some .boolean)) ({ frames := 1, cells := 0, slots := 0, locals := 22 })).room s m ([.ref m0] : List Value).toArray below meth c H locs 0 0 (MQ below (va_Qi (fun (r : Int32) (u9 : (Nat → Int32) × (Nat → Int32) × (Nat → Int32) × (Nat → Int32)) => match u9 with | (a11n, a12n, a13n, a17n) => (mk3 a11n a12n ∧ (¬ r = 0 → s3 a11n)) ∧ (r, a11n, a12n, a13n, a17n) = SP) (fun (u9 : (Nat → Int32) × (Nat → Int32) × (Nat → Int32) × (Nat → Int32)) t => match u9 with | (a11n, a12n, a13n, a17n) => va_P (dC, dI) classes [(m0, .inr (6, oM ga uM cn sn cm us wt oc ou ow)), (ga 11, .inl (gc 11, 3, .inl a11n)), (ga 12, .inl (gc 12, 3, .inl a12n)), (ga 13, .inl (gc 13, 3, .inl a13n)), (ga 17, .inl (gc 17, 3, .inl a17n)), (ga 23, .inl (gc 23, 3, .inl a23))] t.heap ∧ va_K (dC, dI) classes [(gc 11, .int), (gc 12, .int), (gc 13, .int), (gc 17, .int), (gc 23, .boolean)] t ∧ va_D A [(m0, .inr (6, oM ga uM cn sn cm us wt oc ou ow)), (ga 11, .inl (gc 11, 3, .inl a11n)), (ga 12, .inl (gc 12, 3, .inl a12n)), (ga 13, .inl (gc 13, 3, .inl a13n)), (ga 17, .inl (gc 17, 3, .inl a17n)), (ga 23, .inl (gc 23, 3, .inl a23))]) A) ([.ref m0] : List Value).toArray s 0 0 A) (F0 m 2 ls []) := by
    intro a11 a12 a13 a17 ls H locs h12 hSq0 hl hP hD hS
    refine lv_iload_n hx hb d_M_blameAll_2 rfl (lv_at hl 1 rfl) ?_
    refine lv_iconst (v := 3) hx hb d_M_blameAll_3 (by decide) ?_
    refine lv_icmp_ge (tgt := 75) hx hb d_M_blameAll_4 rfl (fun hc1 => ?_) (fun hc1 => by first | exact absurd (by decide) hc1 | exact absurd hc1 (by decide))
    refine lv_aload_n hx hb d_M_blameAll_75 rfl (lv_at hl 0 rfl) ?_
    replace hPc := hP.sub (ws' := [(m0, .inr (6, oM ga uM cn sn cm us wt oc ou ow)), (ga 11, .inl (gc 11, 3, .inl a11))]) [0, 1] rfl
    replace hKc := hK.sub (tys' := [(gc 11, .int)]) [0] rfl
    refine vp_callSi (va_runV (C := "VotedTripleModel") (As := []) (rest := []) ⟨hx, hb, hml, hown, hw⟩ (c_M_inStep l dC dI m0 ga gc uM cn sn cm us wt oc ou ow a11) (cwV 0 hw (gdV (k_939) (k_936) (k_938) (ks_37) (k_8)) rfl rfl rfl (by decide +kernel) ⟨Nat.le_of_ble_eq_true rfl, Nat.le_of_ble_eq_true rfl⟩) ⟨fun a U g mk q => ⟨q.1, q.2.1, va_K.moved (u := U) (U := U.calling g mk a) (Vm.Alike.refl U.vm) q.2.2⟩, va_recv hK hP rfl (q0 := 0) rfl, fun U hU hW => ⟨rfl, by rw [hU]; exact hPc, va_K.moved hW.alike hKc⟩⟩ rfl rfl hl.1 rfl (lv_room (Nat.le_of_ble_eq_true rfl)) d_M_blameAll_76 ⟨Nat.le_of_ble_eq_true rfl, Nat.le_of_ble_eq_true rfl⟩).run (fun r2 hr3 => ?_)
    subst hr3
    refine lv_istore_n hx hb d_M_blameAll_79 rfl hl (by decide) rfl (fun ls hl => ?_)
    replace hl : lv_has ls 2 [(1, .int (cn3 a11)), (0, .ref m0)] := hl
    refine lv_iload_n hx hb d_M_blameAll_80 rfl (lv_at hl 0 rfl) ?_
    refine lv_iconst (v := 1) hx hb d_M_blameAll_81 (by decide) ?_
    refine lv_icmp_gt (tgt := 97) hx hb d_M_blameAll_82 rfl (fun hc4 => ?_) (fun hc4 => ?_)
    · --  1 < (cn3 a11)
      refine lv_iconst (v := 1) hx hb d_M_blameAll_97 (by decide) ?_
      refine lv_goto (tgt := 102) hx hb d_M_blameAll_98 rfl ?_
      have hP9 := hP.sub (ws' := [(m0, .inr (6, oM ga uM cn sn cm us wt oc ou ow)), (ga 11, .inl (gc 11, 3, .inl a11)), (ga 12, .inl (gc 12, 3, .inl a12)), (ga 13, .inl (gc 13, 3, .inl a13)), (ga 17, .inl (gc 17, 3, .inl a17)), (ga 23, .inl (gc 23, 3, .inl a23))]) [0, 1, 2, 3, 4, 5] rfl
      have hD9 := hD.sub (ws' := [(m0, .inr (6, oM ga uM cn sn cm us wt oc ou ow)), (ga 11, .inl (gc 11, 3, .inl a11)), (ga 12, .inl (gc 12, 3, .inl a12)), (ga 13, .inl (gc 13, 3, .inl a13)), (ga 17, .inl (gc 17, 3, .inl a17)), (ga 23, .inl (gc 23, 3, .inl a23))]) [0, 1, 2, 3, 4, 5] (by decide) rfl
      have hK9 := hK.sub (tys' := [(gc 11, .int), (gc 12, .int), (gc 13, .int), (gc 17, .int), (gc 23, .boolean)]) [0, 1, 2, 3, 4] rfl
      refine W.widen (k := 0) (n := 0) (Nat.le_of_ble_eq_true rfl) (Nat.le_of_ble_eq_true rfl) ?_
      exact W.zret (v := 1) (ty := .boolean) hx hb hr rfl (fun t ht hW => ⟨⟨_, (a11, a12, a13, a17), rfl, ⟨⟨(by repeat' first | assumption | apply mk3_n), (fun _ => s3_1 hc4)⟩, (by rw [hSq0, s_M_blameAll_cut2_3]; try (rw [if_pos hc4]); all_goals rfl)⟩, by rw [ht]; exact hP9, va_K.moved hW.alike hK9, hD9⟩, hS.F ht⟩) hS.2.2 d_M_blameAll_102
    · --  ¬ 1 < (cn3 a11)
      refine lv_iload_n hx hb d_M_blameAll_85 rfl (lv_at hl 0 rfl) ?_
      refine lv_iconst (v := 1) hx hb d_M_blameAll_86 (by decide) ?_
      refine lv_icmp_ne (tgt := 101) hx hb d_M_blameAll_87 rfl (fun hc5 => ?_) (fun hc5 => ?_)
      · --  ¬ (cn3 a11) = 1
        refine lv_iconst (v := 0) hx hb d_M_blameAll_101 (by decide) ?_
        have hP9 := hP.sub (ws' := [(m0, .inr (6, oM ga uM cn sn cm us wt oc ou ow)), (ga 11, .inl (gc 11, 3, .inl a11)), (ga 12, .inl (gc 12, 3, .inl a12)), (ga 13, .inl (gc 13, 3, .inl a13)), (ga 17, .inl (gc 17, 3, .inl a17)), (ga 23, .inl (gc 23, 3, .inl a23))]) [0, 1, 2, 3, 4, 5] rfl
        have hD9 := hD.sub (ws' := [(m0, .inr (6, oM ga uM cn sn cm us wt oc ou ow)), (ga 11, .inl (gc 11, 3, .inl a11)), (ga 12, .inl (gc 12, 3, .inl a12)), (ga 13, .inl (gc 13, 3, .inl a13)), (ga 17, .inl (gc 17, 3, .inl a17)), (ga 23, .inl (gc 23, 3, .inl a23))]) [0, 1, 2, 3, 4, 5] (by decide) rfl
        have hK9 := hK.sub (tys' := [(gc 11, .int), (gc 12, .int), (gc 13, .int), (gc 17, .int), (gc 23, .boolean)]) [0, 1, 2, 3, 4] rfl
        refine W.widen (k := 0) (n := 0) (Nat.le_of_ble_eq_true rfl) (Nat.le_of_ble_eq_true rfl) ?_
        exact W.zret (v := 0) (ty := .boolean) hx hb hr rfl (fun t ht hW => ⟨⟨_, (a11, a12, a13, a17), rfl, ⟨⟨(by repeat' first | assumption | apply mk3_n), (fun q => absurd rfl q)⟩, (by rw [hSq0, s_M_blameAll_cut2_3]; try (rw [if_neg hc4]); try (rw [if_neg hc5]); all_goals rfl)⟩, by rw [ht]; exact hP9, va_K.moved hW.alike hK9, hD9⟩, hS.F ht⟩) hS.2.2 d_M_blameAll_102
      · --  (cn3 a11) = 1
        refine lv_aload_n hx hb d_M_blameAll_90 rfl (lv_at hl 1 rfl) ?_
        refine va_get (D := (dC, dI)) (ci := 6) (v := .int (uM 5)) (C := "VotedTripleModel") (T := F_M) (N := 37) hx hb hw in_M hown hK hP 0 rfl rfl 5 (by decide) (hw _ k_729) (fun _ h9 => h9) rfl d_M_blameAll_91 ?_
        refine lv_if_eq (tgt := 101) hx hb d_M_blameAll_94 rfl (fun hc6 => ?_) (fun hc6 => ?_)
        · --  (uM 5) = 0
          refine lv_iconst (v := 0) hx hb d_M_blameAll_101 (by decide) ?_
          have hP9 := hP.sub (ws' := [(m0, .inr (6, oM ga uM cn sn cm us wt oc ou ow)), (ga 11, .inl (gc 11, 3, .inl a11)), (ga 12, .inl (gc 12, 3, .inl a12)), (ga 13, .inl (gc 13, 3, .inl a13)), (ga 17, .inl (gc 17, 3, .inl a17)), (ga 23, .inl (gc 23, 3, .inl a23))]) [0, 1, 2, 3, 4, 5] rfl
          have hD9 := hD.sub (ws' := [(m0, .inr (6, oM ga uM cn sn cm us wt oc ou ow)), (ga 11, .inl (gc 11, 3, .inl a11)), (ga 12, .inl (gc 12, 3, .inl a12)), (ga 13, .inl (gc 13, 3, .inl a13)), (ga 17, .inl (gc 17, 3, .inl a17)), (ga 23, .inl (gc 23, 3, .inl a23))]) [0, 1, 2, 3, 4, 5] (by decide) rfl
          have hK9 := hK.sub (tys' := [(gc 11, .int), (gc 12, .int), (gc 13, .int), (gc 17, .int), (gc 23, .boolean)]) [0, 1, 2, 3, 4] rfl
          refine W.widen (k := 0) (n := 0) (Nat.le_of_ble_eq_true rfl) (Nat.le_of_ble_eq_true rfl) ?_
          exact W.zret (v := 0) (ty := .boolean) hx hb hr rfl (fun t ht hW => ⟨⟨_, (a11, a12, a13, a17), rfl, ⟨⟨(by repeat' first | assumption | apply mk3_n), (fun q => absurd rfl q)⟩, (by rw [hSq0, s_M_blameAll_cut2_3]; try (rw [if_neg hc4]); try (rw [if_pos hc5]); try (rw [if_pos hc6]); all_goals rfl)⟩, by rw [ht]; exact hP9, va_K.moved hW.alike hK9, hD9⟩, hS.F ht⟩) hS.2.2 d_M_blameAll_102
        · --  ¬ (uM 5) = 0
          refine lv_iconst (v := 1) hx hb d_M_blameAll_97 (by decide) ?_
          refine lv_goto (tgt := 102) hx hb d_M_blameAll_98 rfl ?_
          have hP9 := hP.sub (ws' := [(m0, .inr (6, oM ga uM cn sn cm us wt oc ou ow)), (ga 11, .inl (gc 11, 3, .inl a11)), (ga 12, .inl (gc 12, 3, .inl a12)), (ga 13, .inl (gc 13, 3, .inl a13)), (ga 17, .inl (gc 17, 3, .inl a17)), (ga 23, .inl (gc 23, 3, .inl a23))]) [0, 1, 2, 3, 4, 5] rfl
          have hD9 := hD.sub (ws' := [(m0, .inr (6, oM ga uM cn sn cm us wt oc ou ow)), (ga 11, .inl (gc 11, 3, .inl a11)), (ga 12, .inl (gc 12, 3, .inl a12)), (ga 13, .inl (gc 13, 3, .inl a13)), (ga 17, .inl (gc 17, 3, .inl a17)), (ga 23, .inl (gc 23, 3, .inl a23))]) [0, 1, 2, 3, 4, 5] (by decide) rfl
          have hK9 := hK.sub (tys' := [(gc 11, .int), (gc 12, .int), (gc 13, .int), (gc 17, .int), (gc 23, .boolean)]) [0, 1, 2, 3, 4] rfl
          refine W.widen (k := 0) (n := 0) (Nat.le_of_ble_eq_true rfl) (Nat.le_of_ble_eq_true rfl) ?_
          exact W.zret (v := 1) (ty := .boolean) hx hb hr rfl (fun t ht hW => ⟨⟨_, (a11, a12, a13, a17), rfl, ⟨⟨(by repeat' first | assumption | apply mk3_n), (fun _ => s3_2 hc5)⟩, (by rw [hSq0, s_M_blameAll_cut2_3]; try (rw [if_neg hc4]); try (rw [if_pos hc5]); try (rw [if_neg hc6]); all_goals rfl)⟩, by rw [ht]; exact hP9, va_K.moved hW.alike hK9, hD9⟩, hS.F ht⟩) hS.2.2 d_M_blameAll_102
  have cut2_2 : ∀ (a11 : Nat → Int32) (a12 : Nat → Int32) (a13 : Nat → Int32) (a17 : Nat → Int32) (ls : Array Slot) (H : Heap) (locs : List Loc), mk3 a11 a12 → SP = s_M_blameAll_cut2_2 uM a23 a11 a12 a13 a17 →  lv_has ls 2 [(0, .ref m0), (1, .int 2)] → va_P (dC, dI) classes [(m0, .inr (6, oM ga uM cn sn cm us wt oc ou ow)), (ga 11, .inl (gc 11, 3, .inl a11)), (ga 12, .inl (gc 12, 3, .inl a12)), (ga 13, .inl (gc 13, 3, .inl a13)), (ga 17, .inl (gc 17, 3, .inl a17)), (ga 23, .inl (gc 23, 3, .inl a23))] H → va_D A [(m0, .inr (6, oM ga uM cn sn cm us wt oc ou ow)), (ga 11, .inl (gc 11, 3, .inl a11)), (ga 12, .inl (gc 12, 3, .inl a12)), (ga 13, .inl (gc 13, 3, .inl a13)), (ga 17, .inl (gc 17, 3, .inl a17)), (ga 23, .inl (gc 23, 3, .inl a23))] → va_S A s.heap H locs → W p l e (headSpec (tbw y_M_blameAll b_M_blameAll 2 (some .boolean)) ({ frames := 1, cells := 0, slots := 0, locals := 22 })).room s m ([.ref m0] : List Value).toArray below meth c H locs 0 0 (MQ below (va_Qi (fun (r : Int32) (u9 : (Nat → Int32) × (Nat → Int32) × (Nat → Int32) × (Nat → Int32)) => match u9 with | (a11n, a12n, a13n, a17n) => (mk3 a11n a12n ∧ (¬ r = 0 → s3 a11n)) ∧ (r, a11n, a12n, a13n, a17n) = SP) (fun (u9 : (Nat → Int32) × (Nat → Int32) × (Nat → Int32) × (Nat → Int32)) t => match u9 with | (a11n, a12n, a13n, a17n) => va_P (dC, dI) classes [(m0, .inr (6, oM ga uM cn sn cm us wt oc ou ow)), (ga 11, .inl (gc 11, 3, .inl a11n)), (ga 12, .inl (gc 12, 3, .inl a12n)), (ga 13, .inl (gc 13, 3, .inl a13n)), (ga 17, .inl (gc 17, 3, .inl a17n)), (ga 23, .inl (gc 23, 3, .inl a23))] t.heap ∧ va_K (dC, dI) classes [(gc 11, .int), (gc 12, .int), (gc 13, .int), (gc 17, .int), (gc 23, .boolean)] t ∧ va_D A [(m0, .inr (6, oM ga uM cn sn cm us wt oc ou ow)), (ga 11, .inl (gc 11, 3, .inl a11n)), (ga 12, .inl (gc 12, 3, .inl a12n)), (ga 13, .inl (gc 13, 3, .inl a13n)), (ga 17, .inl (gc 17, 3, .inl a17n)), (ga 23, .inl (gc 23, 3, .inl a23))]) A) ([.ref m0] : List Value).toArray s 0 0 A) (F0 m 2 ls []) := by
    intro a11 a12 a13 a17 ls H locs h12 hSq0 hl hP hD hS
    refine lv_iload_n hx hb d_M_blameAll_2 rfl (lv_at hl 1 rfl) ?_
    refine lv_iconst (v := 3) hx hb d_M_blameAll_3 (by decide) ?_
    refine lv_icmp_ge (tgt := 75) hx hb d_M_blameAll_4 rfl (fun hc7 => by first | exact absurd hc7 (by decide) | exact absurd (by decide) hc7) (fun hc7 => ?_)
    refine lv_aload_n hx hb d_M_blameAll_7 rfl (lv_at hl 0 rfl) ?_
    refine va_get (D := (dC, dI)) (ci := 6) (v := .ref (ga 23)) (C := "VotedTripleModel") (T := F_M) (N := 37) hx hb hw in_M hown hK hP 0 rfl rfl 23 (by decide) (hw _ k_747) (fun _ h9 => h9) rfl d_M_blameAll_8 ?_
    refine lv_iload_n hx hb d_M_blameAll_11 rfl (lv_at hl 1 rfl) ?_
    refine va_zald hx hb hK hP 5 4 rfl rfl (by unfold vp_in; decide) d_M_blameAll_12 ?_
    refine W.eq (g2 := F0 m 13 ls [.int (a23 2)]) rfl ?_
    refine lv_if_ne (tgt := 19) hx hb d_M_blameAll_13 rfl (fun hc8 => ?_) (fun hc8 => ?_)
    · --  ¬ (a23 2) = 0
      refine lv_aload_n hx hb d_M_blameAll_19 rfl (lv_at hl 0 rfl) ?_
      refine va_get (D := (dC, dI)) (ci := 6) (v := .ref (ga 17)) (C := "VotedTripleModel") (T := F_M) (N := 37) hx hb hw in_M hown hK hP 0 rfl rfl 17 (by decide) (hw _ k_741) (fun _ h9 => h9) rfl d_M_blameAll_20 ?_
      refine lv_iload_n hx hb d_M_blameAll_23 rfl (lv_at hl 1 rfl) ?_
      refine lv_dup2_11 hx hb d_M_blameAll_24 rfl rfl ?_
      refine va_iald hx hb hK hP 4 3 rfl rfl (by unfold vp_in; decide) d_M_blameAll_25 ?_
      refine W.eq (g2 := F0 m 26 ls [.int (a17 2), .int 2, .ref (ga 17)]) rfl ?_
      refine lv_iconst (v := 1) hx hb d_M_blameAll_26 (by decide) ?_
      refine lv_iadd hx hb d_M_blameAll_27 ?_
      refine va_iast hx hb hK hP hD hS 4 3 rfl rfl (by unfold vp_in; decide) d_M_blameAll_28 (fun H locs hP hD hS => ?_)
      replace hP : va_P (dC, dI) classes [(m0, .inr (6, oM ga uM cn sn cm us wt oc ou ow)), (ga 11, .inl (gc 11, 3, .inl a11)), (ga 12, .inl (gc 12, 3, .inl a12)), (ga 13, .inl (gc 13, 3, .inl a13)), (ga 17, .inl (gc 17, 3, .inl (upd a17 2 ((a17 2) + (1 : Int32))))), (ga 23, .inl (gc 23, 3, .inl a23))] H := hP
      replace hD : va_D A [(m0, .inr (6, oM ga uM cn sn cm us wt oc ou ow)), (ga 11, .inl (gc 11, 3, .inl a11)), (ga 12, .inl (gc 12, 3, .inl a12)), (ga 13, .inl (gc 13, 3, .inl a13)), (ga 17, .inl (gc 17, 3, .inl (upd a17 2 ((a17 2) + (1 : Int32))))), (ga 23, .inl (gc 23, 3, .inl a23))] := hD
      refine lv_aload_n hx hb d_M_blameAll_29 rfl (lv_at hl 0 rfl) ?_
      refine va_get (D := (dC, dI)) (ci := 6) (v := .ref (ga 13)) (C := "VotedTripleModel") (T := F_M) (N := 37) hx hb hw in_M hown hK hP 0 rfl rfl 13 (by decide) (hw _ k_737) (fun _ h9 => h9) rfl d_M_blameAll_30 ?_
      refine lv_iload_n hx hb d_M_blameAll_33 rfl (lv_at hl 1 rfl) ?_
      refine lv_dup2_11 hx hb d_M_blameAll_34 rfl rfl ?_
      refine va_iald hx hb hK hP 3 2 rfl rfl (by unfold vp_in; decide) d_M_blameAll_35 ?_
      refine W.eq (g2 := F0 m 36 ls [.int (a13 2), .int 2, .ref (ga 13)]) rfl ?_
      refine lv_bipush (v := 20) hx hb d_M_blameAll_36 (by decide) ?_
      refine lv_iadd hx hb d_M_blameAll_38 ?_
      refine va_iast hx hb hK hP hD hS 3 2 rfl rfl (by unfold vp_in; decide) d_M_blameAll_39 (fun H locs hP hD hS => ?_)
      replace hP : va_P (dC, dI) classes [(m0, .inr (6, oM ga uM cn sn cm us wt oc ou ow)), (ga 11, .inl (gc 11, 3, .inl a11)), (ga 12, .inl (gc 12, 3, .inl a12)), (ga 13, .inl (gc 13, 3, .inl (upd a13 2 ((a13 2) + (20 : Int32))))), (ga 17, .inl (gc 17, 3, .inl (upd a17 2 ((a17 2) + (1 : Int32))))), (ga 23, .inl (gc 23, 3, .inl a23))] H := hP
      replace hD : va_D A [(m0, .inr (6, oM ga uM cn sn cm us wt oc ou ow)), (ga 11, .inl (gc 11, 3, .inl a11)), (ga 12, .inl (gc 12, 3, .inl a12)), (ga 13, .inl (gc 13, 3, .inl (upd a13 2 ((a13 2) + (20 : Int32))))), (ga 17, .inl (gc 17, 3, .inl (upd a17 2 ((a17 2) + (1 : Int32))))), (ga 23, .inl (gc 23, 3, .inl a23))] := hD
      refine lv_aload_n hx hb d_M_blameAll_40 rfl (lv_at hl 0 rfl) ?_
      refine va_get (D := (dC, dI)) (ci := 6) (v := .ref (ga 11)) (C := "VotedTripleModel") (T := F_M) (N := 37) hx hb hw in_M hown hK hP 0 rfl rfl 11 (by decide) (hw _ k_735) (fun _ h9 => h9) rfl d_M_blameAll_41 ?_
      refine lv_iload_n hx hb d_M_blameAll_44 rfl (lv_at hl 1 rfl) ?_
      refine lv_aload_n hx hb d_M_blameAll_45 rfl (lv_at hl 0 rfl) ?_
      refine va_get (D := (dC, dI)) (ci := 6) (v := .ref (ga 13)) (C := "VotedTripleModel") (T := F_M) (N := 37) hx hb hw in_M hown hK hP 0 rfl rfl 13 (by decide) (hw _ k_737) (fun _ h9 => h9) rfl d_M_blameAll_46 ?_
      refine lv_iload_n hx hb d_M_blameAll_49 rfl (lv_at hl 1 rfl) ?_
      refine va_iald hx hb hK hP 3 2 rfl rfl (by unfold vp_in; decide) d_M_blameAll_50 ?_
      refine W.eq (g2 := F0 m 51 ls [.int ((upd a13 2 ((a13 2) + (20 : Int32))) 2), .int 2, .ref (ga 11)]) rfl ?_
      refine lv_bipush (v := 50) hx hb d_M_blameAll_51 (by decide) ?_
      refine lv_icmp_lt (tgt := 60) hx hb d_M_blameAll_53 rfl (fun hc9 => ?_) (fun hc9 => ?_)
      · --  ((upd a13 2 ((a13 2) + (20 : Int32))) 2) < 50
        refine lv_iconst (v := 1) hx hb d_M_blameAll_60 (by decide) ?_
        refine va_iast hx hb hK hP hD hS 1 0 rfl rfl (by unfold vp_in; decide) d_M_blameAll_61 (fun H locs hP hD hS => ?_)
        replace hP : va_P (dC, dI) classes [(m0, .inr (6, oM ga uM cn sn cm us wt oc ou ow)), (ga 11, .inl (gc 11, 3, .inl (upd a11 2 (1 : Int32)))), (ga 12, .inl (gc 12, 3, .inl a12)), (ga 13, .inl (gc 13, 3, .inl (upd a13 2 ((a13 2) + (20 : Int32))))), (ga 17, .inl (gc 17, 3, .inl (upd a17 2 ((a17 2) + (1 : Int32))))), (ga 23, .inl (gc 23, 3, .inl a23))] H := hP
        replace hD : va_D A [(m0, .inr (6, oM ga uM cn sn cm us wt oc ou ow)), (ga 11, .inl (gc 11, 3, .inl (upd a11 2 (1 : Int32)))), (ga 12, .inl (gc 12, 3, .inl a12)), (ga 13, .inl (gc 13, 3, .inl (upd a13 2 ((a13 2) + (20 : Int32))))), (ga 17, .inl (gc 17, 3, .inl (upd a17 2 ((a17 2) + (1 : Int32))))), (ga 23, .inl (gc 23, 3, .inl a23))] := hD
        refine lv_aload_n hx hb d_M_blameAll_62 rfl (lv_at hl 0 rfl) ?_
        refine va_get (D := (dC, dI)) (ci := 6) (v := .ref (ga 12)) (C := "VotedTripleModel") (T := F_M) (N := 37) hx hb hw in_M hown hK hP 0 rfl rfl 12 (by decide) (hw _ k_736) (fun _ h9 => h9) rfl d_M_blameAll_63 ?_
        refine lv_iload_n hx hb d_M_blameAll_66 rfl (lv_at hl 1 rfl) ?_
        refine lv_iconst (v := 0) hx hb d_M_blameAll_67 (by decide) ?_
        refine va_iast hx hb hK hP hD hS 2 1 rfl rfl (by unfold vp_in; decide) d_M_blameAll_68 (fun H locs hP hD hS => ?_)
        replace hP : va_P (dC, dI) classes [(m0, .inr (6, oM ga uM cn sn cm us wt oc ou ow)), (ga 11, .inl (gc 11, 3, .inl (upd a11 2 (1 : Int32)))), (ga 12, .inl (gc 12, 3, .inl (upd a12 2 (0 : Int32)))), (ga 13, .inl (gc 13, 3, .inl (upd a13 2 ((a13 2) + (20 : Int32))))), (ga 17, .inl (gc 17, 3, .inl (upd a17 2 ((a17 2) + (1 : Int32))))), (ga 23, .inl (gc 23, 3, .inl a23))] H := hP
        replace hD : va_D A [(m0, .inr (6, oM ga uM cn sn cm us wt oc ou ow)), (ga 11, .inl (gc 11, 3, .inl (upd a11 2 (1 : Int32)))), (ga 12, .inl (gc 12, 3, .inl (upd a12 2 (0 : Int32)))), (ga 13, .inl (gc 13, 3, .inl (upd a13 2 ((a13 2) + (20 : Int32))))), (ga 17, .inl (gc 17, 3, .inl (upd a17 2 ((a17 2) + (1 : Int32))))), (ga 23, .inl (gc 23, 3, .inl a23))] := hD
        refine lv_iinc (k := 1) (v := 3) hx hb d_M_blameAll_69 hl rfl rfl (by decide) rfl (fun ls hl => ?_)
        replace hl : lv_has ls 2 [(1, .int 3), (0, .ref m0)] := hl
        refine lv_goto (tgt := 2) hx hb d_M_blameAll_72 rfl ?_
        have hSq : SP = s_M_blameAll_cut2_3 uM (upd a11 2 (1 : Int32)) (upd a12 2 (0 : Int32)) (upd a13 2 ((a13 2) + (20 : Int32))) (upd a17 2 ((a17 2) + (1 : Int32))) := by rw [hSq0, s_M_blameAll_cut2_2]; try (rw [if_neg hc8]); try (rw [if_pos hc9]); all_goals rfl
        replace hl := lv_sub hl (l' := [(0, .ref m0), (1, .int 3)]) [1, 0] rfl
        replace hP := hP.sub (ws' := [(m0, .inr (6, oM ga uM cn sn cm us wt oc ou ow)), (ga 11, .inl (gc 11, 3, .inl (upd a11 2 (1 : Int32)))), (ga 12, .inl (gc 12, 3, .inl (upd a12 2 (0 : Int32)))), (ga 13, .inl (gc 13, 3, .inl (upd a13 2 ((a13 2) + (20 : Int32))))), (ga 17, .inl (gc 17, 3, .inl (upd a17 2 ((a17 2) + (1 : Int32))))), (ga 23, .inl (gc 23, 3, .inl a23))]) [0, 1, 2, 3, 4, 5] rfl
        replace hD := hD.sub (ws' := [(m0, .inr (6, oM ga uM cn sn cm us wt oc ou ow)), (ga 11, .inl (gc 11, 3, .inl (upd a11 2 (1 : Int32)))), (ga 12, .inl (gc 12, 3, .inl (upd a12 2 (0 : Int32)))), (ga 13, .inl (gc 13, 3, .inl (upd a13 2 ((a13 2) + (20 : Int32))))), (ga 17, .inl (gc 17, 3, .inl (upd a17 2 ((a17 2) + (1 : Int32))))), (ga 23, .inl (gc 23, 3, .inl a23))]) [0, 1, 2, 3, 4, 5] (by decide) rfl
        exact cut2_3 (upd a11 2 (1 : Int32)) (upd a12 2 (0 : Int32)) (upd a13 2 ((a13 2) + (20 : Int32))) (upd a17 2 ((a17 2) + (1 : Int32))) _ _ _ (by repeat' first | assumption | apply mk3_n) hSq hl hP hD hS
      · --  ¬ ((upd a13 2 ((a13 2) + (20 : Int32))) 2) < 50
        refine lv_iconst (v := 2) hx hb d_M_blameAll_56 (by decide) ?_
        refine lv_goto (tgt := 61) hx hb d_M_blameAll_57 rfl ?_
        refine va_iast hx hb hK hP hD hS 1 0 rfl rfl (by unfold vp_in; decide) d_M_blameAll_61 (fun H locs hP hD hS => ?_)
        replace hP : va_P (dC, dI) classes [(m0, .inr (6, oM ga uM cn sn cm us wt oc ou ow)), (ga 11, .inl (gc 11, 3, .inl (upd a11 2 (2 : Int32)))), (ga 12, .inl (gc 12, 3, .inl a12)), (ga 13, .inl (gc 13, 3, .inl (upd a13 2 ((a13 2) + (20 : Int32))))), (ga 17, .inl (gc 17, 3, .inl (upd a17 2 ((a17 2) + (1 : Int32))))), (ga 23, .inl (gc 23, 3, .inl a23))] H := hP
        replace hD : va_D A [(m0, .inr (6, oM ga uM cn sn cm us wt oc ou ow)), (ga 11, .inl (gc 11, 3, .inl (upd a11 2 (2 : Int32)))), (ga 12, .inl (gc 12, 3, .inl a12)), (ga 13, .inl (gc 13, 3, .inl (upd a13 2 ((a13 2) + (20 : Int32))))), (ga 17, .inl (gc 17, 3, .inl (upd a17 2 ((a17 2) + (1 : Int32))))), (ga 23, .inl (gc 23, 3, .inl a23))] := hD
        refine lv_aload_n hx hb d_M_blameAll_62 rfl (lv_at hl 0 rfl) ?_
        refine va_get (D := (dC, dI)) (ci := 6) (v := .ref (ga 12)) (C := "VotedTripleModel") (T := F_M) (N := 37) hx hb hw in_M hown hK hP 0 rfl rfl 12 (by decide) (hw _ k_736) (fun _ h9 => h9) rfl d_M_blameAll_63 ?_
        refine lv_iload_n hx hb d_M_blameAll_66 rfl (lv_at hl 1 rfl) ?_
        refine lv_iconst (v := 0) hx hb d_M_blameAll_67 (by decide) ?_
        refine va_iast hx hb hK hP hD hS 2 1 rfl rfl (by unfold vp_in; decide) d_M_blameAll_68 (fun H locs hP hD hS => ?_)
        replace hP : va_P (dC, dI) classes [(m0, .inr (6, oM ga uM cn sn cm us wt oc ou ow)), (ga 11, .inl (gc 11, 3, .inl (upd a11 2 (2 : Int32)))), (ga 12, .inl (gc 12, 3, .inl (upd a12 2 (0 : Int32)))), (ga 13, .inl (gc 13, 3, .inl (upd a13 2 ((a13 2) + (20 : Int32))))), (ga 17, .inl (gc 17, 3, .inl (upd a17 2 ((a17 2) + (1 : Int32))))), (ga 23, .inl (gc 23, 3, .inl a23))] H := hP
        replace hD : va_D A [(m0, .inr (6, oM ga uM cn sn cm us wt oc ou ow)), (ga 11, .inl (gc 11, 3, .inl (upd a11 2 (2 : Int32)))), (ga 12, .inl (gc 12, 3, .inl (upd a12 2 (0 : Int32)))), (ga 13, .inl (gc 13, 3, .inl (upd a13 2 ((a13 2) + (20 : Int32))))), (ga 17, .inl (gc 17, 3, .inl (upd a17 2 ((a17 2) + (1 : Int32))))), (ga 23, .inl (gc 23, 3, .inl a23))] := hD
        refine lv_iinc (k := 1) (v := 3) hx hb d_M_blameAll_69 hl rfl rfl (by decide) rfl (fun ls hl => ?_)
        replace hl : lv_has ls 2 [(1, .int 3), (0, .ref m0)] := hl
        refine lv_goto (tgt := 2) hx hb d_M_blameAll_72 rfl ?_
        have hSq : SP = s_M_blameAll_cut2_3 uM (upd a11 2 (2 : Int32)) (upd a12 2 (0 : Int32)) (upd a13 2 ((a13 2) + (20 : Int32))) (upd a17 2 ((a17 2) + (1 : Int32))) := by rw [hSq0, s_M_blameAll_cut2_2]; try (rw [if_neg hc8]); try (rw [if_neg hc9]); all_goals rfl
        replace hl := lv_sub hl (l' := [(0, .ref m0), (1, .int 3)]) [1, 0] rfl
        replace hP := hP.sub (ws' := [(m0, .inr (6, oM ga uM cn sn cm us wt oc ou ow)), (ga 11, .inl (gc 11, 3, .inl (upd a11 2 (2 : Int32)))), (ga 12, .inl (gc 12, 3, .inl (upd a12 2 (0 : Int32)))), (ga 13, .inl (gc 13, 3, .inl (upd a13 2 ((a13 2) + (20 : Int32))))), (ga 17, .inl (gc 17, 3, .inl (upd a17 2 ((a17 2) + (1 : Int32))))), (ga 23, .inl (gc 23, 3, .inl a23))]) [0, 1, 2, 3, 4, 5] rfl
        replace hD := hD.sub (ws' := [(m0, .inr (6, oM ga uM cn sn cm us wt oc ou ow)), (ga 11, .inl (gc 11, 3, .inl (upd a11 2 (2 : Int32)))), (ga 12, .inl (gc 12, 3, .inl (upd a12 2 (0 : Int32)))), (ga 13, .inl (gc 13, 3, .inl (upd a13 2 ((a13 2) + (20 : Int32))))), (ga 17, .inl (gc 17, 3, .inl (upd a17 2 ((a17 2) + (1 : Int32))))), (ga 23, .inl (gc 23, 3, .inl a23))]) [0, 1, 2, 3, 4, 5] (by decide) rfl
        exact cut2_3 (upd a11 2 (2 : Int32)) (upd a12 2 (0 : Int32)) (upd a13 2 ((a13 2) + (20 : Int32))) (upd a17 2 ((a17 2) + (1 : Int32))) _ _ _ (by repeat' first | assumption | apply mk3_n) hSq hl hP hD hS
    · --  (a23 2) = 0
      refine lv_goto (tgt := 69) hx hb d_M_blameAll_16 rfl ?_
      refine lv_iinc (k := 1) (v := 3) hx hb d_M_blameAll_69 hl rfl rfl (by decide) rfl (fun ls hl => ?_)
      replace hl : lv_has ls 2 [(1, .int 3), (0, .ref m0)] := hl
      refine lv_goto (tgt := 2) hx hb d_M_blameAll_72 rfl ?_
      have hSq : SP = s_M_blameAll_cut2_3 uM a11 a12 a13 a17 := by rw [hSq0, s_M_blameAll_cut2_2]; try (rw [if_pos hc8]); all_goals rfl
      replace hl := lv_sub hl (l' := [(0, .ref m0), (1, .int 3)]) [1, 0] rfl
      replace hP := hP.sub (ws' := [(m0, .inr (6, oM ga uM cn sn cm us wt oc ou ow)), (ga 11, .inl (gc 11, 3, .inl a11)), (ga 12, .inl (gc 12, 3, .inl a12)), (ga 13, .inl (gc 13, 3, .inl a13)), (ga 17, .inl (gc 17, 3, .inl a17)), (ga 23, .inl (gc 23, 3, .inl a23))]) [0, 1, 2, 3, 4, 5] rfl
      replace hD := hD.sub (ws' := [(m0, .inr (6, oM ga uM cn sn cm us wt oc ou ow)), (ga 11, .inl (gc 11, 3, .inl a11)), (ga 12, .inl (gc 12, 3, .inl a12)), (ga 13, .inl (gc 13, 3, .inl a13)), (ga 17, .inl (gc 17, 3, .inl a17)), (ga 23, .inl (gc 23, 3, .inl a23))]) [0, 1, 2, 3, 4, 5] (by decide) rfl
      exact cut2_3 a11 a12 a13 a17 _ _ _ (by repeat' first | assumption | apply mk3_n) hSq hl hP hD hS
  have cut2_1 : ∀ (a11 : Nat → Int32) (a12 : Nat → Int32) (a13 : Nat → Int32) (a17 : Nat → Int32) (ls : Array Slot) (H : Heap) (locs : List Loc), mk3 a11 a12 → SP = s_M_blameAll_cut2_1 uM a23 a11 a12 a13 a17 →  lv_has ls 2 [(0, .ref m0), (1, .int 1)] → va_P (dC, dI) classes [(m0, .inr (6, oM ga uM cn sn cm us wt oc ou ow)), (ga 11, .inl (gc 11, 3, .inl a11)), (ga 12, .inl (gc 12, 3, .inl a12)), (ga 13, .inl (gc 13, 3, .inl a13)), (ga 17, .inl (gc 17, 3, .inl a17)), (ga 23, .inl (gc 23, 3, .inl a23))] H → va_D A [(m0, .inr (6, oM ga uM cn sn cm us wt oc ou ow)), (ga 11, .inl (gc 11, 3, .inl a11)), (ga 12, .inl (gc 12, 3, .inl a12)), (ga 13, .inl (gc 13, 3, .inl a13)), (ga 17, .inl (gc 17, 3, .inl a17)), (ga 23, .inl (gc 23, 3, .inl a23))] → va_S A s.heap H locs → W p l e (headSpec (tbw y_M_blameAll b_M_blameAll 2 (some .boolean)) ({ frames := 1, cells := 0, slots := 0, locals := 22 })).room s m ([.ref m0] : List Value).toArray below meth c H locs 0 0 (MQ below (va_Qi (fun (r : Int32) (u9 : (Nat → Int32) × (Nat → Int32) × (Nat → Int32) × (Nat → Int32)) => match u9 with | (a11n, a12n, a13n, a17n) => (mk3 a11n a12n ∧ (¬ r = 0 → s3 a11n)) ∧ (r, a11n, a12n, a13n, a17n) = SP) (fun (u9 : (Nat → Int32) × (Nat → Int32) × (Nat → Int32) × (Nat → Int32)) t => match u9 with | (a11n, a12n, a13n, a17n) => va_P (dC, dI) classes [(m0, .inr (6, oM ga uM cn sn cm us wt oc ou ow)), (ga 11, .inl (gc 11, 3, .inl a11n)), (ga 12, .inl (gc 12, 3, .inl a12n)), (ga 13, .inl (gc 13, 3, .inl a13n)), (ga 17, .inl (gc 17, 3, .inl a17n)), (ga 23, .inl (gc 23, 3, .inl a23))] t.heap ∧ va_K (dC, dI) classes [(gc 11, .int), (gc 12, .int), (gc 13, .int), (gc 17, .int), (gc 23, .boolean)] t ∧ va_D A [(m0, .inr (6, oM ga uM cn sn cm us wt oc ou ow)), (ga 11, .inl (gc 11, 3, .inl a11n)), (ga 12, .inl (gc 12, 3, .inl a12n)), (ga 13, .inl (gc 13, 3, .inl a13n)), (ga 17, .inl (gc 17, 3, .inl a17n)), (ga 23, .inl (gc 23, 3, .inl a23))]) A) ([.ref m0] : List Value).toArray s 0 0 A) (F0 m 2 ls []) := by
    intro a11 a12 a13 a17 ls H locs h12 hSq0 hl hP hD hS
    clear cut2_3
    refine lv_iload_n hx hb d_M_blameAll_2 rfl (lv_at hl 1 rfl) ?_
    refine lv_iconst (v := 3) hx hb d_M_blameAll_3 (by decide) ?_
    refine lv_icmp_ge (tgt := 75) hx hb d_M_blameAll_4 rfl (fun hc10 => by first | exact absurd hc10 (by decide) | exact absurd (by decide) hc10) (fun hc10 => ?_)
    refine lv_aload_n hx hb d_M_blameAll_7 rfl (lv_at hl 0 rfl) ?_
    refine va_get (D := (dC, dI)) (ci := 6) (v := .ref (ga 23)) (C := "VotedTripleModel") (T := F_M) (N := 37) hx hb hw in_M hown hK hP 0 rfl rfl 23 (by decide) (hw _ k_747) (fun _ h9 => h9) rfl d_M_blameAll_8 ?_
    refine lv_iload_n hx hb d_M_blameAll_11 rfl (lv_at hl 1 rfl) ?_
    refine va_zald hx hb hK hP 5 4 rfl rfl (by unfold vp_in; decide) d_M_blameAll_12 ?_
    refine W.eq (g2 := F0 m 13 ls [.int (a23 1)]) rfl ?_
    refine lv_if_ne (tgt := 19) hx hb d_M_blameAll_13 rfl (fun hc11 => ?_) (fun hc11 => ?_)
    · --  ¬ (a23 1) = 0
      refine lv_aload_n hx hb d_M_blameAll_19 rfl (lv_at hl 0 rfl) ?_
      refine va_get (D := (dC, dI)) (ci := 6) (v := .ref (ga 17)) (C := "VotedTripleModel") (T := F_M) (N := 37) hx hb hw in_M hown hK hP 0 rfl rfl 17 (by decide) (hw _ k_741) (fun _ h9 => h9) rfl d_M_blameAll_20 ?_
      refine lv_iload_n hx hb d_M_blameAll_23 rfl (lv_at hl 1 rfl) ?_
      refine lv_dup2_11 hx hb d_M_blameAll_24 rfl rfl ?_
      refine va_iald hx hb hK hP 4 3 rfl rfl (by unfold vp_in; decide) d_M_blameAll_25 ?_
      refine W.eq (g2 := F0 m 26 ls [.int (a17 1), .int 1, .ref (ga 17)]) rfl ?_
      refine lv_iconst (v := 1) hx hb d_M_blameAll_26 (by decide) ?_
      refine lv_iadd hx hb d_M_blameAll_27 ?_
      refine va_iast hx hb hK hP hD hS 4 3 rfl rfl (by unfold vp_in; decide) d_M_blameAll_28 (fun H locs hP hD hS => ?_)
      replace hP : va_P (dC, dI) classes [(m0, .inr (6, oM ga uM cn sn cm us wt oc ou ow)), (ga 11, .inl (gc 11, 3, .inl a11)), (ga 12, .inl (gc 12, 3, .inl a12)), (ga 13, .inl (gc 13, 3, .inl a13)), (ga 17, .inl (gc 17, 3, .inl (upd a17 1 ((a17 1) + (1 : Int32))))), (ga 23, .inl (gc 23, 3, .inl a23))] H := hP
      replace hD : va_D A [(m0, .inr (6, oM ga uM cn sn cm us wt oc ou ow)), (ga 11, .inl (gc 11, 3, .inl a11)), (ga 12, .inl (gc 12, 3, .inl a12)), (ga 13, .inl (gc 13, 3, .inl a13)), (ga 17, .inl (gc 17, 3, .inl (upd a17 1 ((a17 1) + (1 : Int32))))), (ga 23, .inl (gc 23, 3, .inl a23))] := hD
      refine lv_aload_n hx hb d_M_blameAll_29 rfl (lv_at hl 0 rfl) ?_
      refine va_get (D := (dC, dI)) (ci := 6) (v := .ref (ga 13)) (C := "VotedTripleModel") (T := F_M) (N := 37) hx hb hw in_M hown hK hP 0 rfl rfl 13 (by decide) (hw _ k_737) (fun _ h9 => h9) rfl d_M_blameAll_30 ?_
      refine lv_iload_n hx hb d_M_blameAll_33 rfl (lv_at hl 1 rfl) ?_
      refine lv_dup2_11 hx hb d_M_blameAll_34 rfl rfl ?_
      refine va_iald hx hb hK hP 3 2 rfl rfl (by unfold vp_in; decide) d_M_blameAll_35 ?_
      refine W.eq (g2 := F0 m 36 ls [.int (a13 1), .int 1, .ref (ga 13)]) rfl ?_
      refine lv_bipush (v := 20) hx hb d_M_blameAll_36 (by decide) ?_
      refine lv_iadd hx hb d_M_blameAll_38 ?_
      refine va_iast hx hb hK hP hD hS 3 2 rfl rfl (by unfold vp_in; decide) d_M_blameAll_39 (fun H locs hP hD hS => ?_)
      replace hP : va_P (dC, dI) classes [(m0, .inr (6, oM ga uM cn sn cm us wt oc ou ow)), (ga 11, .inl (gc 11, 3, .inl a11)), (ga 12, .inl (gc 12, 3, .inl a12)), (ga 13, .inl (gc 13, 3, .inl (upd a13 1 ((a13 1) + (20 : Int32))))), (ga 17, .inl (gc 17, 3, .inl (upd a17 1 ((a17 1) + (1 : Int32))))), (ga 23, .inl (gc 23, 3, .inl a23))] H := hP
      replace hD : va_D A [(m0, .inr (6, oM ga uM cn sn cm us wt oc ou ow)), (ga 11, .inl (gc 11, 3, .inl a11)), (ga 12, .inl (gc 12, 3, .inl a12)), (ga 13, .inl (gc 13, 3, .inl (upd a13 1 ((a13 1) + (20 : Int32))))), (ga 17, .inl (gc 17, 3, .inl (upd a17 1 ((a17 1) + (1 : Int32))))), (ga 23, .inl (gc 23, 3, .inl a23))] := hD
      refine lv_aload_n hx hb d_M_blameAll_40 rfl (lv_at hl 0 rfl) ?_
      refine va_get (D := (dC, dI)) (ci := 6) (v := .ref (ga 11)) (C := "VotedTripleModel") (T := F_M) (N := 37) hx hb hw in_M hown hK hP 0 rfl rfl 11 (by decide) (hw _ k_735) (fun _ h9 => h9) rfl d_M_blameAll_41 ?_
      refine lv_iload_n hx hb d_M_blameAll_44 rfl (lv_at hl 1 rfl) ?_
      refine lv_aload_n hx hb d_M_blameAll_45 rfl (lv_at hl 0 rfl) ?_
      refine va_get (D := (dC, dI)) (ci := 6) (v := .ref (ga 13)) (C := "VotedTripleModel") (T := F_M) (N := 37) hx hb hw in_M hown hK hP 0 rfl rfl 13 (by decide) (hw _ k_737) (fun _ h9 => h9) rfl d_M_blameAll_46 ?_
      refine lv_iload_n hx hb d_M_blameAll_49 rfl (lv_at hl 1 rfl) ?_
      refine va_iald hx hb hK hP 3 2 rfl rfl (by unfold vp_in; decide) d_M_blameAll_50 ?_
      refine W.eq (g2 := F0 m 51 ls [.int ((upd a13 1 ((a13 1) + (20 : Int32))) 1), .int 1, .ref (ga 11)]) rfl ?_
      refine lv_bipush (v := 50) hx hb d_M_blameAll_51 (by decide) ?_
      refine lv_icmp_lt (tgt := 60) hx hb d_M_blameAll_53 rfl (fun hc12 => ?_) (fun hc12 => ?_)
      · --  ((upd a13 1 ((a13 1) + (20 : Int32))) 1) < 50
        refine lv_iconst (v := 1) hx hb d_M_blameAll_60 (by decide) ?_
        refine va_iast hx hb hK hP hD hS 1 0 rfl rfl (by unfold vp_in; decide) d_M_blameAll_61 (fun H locs hP hD hS => ?_)
        replace hP : va_P (dC, dI) classes [(m0, .inr (6, oM ga uM cn sn cm us wt oc ou ow)), (ga 11, .inl (gc 11, 3, .inl (upd a11 1 (1 : Int32)))), (ga 12, .inl (gc 12, 3, .inl a12)), (ga 13, .inl (gc 13, 3, .inl (upd a13 1 ((a13 1) + (20 : Int32))))), (ga 17, .inl (gc 17, 3, .inl (upd a17 1 ((a17 1) + (1 : Int32))))), (ga 23, .inl (gc 23, 3, .inl a23))] H := hP
        replace hD : va_D A [(m0, .inr (6, oM ga uM cn sn cm us wt oc ou ow)), (ga 11, .inl (gc 11, 3, .inl (upd a11 1 (1 : Int32)))), (ga 12, .inl (gc 12, 3, .inl a12)), (ga 13, .inl (gc 13, 3, .inl (upd a13 1 ((a13 1) + (20 : Int32))))), (ga 17, .inl (gc 17, 3, .inl (upd a17 1 ((a17 1) + (1 : Int32))))), (ga 23, .inl (gc 23, 3, .inl a23))] := hD
        refine lv_aload_n hx hb d_M_blameAll_62 rfl (lv_at hl 0 rfl) ?_
        refine va_get (D := (dC, dI)) (ci := 6) (v := .ref (ga 12)) (C := "VotedTripleModel") (T := F_M) (N := 37) hx hb hw in_M hown hK hP 0 rfl rfl 12 (by decide) (hw _ k_736) (fun _ h9 => h9) rfl d_M_blameAll_63 ?_
        refine lv_iload_n hx hb d_M_blameAll_66 rfl (lv_at hl 1 rfl) ?_
        refine lv_iconst (v := 0) hx hb d_M_blameAll_67 (by decide) ?_
        refine va_iast hx hb hK hP hD hS 2 1 rfl rfl (by unfold vp_in; decide) d_M_blameAll_68 (fun H locs hP hD hS => ?_)
        replace hP : va_P (dC, dI) classes [(m0, .inr (6, oM ga uM cn sn cm us wt oc ou ow)), (ga 11, .inl (gc 11, 3, .inl (upd a11 1 (1 : Int32)))), (ga 12, .inl (gc 12, 3, .inl (upd a12 1 (0 : Int32)))), (ga 13, .inl (gc 13, 3, .inl (upd a13 1 ((a13 1) + (20 : Int32))))), (ga 17, .inl (gc 17, 3, .inl (upd a17 1 ((a17 1) + (1 : Int32))))), (ga 23, .inl (gc 23, 3, .inl a23))] H := hP
        replace hD : va_D A [(m0, .inr (6, oM ga uM cn sn cm us wt oc ou ow)), (ga 11, .inl (gc 11, 3, .inl (upd a11 1 (1 : Int32)))), (ga 12, .inl (gc 12, 3, .inl (upd a12 1 (0 : Int32)))), (ga 13, .inl (gc 13, 3, .inl (upd a13 1 ((a13 1) + (20 : Int32))))), (ga 17, .inl (gc 17, 3, .inl (upd a17 1 ((a17 1) + (1 : Int32))))), (ga 23, .inl (gc 23, 3, .inl a23))] := hD
        refine lv_iinc (k := 1) (v := 2) hx hb d_M_blameAll_69 hl rfl rfl (by decide) rfl (fun ls hl => ?_)
        replace hl : lv_has ls 2 [(1, .int 2), (0, .ref m0)] := hl
        refine lv_goto (tgt := 2) hx hb d_M_blameAll_72 rfl ?_
        have hSq : SP = s_M_blameAll_cut2_2 uM a23 (upd a11 1 (1 : Int32)) (upd a12 1 (0 : Int32)) (upd a13 1 ((a13 1) + (20 : Int32))) (upd a17 1 ((a17 1) + (1 : Int32))) := by rw [hSq0, s_M_blameAll_cut2_1]; try (rw [if_neg hc11]); try (rw [if_pos hc12]); all_goals rfl
        replace hl := lv_sub hl (l' := [(0, .ref m0), (1, .int 2)]) [1, 0] rfl
        replace hP := hP.sub (ws' := [(m0, .inr (6, oM ga uM cn sn cm us wt oc ou ow)), (ga 11, .inl (gc 11, 3, .inl (upd a11 1 (1 : Int32)))), (ga 12, .inl (gc 12, 3, .inl (upd a12 1 (0 : Int32)))), (ga 13, .inl (gc 13, 3, .inl (upd a13 1 ((a13 1) + (20 : Int32))))), (ga 17, .inl (gc 17, 3, .inl (upd a17 1 ((a17 1) + (1 : Int32))))), (ga 23, .inl (gc 23, 3, .inl a23))]) [0, 1, 2, 3, 4, 5] rfl
        replace hD := hD.sub (ws' := [(m0, .inr (6, oM ga uM cn sn cm us wt oc ou ow)), (ga 11, .inl (gc 11, 3, .inl (upd a11 1 (1 : Int32)))), (ga 12, .inl (gc 12, 3, .inl (upd a12 1 (0 : Int32)))), (ga 13, .inl (gc 13, 3, .inl (upd a13 1 ((a13 1) + (20 : Int32))))), (ga 17, .inl (gc 17, 3, .inl (upd a17 1 ((a17 1) + (1 : Int32))))), (ga 23, .inl (gc 23, 3, .inl a23))]) [0, 1, 2, 3, 4, 5] (by decide) rfl
        exact cut2_2 (upd a11 1 (1 : Int32)) (upd a12 1 (0 : Int32)) (upd a13 1 ((a13 1) + (20 : Int32))) (upd a17 1 ((a17 1) + (1 : Int32))) _ _ _ (by repeat' first | assumption | apply mk3_n) hSq hl hP hD hS
      · --  ¬ ((upd a13 1 ((a13 1) + (20 : Int32))) 1) < 50
        refine lv_iconst (v := 2) hx hb d_M_blameAll_56 (by decide) ?_
        refine lv_goto (tgt := 61) hx hb d_M_blameAll_57 rfl ?_
        refine va_iast hx hb hK hP hD hS 1 0 rfl rfl (by unfold vp_in; decide) d_M_blameAll_61 (fun H locs hP hD hS => ?_)
        replace hP : va_P (dC, dI) classes [(m0, .inr (6, oM ga uM cn sn cm us wt oc ou ow)), (ga 11, .inl (gc 11, 3, .inl (upd a11 1 (2 : Int32)))), (ga 12, .inl (gc 12, 3, .inl a12)), (ga 13, .inl (gc 13, 3, .inl (upd a13 1 ((a13 1) + (20 : Int32))))), (ga 17, .inl (gc 17, 3, .inl (upd a17 1 ((a17 1) + (1 : Int32))))), (ga 23, .inl (gc 23, 3, .inl a23))] H := hP
        replace hD : va_D A [(m0, .inr (6, oM ga uM cn sn cm us wt oc ou ow)), (ga 11, .inl (gc 11, 3, .inl (upd a11 1 (2 : Int32)))), (ga 12, .inl (gc 12, 3, .inl a12)), (ga 13, .inl (gc 13, 3, .inl (upd a13 1 ((a13 1) + (20 : Int32))))), (ga 17, .inl (gc 17, 3, .inl (upd a17 1 ((a17 1) + (1 : Int32))))), (ga 23, .inl (gc 23, 3, .inl a23))] := hD
        refine lv_aload_n hx hb d_M_blameAll_62 rfl (lv_at hl 0 rfl) ?_
        refine va_get (D := (dC, dI)) (ci := 6) (v := .ref (ga 12)) (C := "VotedTripleModel") (T := F_M) (N := 37) hx hb hw in_M hown hK hP 0 rfl rfl 12 (by decide) (hw _ k_736) (fun _ h9 => h9) rfl d_M_blameAll_63 ?_
        refine lv_iload_n hx hb d_M_blameAll_66 rfl (lv_at hl 1 rfl) ?_
        refine lv_iconst (v := 0) hx hb d_M_blameAll_67 (by decide) ?_
        refine va_iast hx hb hK hP hD hS 2 1 rfl rfl (by unfold vp_in; decide) d_M_blameAll_68 (fun H locs hP hD hS => ?_)
        replace hP : va_P (dC, dI) classes [(m0, .inr (6, oM ga uM cn sn cm us wt oc ou ow)), (ga 11, .inl (gc 11, 3, .inl (upd a11 1 (2 : Int32)))), (ga 12, .inl (gc 12, 3, .inl (upd a12 1 (0 : Int32)))), (ga 13, .inl (gc 13, 3, .inl (upd a13 1 ((a13 1) + (20 : Int32))))), (ga 17, .inl (gc 17, 3, .inl (upd a17 1 ((a17 1) + (1 : Int32))))), (ga 23, .inl (gc 23, 3, .inl a23))] H := hP
        replace hD : va_D A [(m0, .inr (6, oM ga uM cn sn cm us wt oc ou ow)), (ga 11, .inl (gc 11, 3, .inl (upd a11 1 (2 : Int32)))), (ga 12, .inl (gc 12, 3, .inl (upd a12 1 (0 : Int32)))), (ga 13, .inl (gc 13, 3, .inl (upd a13 1 ((a13 1) + (20 : Int32))))), (ga 17, .inl (gc 17, 3, .inl (upd a17 1 ((a17 1) + (1 : Int32))))), (ga 23, .inl (gc 23, 3, .inl a23))] := hD
        refine lv_iinc (k := 1) (v := 2) hx hb d_M_blameAll_69 hl rfl rfl (by decide) rfl (fun ls hl => ?_)
        replace hl : lv_has ls 2 [(1, .int 2), (0, .ref m0)] := hl
        refine lv_goto (tgt := 2) hx hb d_M_blameAll_72 rfl ?_
        have hSq : SP = s_M_blameAll_cut2_2 uM a23 (upd a11 1 (2 : Int32)) (upd a12 1 (0 : Int32)) (upd a13 1 ((a13 1) + (20 : Int32))) (upd a17 1 ((a17 1) + (1 : Int32))) := by rw [hSq0, s_M_blameAll_cut2_1]; try (rw [if_neg hc11]); try (rw [if_neg hc12]); all_goals rfl
        replace hl := lv_sub hl (l' := [(0, .ref m0), (1, .int 2)]) [1, 0] rfl
        replace hP := hP.sub (ws' := [(m0, .inr (6, oM ga uM cn sn cm us wt oc ou ow)), (ga 11, .inl (gc 11, 3, .inl (upd a11 1 (2 : Int32)))), (ga 12, .inl (gc 12, 3, .inl (upd a12 1 (0 : Int32)))), (ga 13, .inl (gc 13, 3, .inl (upd a13 1 ((a13 1) + (20 : Int32))))), (ga 17, .inl (gc 17, 3, .inl (upd a17 1 ((a17 1) + (1 : Int32))))), (ga 23, .inl (gc 23, 3, .inl a23))]) [0, 1, 2, 3, 4, 5] rfl
        replace hD := hD.sub (ws' := [(m0, .inr (6, oM ga uM cn sn cm us wt oc ou ow)), (ga 11, .inl (gc 11, 3, .inl (upd a11 1 (2 : Int32)))), (ga 12, .inl (gc 12, 3, .inl (upd a12 1 (0 : Int32)))), (ga 13, .inl (gc 13, 3, .inl (upd a13 1 ((a13 1) + (20 : Int32))))), (ga 17, .inl (gc 17, 3, .inl (upd a17 1 ((a17 1) + (1 : Int32))))), (ga 23, .inl (gc 23, 3, .inl a23))]) [0, 1, 2, 3, 4, 5] (by decide) rfl
        exact cut2_2 (upd a11 1 (2 : Int32)) (upd a12 1 (0 : Int32)) (upd a13 1 ((a13 1) + (20 : Int32))) (upd a17 1 ((a17 1) + (1 : Int32))) _ _ _ (by repeat' first | assumption | apply mk3_n) hSq hl hP hD hS
    · --  (a23 1) = 0
      refine lv_goto (tgt := 69) hx hb d_M_blameAll_16 rfl ?_
      refine lv_iinc (k := 1) (v := 2) hx hb d_M_blameAll_69 hl rfl rfl (by decide) rfl (fun ls hl => ?_)
      replace hl : lv_has ls 2 [(1, .int 2), (0, .ref m0)] := hl
      refine lv_goto (tgt := 2) hx hb d_M_blameAll_72 rfl ?_
      have hSq : SP = s_M_blameAll_cut2_2 uM a23 a11 a12 a13 a17 := by rw [hSq0, s_M_blameAll_cut2_1]; try (rw [if_pos hc11]); all_goals rfl
      replace hl := lv_sub hl (l' := [(0, .ref m0), (1, .int 2)]) [1, 0] rfl
      replace hP := hP.sub (ws' := [(m0, .inr (6, oM ga uM cn sn cm us wt oc ou ow)), (ga 11, .inl (gc 11, 3, .inl a11)), (ga 12, .inl (gc 12, 3, .inl a12)), (ga 13, .inl (gc 13, 3, .inl a13)), (ga 17, .inl (gc 17, 3, .inl a17)), (ga 23, .inl (gc 23, 3, .inl a23))]) [0, 1, 2, 3, 4, 5] rfl
      replace hD := hD.sub (ws' := [(m0, .inr (6, oM ga uM cn sn cm us wt oc ou ow)), (ga 11, .inl (gc 11, 3, .inl a11)), (ga 12, .inl (gc 12, 3, .inl a12)), (ga 13, .inl (gc 13, 3, .inl a13)), (ga 17, .inl (gc 17, 3, .inl a17)), (ga 23, .inl (gc 23, 3, .inl a23))]) [0, 1, 2, 3, 4, 5] (by decide) rfl
      exact cut2_2 a11 a12 a13 a17 _ _ _ (by repeat' first | assumption | apply mk3_n) hSq hl hP hD hS
  clear cut2_3 cut2_2
  refine lv_iconst (v := 0) hx hb d_M_blameAll_0 (by decide) ?_
  refine lv_istore_n hx hb d_M_blameAll_1 rfl hl (by decide) rfl (fun ls hl => ?_)
  replace hl : lv_has ls 2 [(1, .int 0), (0, .ref m0)] := hl
  refine lv_iload_n hx hb d_M_blameAll_2 rfl (lv_at hl 0 rfl) ?_
  refine lv_iconst (v := 3) hx hb d_M_blameAll_3 (by decide) ?_
  refine lv_icmp_ge (tgt := 75) hx hb d_M_blameAll_4 rfl (fun hc13 => by first | exact absurd hc13 (by decide) | exact absurd (by decide) hc13) (fun hc13 => ?_)
  refine lv_aload_n hx hb d_M_blameAll_7 rfl (lv_at hl 1 rfl) ?_
  refine va_get (D := (dC, dI)) (ci := 6) (v := .ref (ga 23)) (C := "VotedTripleModel") (T := F_M) (N := 37) hx hb hw in_M hown hK hP 0 rfl rfl 23 (by decide) (hw _ k_747) (fun _ h9 => h9) rfl d_M_blameAll_8 ?_
  refine lv_iload_n hx hb d_M_blameAll_11 rfl (lv_at hl 0 rfl) ?_
  refine va_zald hx hb hK hP 5 4 rfl rfl (by unfold vp_in; decide) d_M_blameAll_12 ?_
  refine W.eq (g2 := F0 m 13 ls [.int (a23 0)]) rfl ?_
  refine lv_if_ne (tgt := 19) hx hb d_M_blameAll_13 rfl (fun hc14 => ?_) (fun hc14 => ?_)
  · --  ¬ (a23 0) = 0
    refine lv_aload_n hx hb d_M_blameAll_19 rfl (lv_at hl 1 rfl) ?_
    refine va_get (D := (dC, dI)) (ci := 6) (v := .ref (ga 17)) (C := "VotedTripleModel") (T := F_M) (N := 37) hx hb hw in_M hown hK hP 0 rfl rfl 17 (by decide) (hw _ k_741) (fun _ h9 => h9) rfl d_M_blameAll_20 ?_
    refine lv_iload_n hx hb d_M_blameAll_23 rfl (lv_at hl 0 rfl) ?_
    refine lv_dup2_11 hx hb d_M_blameAll_24 rfl rfl ?_
    refine va_iald hx hb hK hP 4 3 rfl rfl (by unfold vp_in; decide) d_M_blameAll_25 ?_
    refine W.eq (g2 := F0 m 26 ls [.int (a17 0), .int 0, .ref (ga 17)]) rfl ?_
    refine lv_iconst (v := 1) hx hb d_M_blameAll_26 (by decide) ?_
    refine lv_iadd hx hb d_M_blameAll_27 ?_
    refine va_iast hx hb hK hP hD hS 4 3 rfl rfl (by unfold vp_in; decide) d_M_blameAll_28 (fun H locs hP hD hS => ?_)
    replace hP : va_P (dC, dI) classes [(m0, .inr (6, oM ga uM cn sn cm us wt oc ou ow)), (ga 11, .inl (gc 11, 3, .inl a11)), (ga 12, .inl (gc 12, 3, .inl a12)), (ga 13, .inl (gc 13, 3, .inl a13)), (ga 17, .inl (gc 17, 3, .inl (upd a17 0 ((a17 0) + (1 : Int32))))), (ga 23, .inl (gc 23, 3, .inl a23))] H := hP
    replace hD : va_D A [(m0, .inr (6, oM ga uM cn sn cm us wt oc ou ow)), (ga 11, .inl (gc 11, 3, .inl a11)), (ga 12, .inl (gc 12, 3, .inl a12)), (ga 13, .inl (gc 13, 3, .inl a13)), (ga 17, .inl (gc 17, 3, .inl (upd a17 0 ((a17 0) + (1 : Int32))))), (ga 23, .inl (gc 23, 3, .inl a23))] := hD
    refine lv_aload_n hx hb d_M_blameAll_29 rfl (lv_at hl 1 rfl) ?_
    refine va_get (D := (dC, dI)) (ci := 6) (v := .ref (ga 13)) (C := "VotedTripleModel") (T := F_M) (N := 37) hx hb hw in_M hown hK hP 0 rfl rfl 13 (by decide) (hw _ k_737) (fun _ h9 => h9) rfl d_M_blameAll_30 ?_
    refine lv_iload_n hx hb d_M_blameAll_33 rfl (lv_at hl 0 rfl) ?_
    refine lv_dup2_11 hx hb d_M_blameAll_34 rfl rfl ?_
    refine va_iald hx hb hK hP 3 2 rfl rfl (by unfold vp_in; decide) d_M_blameAll_35 ?_
    refine W.eq (g2 := F0 m 36 ls [.int (a13 0), .int 0, .ref (ga 13)]) rfl ?_
    refine lv_bipush (v := 20) hx hb d_M_blameAll_36 (by decide) ?_
    refine lv_iadd hx hb d_M_blameAll_38 ?_
    refine va_iast hx hb hK hP hD hS 3 2 rfl rfl (by unfold vp_in; decide) d_M_blameAll_39 (fun H locs hP hD hS => ?_)
    replace hP : va_P (dC, dI) classes [(m0, .inr (6, oM ga uM cn sn cm us wt oc ou ow)), (ga 11, .inl (gc 11, 3, .inl a11)), (ga 12, .inl (gc 12, 3, .inl a12)), (ga 13, .inl (gc 13, 3, .inl (upd a13 0 ((a13 0) + (20 : Int32))))), (ga 17, .inl (gc 17, 3, .inl (upd a17 0 ((a17 0) + (1 : Int32))))), (ga 23, .inl (gc 23, 3, .inl a23))] H := hP
    replace hD : va_D A [(m0, .inr (6, oM ga uM cn sn cm us wt oc ou ow)), (ga 11, .inl (gc 11, 3, .inl a11)), (ga 12, .inl (gc 12, 3, .inl a12)), (ga 13, .inl (gc 13, 3, .inl (upd a13 0 ((a13 0) + (20 : Int32))))), (ga 17, .inl (gc 17, 3, .inl (upd a17 0 ((a17 0) + (1 : Int32))))), (ga 23, .inl (gc 23, 3, .inl a23))] := hD
    refine lv_aload_n hx hb d_M_blameAll_40 rfl (lv_at hl 1 rfl) ?_
    refine va_get (D := (dC, dI)) (ci := 6) (v := .ref (ga 11)) (C := "VotedTripleModel") (T := F_M) (N := 37) hx hb hw in_M hown hK hP 0 rfl rfl 11 (by decide) (hw _ k_735) (fun _ h9 => h9) rfl d_M_blameAll_41 ?_
    refine lv_iload_n hx hb d_M_blameAll_44 rfl (lv_at hl 0 rfl) ?_
    refine lv_aload_n hx hb d_M_blameAll_45 rfl (lv_at hl 1 rfl) ?_
    refine va_get (D := (dC, dI)) (ci := 6) (v := .ref (ga 13)) (C := "VotedTripleModel") (T := F_M) (N := 37) hx hb hw in_M hown hK hP 0 rfl rfl 13 (by decide) (hw _ k_737) (fun _ h9 => h9) rfl d_M_blameAll_46 ?_
    refine lv_iload_n hx hb d_M_blameAll_49 rfl (lv_at hl 0 rfl) ?_
    refine va_iald hx hb hK hP 3 2 rfl rfl (by unfold vp_in; decide) d_M_blameAll_50 ?_
    refine W.eq (g2 := F0 m 51 ls [.int ((upd a13 0 ((a13 0) + (20 : Int32))) 0), .int 0, .ref (ga 11)]) rfl ?_
    refine lv_bipush (v := 50) hx hb d_M_blameAll_51 (by decide) ?_
    refine lv_icmp_lt (tgt := 60) hx hb d_M_blameAll_53 rfl (fun hc15 => ?_) (fun hc15 => ?_)
    · --  ((upd a13 0 ((a13 0) + (20 : Int32))) 0) < 50
      refine lv_iconst (v := 1) hx hb d_M_blameAll_60 (by decide) ?_
      refine va_iast hx hb hK hP hD hS 1 0 rfl rfl (by unfold vp_in; decide) d_M_blameAll_61 (fun H locs hP hD hS => ?_)
      replace hP : va_P (dC, dI) classes [(m0, .inr (6, oM ga uM cn sn cm us wt oc ou ow)), (ga 11, .inl (gc 11, 3, .inl (upd a11 0 (1 : Int32)))), (ga 12, .inl (gc 12, 3, .inl a12)), (ga 13, .inl (gc 13, 3, .inl (upd a13 0 ((a13 0) + (20 : Int32))))), (ga 17, .inl (gc 17, 3, .inl (upd a17 0 ((a17 0) + (1 : Int32))))), (ga 23, .inl (gc 23, 3, .inl a23))] H := hP
      replace hD : va_D A [(m0, .inr (6, oM ga uM cn sn cm us wt oc ou ow)), (ga 11, .inl (gc 11, 3, .inl (upd a11 0 (1 : Int32)))), (ga 12, .inl (gc 12, 3, .inl a12)), (ga 13, .inl (gc 13, 3, .inl (upd a13 0 ((a13 0) + (20 : Int32))))), (ga 17, .inl (gc 17, 3, .inl (upd a17 0 ((a17 0) + (1 : Int32))))), (ga 23, .inl (gc 23, 3, .inl a23))] := hD
      refine lv_aload_n hx hb d_M_blameAll_62 rfl (lv_at hl 1 rfl) ?_
      refine va_get (D := (dC, dI)) (ci := 6) (v := .ref (ga 12)) (C := "VotedTripleModel") (T := F_M) (N := 37) hx hb hw in_M hown hK hP 0 rfl rfl 12 (by decide) (hw _ k_736) (fun _ h9 => h9) rfl d_M_blameAll_63 ?_
      refine lv_iload_n hx hb d_M_blameAll_66 rfl (lv_at hl 0 rfl) ?_
      refine lv_iconst (v := 0) hx hb d_M_blameAll_67 (by decide) ?_
      refine va_iast hx hb hK hP hD hS 2 1 rfl rfl (by unfold vp_in; decide) d_M_blameAll_68 (fun H locs hP hD hS => ?_)
      replace hP : va_P (dC, dI) classes [(m0, .inr (6, oM ga uM cn sn cm us wt oc ou ow)), (ga 11, .inl (gc 11, 3, .inl (upd a11 0 (1 : Int32)))), (ga 12, .inl (gc 12, 3, .inl (upd a12 0 (0 : Int32)))), (ga 13, .inl (gc 13, 3, .inl (upd a13 0 ((a13 0) + (20 : Int32))))), (ga 17, .inl (gc 17, 3, .inl (upd a17 0 ((a17 0) + (1 : Int32))))), (ga 23, .inl (gc 23, 3, .inl a23))] H := hP
      replace hD : va_D A [(m0, .inr (6, oM ga uM cn sn cm us wt oc ou ow)), (ga 11, .inl (gc 11, 3, .inl (upd a11 0 (1 : Int32)))), (ga 12, .inl (gc 12, 3, .inl (upd a12 0 (0 : Int32)))), (ga 13, .inl (gc 13, 3, .inl (upd a13 0 ((a13 0) + (20 : Int32))))), (ga 17, .inl (gc 17, 3, .inl (upd a17 0 ((a17 0) + (1 : Int32))))), (ga 23, .inl (gc 23, 3, .inl a23))] := hD
      refine lv_iinc (k := 0) (v := 1) hx hb d_M_blameAll_69 hl rfl rfl (by decide) rfl (fun ls hl => ?_)
      replace hl : lv_has ls 2 [(1, .int 1), (0, .ref m0)] := hl
      refine lv_goto (tgt := 2) hx hb d_M_blameAll_72 rfl ?_
      have hSq : SP = s_M_blameAll_cut2_1 uM a23 (upd a11 0 (1 : Int32)) (upd a12 0 (0 : Int32)) (upd a13 0 ((a13 0) + (20 : Int32))) (upd a17 0 ((a17 0) + (1 : Int32))) := by rw [← hSP, s_M_blameAll]; try (rw [if_neg hc14]); try (rw [if_pos hc15]); all_goals rfl
      replace hl := lv_sub hl (l' := [(0, .ref m0), (1, .int 1)]) [1, 0] rfl
      replace hP := hP.sub (ws' := [(m0, .inr (6, oM ga uM cn sn cm us wt oc ou ow)), (ga 11, .inl (gc 11, 3, .inl (upd a11 0 (1 : Int32)))), (ga 12, .inl (gc 12, 3, .inl (upd a12 0 (0 : Int32)))), (ga 13, .inl (gc 13, 3, .inl (upd a13 0 ((a13 0) + (20 : Int32))))), (ga 17, .inl (gc 17, 3, .inl (upd a17 0 ((a17 0) + (1 : Int32))))), (ga 23, .inl (gc 23, 3, .inl a23))]) [0, 1, 2, 3, 4, 5] rfl
      replace hD := hD.sub (ws' := [(m0, .inr (6, oM ga uM cn sn cm us wt oc ou ow)), (ga 11, .inl (gc 11, 3, .inl (upd a11 0 (1 : Int32)))), (ga 12, .inl (gc 12, 3, .inl (upd a12 0 (0 : Int32)))), (ga 13, .inl (gc 13, 3, .inl (upd a13 0 ((a13 0) + (20 : Int32))))), (ga 17, .inl (gc 17, 3, .inl (upd a17 0 ((a17 0) + (1 : Int32))))), (ga 23, .inl (gc 23, 3, .inl a23))]) [0, 1, 2, 3, 4, 5] (by decide) rfl
      exact cut2_1 (upd a11 0 (1 : Int32)) (upd a12 0 (0 : Int32)) (upd a13 0 ((a13 0) + (20 : Int32))) (upd a17 0 ((a17 0) + (1 : Int32))) _ _ _ (by repeat' first | assumption | apply mk3_n) hSq hl hP hD hS
    · --  ¬ ((upd a13 0 ((a13 0) + (20 : Int32))) 0) < 50
      refine lv_iconst (v := 2) hx hb d_M_blameAll_56 (by decide) ?_
      refine lv_goto (tgt := 61) hx hb d_M_blameAll_57 rfl ?_
      refine va_iast hx hb hK hP hD hS 1 0 rfl rfl (by unfold vp_in; decide) d_M_blameAll_61 (fun H locs hP hD hS => ?_)
      replace hP : va_P (dC, dI) classes [(m0, .inr (6, oM ga uM cn sn cm us wt oc ou ow)), (ga 11, .inl (gc 11, 3, .inl (upd a11 0 (2 : Int32)))), (ga 12, .inl (gc 12, 3, .inl a12)), (ga 13, .inl (gc 13, 3, .inl (upd a13 0 ((a13 0) + (20 : Int32))))), (ga 17, .inl (gc 17, 3, .inl (upd a17 0 ((a17 0) + (1 : Int32))))), (ga 23, .inl (gc 23, 3, .inl a23))] H := hP
      replace hD : va_D A [(m0, .inr (6, oM ga uM cn sn cm us wt oc ou ow)), (ga 11, .inl (gc 11, 3, .inl (upd a11 0 (2 : Int32)))), (ga 12, .inl (gc 12, 3, .inl a12)), (ga 13, .inl (gc 13, 3, .inl (upd a13 0 ((a13 0) + (20 : Int32))))), (ga 17, .inl (gc 17, 3, .inl (upd a17 0 ((a17 0) + (1 : Int32))))), (ga 23, .inl (gc 23, 3, .inl a23))] := hD
      refine lv_aload_n hx hb d_M_blameAll_62 rfl (lv_at hl 1 rfl) ?_
      refine va_get (D := (dC, dI)) (ci := 6) (v := .ref (ga 12)) (C := "VotedTripleModel") (T := F_M) (N := 37) hx hb hw in_M hown hK hP 0 rfl rfl 12 (by decide) (hw _ k_736) (fun _ h9 => h9) rfl d_M_blameAll_63 ?_
      refine lv_iload_n hx hb d_M_blameAll_66 rfl (lv_at hl 0 rfl) ?_
      refine lv_iconst (v := 0) hx hb d_M_blameAll_67 (by decide) ?_
      refine va_iast hx hb hK hP hD hS 2 1 rfl rfl (by unfold vp_in; decide) d_M_blameAll_68 (fun H locs hP hD hS => ?_)
      replace hP : va_P (dC, dI) classes [(m0, .inr (6, oM ga uM cn sn cm us wt oc ou ow)), (ga 11, .inl (gc 11, 3, .inl (upd a11 0 (2 : Int32)))), (ga 12, .inl (gc 12, 3, .inl (upd a12 0 (0 : Int32)))), (ga 13, .inl (gc 13, 3, .inl (upd a13 0 ((a13 0) + (20 : Int32))))), (ga 17, .inl (gc 17, 3, .inl (upd a17 0 ((a17 0) + (1 : Int32))))), (ga 23, .inl (gc 23, 3, .inl a23))] H := hP
      replace hD : va_D A [(m0, .inr (6, oM ga uM cn sn cm us wt oc ou ow)), (ga 11, .inl (gc 11, 3, .inl (upd a11 0 (2 : Int32)))), (ga 12, .inl (gc 12, 3, .inl (upd a12 0 (0 : Int32)))), (ga 13, .inl (gc 13, 3, .inl (upd a13 0 ((a13 0) + (20 : Int32))))), (ga 17, .inl (gc 17, 3, .inl (upd a17 0 ((a17 0) + (1 : Int32))))), (ga 23, .inl (gc 23, 3, .inl a23))] := hD
      refine lv_iinc (k := 0) (v := 1) hx hb d_M_blameAll_69 hl rfl rfl (by decide) rfl (fun ls hl => ?_)
      replace hl : lv_has ls 2 [(1, .int 1), (0, .ref m0)] := hl
      refine lv_goto (tgt := 2) hx hb d_M_blameAll_72 rfl ?_
      have hSq : SP = s_M_blameAll_cut2_1 uM a23 (upd a11 0 (2 : Int32)) (upd a12 0 (0 : Int32)) (upd a13 0 ((a13 0) + (20 : Int32))) (upd a17 0 ((a17 0) + (1 : Int32))) := by rw [← hSP, s_M_blameAll]; try (rw [if_neg hc14]); try (rw [if_neg hc15]); all_goals rfl
      replace hl := lv_sub hl (l' := [(0, .ref m0), (1, .int 1)]) [1, 0] rfl
      replace hP := hP.sub (ws' := [(m0, .inr (6, oM ga uM cn sn cm us wt oc ou ow)), (ga 11, .inl (gc 11, 3, .inl (upd a11 0 (2 : Int32)))), (ga 12, .inl (gc 12, 3, .inl (upd a12 0 (0 : Int32)))), (ga 13, .inl (gc 13, 3, .inl (upd a13 0 ((a13 0) + (20 : Int32))))), (ga 17, .inl (gc 17, 3, .inl (upd a17 0 ((a17 0) + (1 : Int32))))), (ga 23, .inl (gc 23, 3, .inl a23))]) [0, 1, 2, 3, 4, 5] rfl
      replace hD := hD.sub (ws' := [(m0, .inr (6, oM ga uM cn sn cm us wt oc ou ow)), (ga 11, .inl (gc 11, 3, .inl (upd a11 0 (2 : Int32)))), (ga 12, .inl (gc 12, 3, .inl (upd a12 0 (0 : Int32)))), (ga 13, .inl (gc 13, 3, .inl (upd a13 0 ((a13 0) + (20 : Int32))))), (ga 17, .inl (gc 17, 3, .inl (upd a17 0 ((a17 0) + (1 : Int32))))), (ga 23, .inl (gc 23, 3, .inl a23))]) [0, 1, 2, 3, 4, 5] (by decide) rfl
      exact cut2_1 (upd a11 0 (2 : Int32)) (upd a12 0 (0 : Int32)) (upd a13 0 ((a13 0) + (20 : Int32))) (upd a17 0 ((a17 0) + (1 : Int32))) _ _ _ (by repeat' first | assumption | apply mk3_n) hSq hl hP hD hS
  · --  (a23 0) = 0
    refine lv_goto (tgt := 69) hx hb d_M_blameAll_16 rfl ?_
    refine lv_iinc (k := 0) (v := 1) hx hb d_M_blameAll_69 hl rfl rfl (by decide) rfl (fun ls hl => ?_)
    replace hl : lv_has ls 2 [(1, .int 1), (0, .ref m0)] := hl
    refine lv_goto (tgt := 2) hx hb d_M_blameAll_72 rfl ?_
    have hSq : SP = s_M_blameAll_cut2_1 uM a23 a11 a12 a13 a17 := by rw [← hSP, s_M_blameAll]; try (rw [if_pos hc14]); all_goals rfl
    replace hl := lv_sub hl (l' := [(0, .ref m0), (1, .int 1)]) [1, 0] rfl
    replace hP := hP.sub (ws' := [(m0, .inr (6, oM ga uM cn sn cm us wt oc ou ow)), (ga 11, .inl (gc 11, 3, .inl a11)), (ga 12, .inl (gc 12, 3, .inl a12)), (ga 13, .inl (gc 13, 3, .inl a13)), (ga 17, .inl (gc 17, 3, .inl a17)), (ga 23, .inl (gc 23, 3, .inl a23))]) [0, 1, 2, 3, 4, 5] rfl
    replace hD := hD.sub (ws' := [(m0, .inr (6, oM ga uM cn sn cm us wt oc ou ow)), (ga 11, .inl (gc 11, 3, .inl a11)), (ga 12, .inl (gc 12, 3, .inl a12)), (ga 13, .inl (gc 13, 3, .inl a13)), (ga 17, .inl (gc 17, 3, .inl a17)), (ga 23, .inl (gc 23, 3, .inl a23))]) [0, 1, 2, 3, 4, 5] (by decide) rfl
    exact cut2_1 a11 a12 a13 a17 _ _ _ (by repeat' first | assumption | apply mk3_n) hSq hl hP hD hS

set_option maxHeartbeats 4000000 in
set_option maxRecDepth 100000 in
theorem c_M_copyAll (l : Launch) (dC : Nat → ClassId) (dI : Nat → Nat → Nat) (m0 : Nat) (ga : Nat → Nat) (gc : Nat → ClassId) (uM : Nat → Int32) (cn : Nat) (sn : Nat) (cm : Nat) (us : Nat) (wt : Nat) (oc : Nat) (ou : Nat) (ow : Nat) (a8 : Nat → Int32) (a9 : Nat → Int32) (a10 : Nat → Int32) (a11 : Nat → Int32) (a12 : Nat → Int32) (a23 : Nat → Int32) (h8 : wdI 24 a8) (h10 : c3I cn a10) (h12 : mk3 a11 a12) (hin : s3 a11) (sz : Nat) : Met l y_M_copyAll (tbw y_M_copyAll b_M_copyAll 4 none) ({ frames := 1, cells := 0, slots := 0, locals := 22 }) (va_Pc [.ref m0] (fun U => U.heap.size = sz ∧ va_P (dC, dI) classes [(m0, .inr (6, oM ga uM cn sn cm us wt oc ou ow)), (ga 8, .inl (gc 8, 24, .inl a8)), (ga 9, .inl (gc 9, 96, .inl a9)), (ga 10, .inl (gc 10, 3, .inl a10)), (ga 11, .inl (gc 11, 3, .inl a11)), (ga 12, .inl (gc 12, 3, .inl a12)), (ga 23, .inl (gc 23, 3, .inl a23))] U.heap ∧ va_K (dC, dI) classes [(gc 8, .int), (gc 9, .int), (gc 10, .int), (gc 11, .int), (gc 12, .int), (gc 23, .boolean)] U ∧ va_D (fun _ => True) [(m0, .inr (6, oM ga uM cn sn cm us wt oc ou ow)), (ga 8, .inl (gc 8, 24, .inl a8)), (ga 9, .inl (gc 9, 96, .inl a9)), (ga 10, .inl (gc 10, 3, .inl a10)), (ga 11, .inl (gc 11, 3, .inl a11)), (ga 12, .inl (gc 12, 3, .inl a12)), (ga 23, .inl (gc 23, 3, .inl a23))])) (va_Qv (fun (u9 : (Nat → Int32) × (Nat → Int32) × (Nat → Int32) × (Nat → Int32) × (Nat → Int32)) => match u9 with | (a8n, a9n, a10n, a11n, a12n) => (wdI 24 a8n ∧ c3I cn a10n ∧ mk3 a11n a12n ∧ s3 a11n) ∧ (a8n, a9n, a10n, a11n, a12n) = s_M_copyAll a8 a9 a10 a11 a12 a23) (fun (u9 : (Nat → Int32) × (Nat → Int32) × (Nat → Int32) × (Nat → Int32) × (Nat → Int32)) t => match u9 with | (a8n, a9n, a10n, a11n, a12n) => va_P (dC, dI) classes [(m0, .inr (6, oM ga uM cn sn cm us wt oc ou ow)), (ga 8, .inl (gc 8, 24, .inl a8n)), (ga 9, .inl (gc 9, 96, .inl a9n)), (ga 10, .inl (gc 10, 3, .inl a10n)), (ga 11, .inl (gc 11, 3, .inl a11n)), (ga 12, .inl (gc 12, 3, .inl a12n)), (ga 23, .inl (gc 23, 3, .inl a23))] t.heap ∧ va_K (dC, dI) classes [(gc 8, .int), (gc 9, .int), (gc 10, .int), (gc 11, .int), (gc 12, .int), (gc 23, .boolean)] t ∧ va_D (va_A [(m0, .inr (6, oM ga uM cn sn cm us wt oc ou ow)), (ga 8, .inl (gc 8, 24, .inl a8)), (ga 9, .inl (gc 9, 96, .inl a9)), (ga 10, .inl (gc 10, 3, .inl a10)), (ga 11, .inl (gc 11, 3, .inl a11)), (ga 12, .inl (gc 12, 3, .inl a12)), (ga 23, .inl (gc 23, 3, .inl a23))] sz) [(m0, .inr (6, oM ga uM cn sn cm us wt oc ou ow)), (ga 8, .inl (gc 8, 24, .inl a8n)), (ga 9, .inl (gc 9, 96, .inl a9n)), (ga 10, .inl (gc 10, 3, .inl a10n)), (ga 11, .inl (gc 11, 3, .inl a11n)), (ga 12, .inl (gc 12, 3, .inl a12n)), (ga 23, .inl (gc 23, 3, .inl a23))]) (va_A [(m0, .inr (6, oM ga uM cn sn cm us wt oc ou ow)), (ga 8, .inl (gc 8, 24, .inl a8)), (ga 9, .inl (gc 9, 96, .inl a9)), (ga 10, .inl (gc 10, 3, .inl a10)), (ga 11, .inl (gc 11, 3, .inl a11)), (ga 12, .inl (gc 12, 3, .inl a12)), (ga 23, .inl (gc 23, 3, .inl a23))] sz)) 0 0 (va_A [(m0, .inr (6, oM ga uM cn sn cm us wt oc ou ow)), (ga 8, .inl (gc 8, 24, .inl a8)), (ga 9, .inl (gc 9, 96, .inl a9)), (ga 10, .inl (gc 10, 3, .inl a10)), (ga 11, .inl (gc 11, 3, .inl a11)), (ga 12, .inl (gc 12, 3, .inl a12)), (ga 23, .inl (gc 23, 3, .inl a23))] sz) := by
  refine Met.ofW (cc := b_M_copyAll) (maxL := 4) (ret := none) (by decide) rfl ?_
  intro p e s m args below meth c s₁ B hml hv
  obtain ⟨rfl, hsz, hP, hK, hD0⟩ := hv
  have hx := B.exec
  have hb := B.bytes
  have hr := B.returns
  have hts := atoms_spec (ws := (tbw y_M_copyAll b_M_copyAll 4 none)) B.pre
  have hw : ∀ z9 ∈ tb, z9.before ([.ref m0] : List Value).toArray s = true := fun z9 h => hts z9 (List.mem_cons_of_mem _ h)
  have hown : s.vm.findClass "VotedTripleModel" = some m.cls := findClass_of_methodNamed B.named
  have hlocks := B.notSynchronized
  subst hsz
  replace hD := hD0.self (sz := s.heap.size)
  generalize hAe : va_A [(m0, .inr (6, oM ga uM cn sn cm us wt oc ou ow)), (ga 8, .inl (gc 8, 24, .inl a8)), (ga 9, .inl (gc 9, 96, .inl a9)), (ga 10, .inl (gc 10, 3, .inl a10)), (ga 11, .inl (gc 11, 3, .inl a11)), (ga 12, .inl (gc 12, 3, .inl a12)), (ga 23, .inl (gc 23, 3, .inl a23))] s.heap.size = A at hD ⊢
  have hA : ∀ q : Nat, s.heap.size ≤ q → A q := fun q h => by rw [← hAe]; exact Or.inr h
  have hS : va_S A s.heap s.heap [] := va_S.rf
  replace hl := lv_entry ([.ref m0]) (n := 4) (Nat.le_of_ble_eq_true rfl)
  rw [lg_entry_eq]
  generalize (lg_sl ([.ref m0]) ++ List.replicate (4 - (lg_sl ([.ref m0])).length) Slot.unset).toArray = ls at hl ⊢
  replace hl : lv_has ls 4 [(0, .ref m0)] := hl
  generalize hSP : s_M_copyAll a8 a9 a10 a11 a12 a23 = SP
  have cut8_3 : ∀ (a8 : Nat → Int32) (a9 : Nat → Int32) (a10 : Nat → Int32) (a11 : Nat → Int32) (a12 : Nat → Int32) (w1 : Int32) (ls : Array Slot) (H : Heap) (locs : List Loc), wdI 24 a8 → c3I cn a10 → (∃ q : Nat, q < 3 ∧ w1 = nI q) → mk3 a11 a12 → s3 a11 → SP = s_M_copyAll_cut8_3 a8 a9 a10 a11 a12 w1 →  lv_has ls 4 [(0, .ref m0), (1, .int w1), (2, .int 3)] → va_P (dC, dI) classes [(m0, .inr (6, oM ga uM cn sn cm us wt oc ou ow)), (ga 8, .inl (gc 8, 24, .inl a8)), (ga 9, .inl (gc 9, 96, .inl a9)), (ga 10, .inl (gc 10, 3, .inl a10)), (ga 11, .inl (gc 11, 3, .inl a11)), (ga 12, .inl (gc 12, 3, .inl a12)), (ga 23, .inl (gc 23, 3, .inl a23))] H → va_D A [(m0, .inr (6, oM ga uM cn sn cm us wt oc ou ow)), (ga 8, .inl (gc 8, 24, .inl a8)), (ga 9, .inl (gc 9, 96, .inl a9)), (ga 10, .inl (gc 10, 3, .inl a10)), (ga 11, .inl (gc 11, 3, .inl a11)), (ga 12, .inl (gc 12, 3, .inl a12)), (ga 23, .inl (gc 23, 3, .inl a23))] → va_S A s.heap H locs → W p l e (headSpec (tbw y_M_copyAll b_M_copyAll 4 none) ({ frames := 1, cells := 0, slots := 0, locals := 22 })).room s m ([.ref m0] : List Value).toArray below meth c H locs 0 0 (MQ below (va_Qv (fun (u9 : (Nat → Int32) × (Nat → Int32) × (Nat → Int32) × (Nat → Int32) × (Nat → Int32)) => match u9 with | (a8n, a9n, a10n, a11n, a12n) => (wdI 24 a8n ∧ c3I cn a10n ∧ mk3 a11n a12n ∧ s3 a11n) ∧ (a8n, a9n, a10n, a11n, a12n) = SP) (fun (u9 : (Nat → Int32) × (Nat → Int32) × (Nat → Int32) × (Nat → Int32) × (Nat → Int32)) t => match u9 with | (a8n, a9n, a10n, a11n, a12n) => va_P (dC, dI) classes [(m0, .inr (6, oM ga uM cn sn cm us wt oc ou ow)), (ga 8, .inl (gc 8, 24, .inl a8n)), (ga 9, .inl (gc 9, 96, .inl a9n)), (ga 10, .inl (gc 10, 3, .inl a10n)), (ga 11, .inl (gc 11, 3, .inl a11n)), (ga 12, .inl (gc 12, 3, .inl a12n)), (ga 23, .inl (gc 23, 3, .inl a23))] t.heap ∧ va_K (dC, dI) classes [(gc 8, .int), (gc 9, .int), (gc 10, .int), (gc 11, .int), (gc 12, .int), (gc 23, .boolean)] t ∧ va_D A [(m0, .inr (6, oM ga uM cn sn cm us wt oc ou ow)), (ga 8, .inl (gc 8, 24, .inl a8n)), (ga 9, .inl (gc 9, 96, .inl a9n)), (ga 10, .inl (gc 10, 3, .inl a10n)), (ga 11, .inl (gc 11, 3, .inl a11n)), (ga 12, .inl (gc 12, 3, .inl a12n)), (ga 23, .inl (gc 23, 3, .inl a23))]) A) ([.ref m0] : List Value).toArray s 0 0 A) (F0 m 8 ls []) := by
    intro a8 a9 a10 a11 a12 w1 ls H locs h8 h10 h19 h12 hin hSq0 hl hP hD hS
    have h19c := h19
    obtain ⟨q1, hq1, e1⟩ := h19c
    refine lv_iload_n hx hb d_M_copyAll_8 rfl (lv_at hl 2 rfl) ?_
    refine lv_iconst (v := 3) hx hb d_M_copyAll_9 (by decide) ?_
    refine lv_icmp_ge (tgt := 152) hx hb d_M_copyAll_10 rfl (fun hc1 => ?_) (fun hc1 => by first | exact absurd (by decide) hc1 | exact absurd hc1 (by decide))
    have hP9 := hP.sub (ws' := [(m0, .inr (6, oM ga uM cn sn cm us wt oc ou ow)), (ga 8, .inl (gc 8, 24, .inl a8)), (ga 9, .inl (gc 9, 96, .inl a9)), (ga 10, .inl (gc 10, 3, .inl a10)), (ga 11, .inl (gc 11, 3, .inl a11)), (ga 12, .inl (gc 12, 3, .inl a12)), (ga 23, .inl (gc 23, 3, .inl a23))]) [0, 1, 2, 3, 4, 5, 6] rfl
    have hD9 := hD.sub (ws' := [(m0, .inr (6, oM ga uM cn sn cm us wt oc ou ow)), (ga 8, .inl (gc 8, 24, .inl a8)), (ga 9, .inl (gc 9, 96, .inl a9)), (ga 10, .inl (gc 10, 3, .inl a10)), (ga 11, .inl (gc 11, 3, .inl a11)), (ga 12, .inl (gc 12, 3, .inl a12)), (ga 23, .inl (gc 23, 3, .inl a23))]) [0, 1, 2, 3, 4, 5, 6] (by decide) rfl
    have hK9 := hK.sub (tys' := [(gc 8, .int), (gc 9, .int), (gc 10, .int), (gc 11, .int), (gc 12, .int), (gc 23, .boolean)]) [0, 1, 2, 3, 4, 5] rfl
    refine W.widen (k := 0) (n := 0) (Nat.le_of_ble_eq_true rfl) (Nat.le_of_ble_eq_true rfl) ?_
    exact W.vret hx hb hr (fun t ht hW => ⟨⟨(a8, a9, a10, a11, a12), rfl, ⟨⟨(by repeat' first | with_reducible assumption | with_reducible exact is16_0 | with_reducible exact is16_m _ | with_reducible exact set16' _ | with_reducible apply rgI_upd | with_reducible apply c3_upd | with_reducible apply o3_upd | exact Or.inl rfl | exact ⟨0, by with_reducible assumption, rfl⟩ | omega | assumption), (by repeat' first | with_reducible assumption | with_reducible exact is16_0 | with_reducible exact is16_m _ | with_reducible exact set16' _ | with_reducible apply rgI_upd | with_reducible apply c3_upd | with_reducible apply o3_upd | exact Or.inl rfl | exact ⟨0, by with_reducible assumption, rfl⟩ | omega | assumption), h12, hin⟩, (by rw [hSq0, s_M_copyAll_cut8_3]; all_goals rfl)⟩, by rw [ht]; exact hP9, va_K.moved hW.alike hK9, hD9⟩, hS.F ht⟩) hS.2.2 d_M_copyAll_152
  have ci2_93 : ∀ (n9 : Nat) (i : Nat) (a8 : Nat → Int32) (a9 : Nat → Int32) (a10 : Nat → Int32) (a11 : Nat → Int32) (a12 : Nat → Int32) (w1 : Int32) (ls : Array Slot) (H : Heap) (locs : List Loc), i + n9 = 8 → wdI 24 a8 → c3I cn a10 → (∃ q : Nat, q < 3 ∧ w1 = nI q) → mk3 (upd a11 2 0) a12 → s3 a11 → SP = s_M_copyAll_ci2_93 n9 i a8 a9 a10 a11 a12 w1 →  lv_has ls 4 [(0, .ref m0), (1, .int w1), (2, .int 2), (3, .int (nI i))] → va_P (dC, dI) classes [(m0, .inr (6, oM ga uM cn sn cm us wt oc ou ow)), (ga 8, .inl (gc 8, 24, .inl a8)), (ga 9, .inl (gc 9, 96, .inl a9)), (ga 10, .inl (gc 10, 3, .inl a10)), (ga 11, .inl (gc 11, 3, .inl a11)), (ga 12, .inl (gc 12, 3, .inl a12)), (ga 23, .inl (gc 23, 3, .inl a23))] H → va_D A [(m0, .inr (6, oM ga uM cn sn cm us wt oc ou ow)), (ga 8, .inl (gc 8, 24, .inl a8)), (ga 9, .inl (gc 9, 96, .inl a9)), (ga 10, .inl (gc 10, 3, .inl a10)), (ga 11, .inl (gc 11, 3, .inl a11)), (ga 12, .inl (gc 12, 3, .inl a12)), (ga 23, .inl (gc 23, 3, .inl a23))] → va_S A s.heap H locs → W p l e (headSpec (tbw y_M_copyAll b_M_copyAll 4 none) ({ frames := 1, cells := 0, slots := 0, locals := 22 })).room s m ([.ref m0] : List Value).toArray below meth c H locs 0 0 (MQ below (va_Qv (fun (u9 : (Nat → Int32) × (Nat → Int32) × (Nat → Int32) × (Nat → Int32) × (Nat → Int32)) => match u9 with | (a8n, a9n, a10n, a11n, a12n) => (wdI 24 a8n ∧ c3I cn a10n ∧ mk3 a11n a12n ∧ s3 a11n) ∧ (a8n, a9n, a10n, a11n, a12n) = SP) (fun (u9 : (Nat → Int32) × (Nat → Int32) × (Nat → Int32) × (Nat → Int32) × (Nat → Int32)) t => match u9 with | (a8n, a9n, a10n, a11n, a12n) => va_P (dC, dI) classes [(m0, .inr (6, oM ga uM cn sn cm us wt oc ou ow)), (ga 8, .inl (gc 8, 24, .inl a8n)), (ga 9, .inl (gc 9, 96, .inl a9n)), (ga 10, .inl (gc 10, 3, .inl a10n)), (ga 11, .inl (gc 11, 3, .inl a11n)), (ga 12, .inl (gc 12, 3, .inl a12n)), (ga 23, .inl (gc 23, 3, .inl a23))] t.heap ∧ va_K (dC, dI) classes [(gc 8, .int), (gc 9, .int), (gc 10, .int), (gc 11, .int), (gc 12, .int), (gc 23, .boolean)] t ∧ va_D A [(m0, .inr (6, oM ga uM cn sn cm us wt oc ou ow)), (ga 8, .inl (gc 8, 24, .inl a8n)), (ga 9, .inl (gc 9, 96, .inl a9n)), (ga 10, .inl (gc 10, 3, .inl a10n)), (ga 11, .inl (gc 11, 3, .inl a11n)), (ga 12, .inl (gc 12, 3, .inl a12n)), (ga 23, .inl (gc 23, 3, .inl a23))]) A) ([.ref m0] : List Value).toArray s 0 0 A) (F0 m 93 ls []) := by
    intro n9
    induction n9 with
    | zero =>
      intro i a8 a9 a10 a11 a12 w1 ls H locs hn9 h8 h10 h19 hmx hin hSq0 hl hP hD hS
      have h19c := h19
      obtain ⟨q1, hq1, e1⟩ := h19c
      refine lv_iload_n hx hb d_M_copyAll_93 rfl (lv_at hl 3 rfl) ?_
      refine lv_bipush (v := 8) hx hb d_M_copyAll_94 (by decide) ?_
      refine lv_icmp_ge (tgt := 127) hx hb d_M_copyAll_96 rfl (fun hc2 => ?_) (fun hc2 => by first | exact absurd (by rw [show i = 8 by omega]; decide) hc2 | exact absurd hc2 (by rw [show i = 8 by omega]; decide))
      refine lv_aload_n hx hb d_M_copyAll_127 rfl (lv_at hl 0 rfl) ?_
      refine va_get (D := (dC, dI)) (ci := 6) (v := .ref (ga 10)) (C := "VotedTripleModel") (T := F_M) (N := 37) hx hb hw in_M hown hK hP 0 rfl rfl 10 (by decide) (hw _ k_734) (fun _ h9 => h9) rfl d_M_copyAll_128 ?_
      refine lv_iload_n hx hb d_M_copyAll_131 rfl (lv_at hl 2 rfl) ?_
      refine lv_aload_n hx hb d_M_copyAll_132 rfl (lv_at hl 0 rfl) ?_
      refine va_get (D := (dC, dI)) (ci := 6) (v := .ref (ga 10)) (C := "VotedTripleModel") (T := F_M) (N := 37) hx hb hw in_M hown hK hP 0 rfl rfl 10 (by decide) (hw _ k_734) (fun _ h9 => h9) rfl d_M_copyAll_133 ?_
      refine lv_iload_n hx hb d_M_copyAll_136 rfl (lv_at hl 1 rfl) ?_
      refine va_iald hx hb hK hP 3 2 rfl rfl (mi_in e1 hq1) d_M_copyAll_137 ?_
      have hc9 := c3_at h10 e1 hq1
      refine va_iast hx hb hK hP hD hS 3 2 rfl rfl (by unfold vp_in; decide) d_M_copyAll_138 (fun H locs hP hD hS => ?_)
      replace hP : va_P (dC, dI) classes [(m0, .inr (6, oM ga uM cn sn cm us wt oc ou ow)), (ga 8, .inl (gc 8, 24, .inl a8)), (ga 9, .inl (gc 9, 96, .inl a9)), (ga 10, .inl (gc 10, 3, .inl (upd a10 2 (a10 (Int32.toNatClampNeg w1))))), (ga 11, .inl (gc 11, 3, .inl a11)), (ga 12, .inl (gc 12, 3, .inl a12)), (ga 23, .inl (gc 23, 3, .inl a23))] H := hP
      replace hD : va_D A [(m0, .inr (6, oM ga uM cn sn cm us wt oc ou ow)), (ga 8, .inl (gc 8, 24, .inl a8)), (ga 9, .inl (gc 9, 96, .inl a9)), (ga 10, .inl (gc 10, 3, .inl (upd a10 2 (a10 (Int32.toNatClampNeg w1))))), (ga 11, .inl (gc 11, 3, .inl a11)), (ga 12, .inl (gc 12, 3, .inl a12)), (ga 23, .inl (gc 23, 3, .inl a23))] := hD
      refine lv_aload_n hx hb d_M_copyAll_139 rfl (lv_at hl 0 rfl) ?_
      refine va_get (D := (dC, dI)) (ci := 6) (v := .ref (ga 11)) (C := "VotedTripleModel") (T := F_M) (N := 37) hx hb hw in_M hown hK hP 0 rfl rfl 11 (by decide) (hw _ k_735) (fun _ h9 => h9) rfl d_M_copyAll_140 ?_
      refine lv_iload_n hx hb d_M_copyAll_143 rfl (lv_at hl 2 rfl) ?_
      refine lv_iconst (v := 0) hx hb d_M_copyAll_144 (by decide) ?_
      refine va_iast hx hb hK hP hD hS 4 3 rfl rfl (by unfold vp_in; decide) d_M_copyAll_145 (fun H locs hP hD hS => ?_)
      replace hP : va_P (dC, dI) classes [(m0, .inr (6, oM ga uM cn sn cm us wt oc ou ow)), (ga 8, .inl (gc 8, 24, .inl a8)), (ga 9, .inl (gc 9, 96, .inl a9)), (ga 10, .inl (gc 10, 3, .inl (upd a10 2 (a10 (Int32.toNatClampNeg w1))))), (ga 11, .inl (gc 11, 3, .inl (upd a11 2 (0 : Int32)))), (ga 12, .inl (gc 12, 3, .inl a12)), (ga 23, .inl (gc 23, 3, .inl a23))] H := hP
      replace hD : va_D A [(m0, .inr (6, oM ga uM cn sn cm us wt oc ou ow)), (ga 8, .inl (gc 8, 24, .inl a8)), (ga 9, .inl (gc 9, 96, .inl a9)), (ga 10, .inl (gc 10, 3, .inl (upd a10 2 (a10 (Int32.toNatClampNeg w1))))), (ga 11, .inl (gc 11, 3, .inl (upd a11 2 (0 : Int32)))), (ga 12, .inl (gc 12, 3, .inl a12)), (ga 23, .inl (gc 23, 3, .inl a23))] := hD
      refine lv_iinc (k := 2) (v := 3) hx hb d_M_copyAll_146 hl rfl rfl (by decide) rfl (fun ls hl => ?_)
      replace hl : lv_has ls 4 [(2, .int 3), (0, .ref m0), (1, .int w1), (3, .int (nI i))] := hl
      refine lv_goto (tgt := 8) hx hb d_M_copyAll_149 rfl ?_
      have hSq : SP = s_M_copyAll_cut8_3 a8 a9 (upd a10 2 (a10 (Int32.toNatClampNeg w1))) (upd a11 2 (0 : Int32)) a12 w1 := by rw [hSq0, s_M_copyAll_ci2_93]; all_goals rfl
      replace hl := lv_sub hl (l' := [(0, .ref m0), (1, .int w1), (2, .int 3)]) [1, 2, 0] rfl
      replace hP := hP.sub (ws' := [(m0, .inr (6, oM ga uM cn sn cm us wt oc ou ow)), (ga 8, .inl (gc 8, 24, .inl a8)), (ga 9, .inl (gc 9, 96, .inl a9)), (ga 10, .inl (gc 10, 3, .inl (upd a10 2 (a10 (Int32.toNatClampNeg w1))))), (ga 11, .inl (gc 11, 3, .inl (upd a11 2 (0 : Int32)))), (ga 12, .inl (gc 12, 3, .inl a12)), (ga 23, .inl (gc 23, 3, .inl a23))]) [0, 1, 2, 3, 4, 5, 6] rfl
      replace hD := hD.sub (ws' := [(m0, .inr (6, oM ga uM cn sn cm us wt oc ou ow)), (ga 8, .inl (gc 8, 24, .inl a8)), (ga 9, .inl (gc 9, 96, .inl a9)), (ga 10, .inl (gc 10, 3, .inl (upd a10 2 (a10 (Int32.toNatClampNeg w1))))), (ga 11, .inl (gc 11, 3, .inl (upd a11 2 (0 : Int32)))), (ga 12, .inl (gc 12, 3, .inl a12)), (ga 23, .inl (gc 23, 3, .inl a23))]) [0, 1, 2, 3, 4, 5, 6] (by decide) rfl
      exact cut8_3 a8 a9 (upd a10 2 (a10 (Int32.toNatClampNeg w1))) (upd a11 2 (0 : Int32)) a12 w1 _ _ _ (by repeat' first | with_reducible assumption | with_reducible exact is16_0 | with_reducible exact is16_m _ | with_reducible exact set16' _ | with_reducible apply rgI_upd | with_reducible apply c3_upd | with_reducible apply o3_upd | exact Or.inl rfl | exact ⟨0, by with_reducible assumption, rfl⟩ | omega | assumption) (by repeat' first | with_reducible assumption | with_reducible exact is16_0 | with_reducible exact is16_m _ | with_reducible exact set16' _ | with_reducible apply rgI_upd | with_reducible apply c3_upd | with_reducible apply o3_upd | exact Or.inl rfl | exact ⟨0, by with_reducible assumption, rfl⟩ | omega | assumption) h19 hmx (s3_0 hin) hSq hl hP hD hS
    | succ n9 ih =>
      intro i a8 a9 a10 a11 a12 w1 ls H locs hn9 h8 h10 h19 hmx hin hSq0 hl hP hD hS
      have h19c := h19
      obtain ⟨q1, hq1, e1⟩ := h19c
      refine lv_iload_n hx hb d_M_copyAll_93 rfl (lv_at hl 3 rfl) ?_
      refine lv_bipush (v := 8) hx hb d_M_copyAll_94 (by decide) ?_
      refine lv_icmp_ge (tgt := 127) hx hb d_M_copyAll_96 rfl (fun hc3 => by first | exact absurd hc3 (fun h9 => absurd ((nI_leI (a := 8) (b := i) (by omega) (by omega)).mp h9) (by omega)) | exact absurd (fun h9 => absurd ((nI_leI (a := 8) (b := i) (by omega) (by omega)).mp h9) (by omega)) hc3) (fun hc3 => ?_)
      refine lv_aload_n hx hb d_M_copyAll_99 rfl (lv_at hl 0 rfl) ?_
      refine va_get (D := (dC, dI)) (ci := 6) (v := .ref (ga 8)) (C := "VotedTripleModel") (T := F_M) (N := 37) hx hb hw in_M hown hK hP 0 rfl rfl 8 (by decide) (hw _ k_732) (fun _ h9 => h9) rfl d_M_copyAll_100 ?_
      refine lv_bipush (v := 8) hx hb d_M_copyAll_103 (by decide) ?_
      refine lv_iload_n hx hb d_M_copyAll_105 rfl (lv_at hl 2 rfl) ?_
      refine lv_imul hx hb d_M_copyAll_106 ?_
      refine lv_iload_n hx hb d_M_copyAll_107 rfl (lv_at hl 3 rfl) ?_
      refine lv_iadd hx hb d_M_copyAll_108 ?_
      refine lv_aload_n hx hb d_M_copyAll_109 rfl (lv_at hl 0 rfl) ?_
      refine va_get (D := (dC, dI)) (ci := 6) (v := .ref (ga 8)) (C := "VotedTripleModel") (T := F_M) (N := 37) hx hb hw in_M hown hK hP 0 rfl rfl 8 (by decide) (hw _ k_732) (fun _ h9 => h9) rfl d_M_copyAll_110 ?_
      refine lv_bipush (v := 8) hx hb d_M_copyAll_113 (by decide) ?_
      refine lv_iload_n hx hb d_M_copyAll_115 rfl (lv_at hl 1 rfl) ?_
      refine lv_imul hx hb d_M_copyAll_116 ?_
      refine lv_iload_n hx hb d_M_copyAll_117 rfl (lv_at hl 3 rfl) ?_
      refine lv_iadd hx hb d_M_copyAll_118 ?_
      refine va_iald hx hb hK hP 1 0 rfl rfl (ix8 e1 hq1 (vp_in_nI (by omega) (by decide))) d_M_copyAll_119 ?_
      have hv4 : is16 (a8 (Int32.toNatClampNeg (((8 : Int32) * w1) + (nI i)))) := rg_at h8 (ix8 e1 hq1 (vp_in_nI (by omega) (by decide))) (by decide)
      refine va_iast hx hb hK hP hD hS 1 0 rfl rfl (ix8 (mi := 2) (mk := 2) rfl (by decide) (vp_in_nI (by omega) (by decide))) d_M_copyAll_120 (fun H locs hP hD hS => ?_)
      replace hP : va_P (dC, dI) classes [(m0, .inr (6, oM ga uM cn sn cm us wt oc ou ow)), (ga 8, .inl (gc 8, 24, .inl (upd a8 (Int32.toNatClampNeg (((8 : Int32) * (2 : Int32)) + (nI i))) (a8 (Int32.toNatClampNeg (((8 : Int32) * w1) + (nI i))))))), (ga 9, .inl (gc 9, 96, .inl a9)), (ga 10, .inl (gc 10, 3, .inl a10)), (ga 11, .inl (gc 11, 3, .inl a11)), (ga 12, .inl (gc 12, 3, .inl a12)), (ga 23, .inl (gc 23, 3, .inl a23))] H := hP
      replace hD : va_D A [(m0, .inr (6, oM ga uM cn sn cm us wt oc ou ow)), (ga 8, .inl (gc 8, 24, .inl (upd a8 (Int32.toNatClampNeg (((8 : Int32) * (2 : Int32)) + (nI i))) (a8 (Int32.toNatClampNeg (((8 : Int32) * w1) + (nI i))))))), (ga 9, .inl (gc 9, 96, .inl a9)), (ga 10, .inl (gc 10, 3, .inl a10)), (ga 11, .inl (gc 11, 3, .inl a11)), (ga 12, .inl (gc 12, 3, .inl a12)), (ga 23, .inl (gc 23, 3, .inl a23))] := hD
      refine lv_iinc (k := 3) (v := nI (i + 1)) hx hb d_M_copyAll_121 hl rfl (nI_1 i) (by decide) rfl (fun ls hl => ?_)
      replace hl : lv_has ls 4 [(3, .int (nI (i + 1))), (0, .ref m0), (1, .int w1), (2, .int 2)] := hl
      refine lv_goto (tgt := 93) hx hb d_M_copyAll_124 rfl ?_
      have hSq : SP = s_M_copyAll_ci2_93 n9 (i + 1) (upd a8 (Int32.toNatClampNeg (((8 : Int32) * (2 : Int32)) + (nI i))) (a8 (Int32.toNatClampNeg (((8 : Int32) * w1) + (nI i))))) a9 a10 a11 a12 w1 := by rw [hSq0, s_M_copyAll_ci2_93]; all_goals rfl
      replace hl := lv_sub hl (l' := [(0, .ref m0), (1, .int w1), (2, .int 2), (3, .int (nI (i + 1)))]) [1, 2, 3, 0] rfl
      replace hP := hP.sub (ws' := [(m0, .inr (6, oM ga uM cn sn cm us wt oc ou ow)), (ga 8, .inl (gc 8, 24, .inl (upd a8 (Int32.toNatClampNeg (((8 : Int32) * (2 : Int32)) + (nI i))) (a8 (Int32.toNatClampNeg (((8 : Int32) * w1) + (nI i))))))), (ga 9, .inl (gc 9, 96, .inl a9)), (ga 10, .inl (gc 10, 3, .inl a10)), (ga 11, .inl (gc 11, 3, .inl a11)), (ga 12, .inl (gc 12, 3, .inl a12)), (ga 23, .inl (gc 23, 3, .inl a23))]) [0, 1, 2, 3, 4, 5, 6] rfl
      replace hD := hD.sub (ws' := [(m0, .inr (6, oM ga uM cn sn cm us wt oc ou ow)), (ga 8, .inl (gc 8, 24, .inl (upd a8 (Int32.toNatClampNeg (((8 : Int32) * (2 : Int32)) + (nI i))) (a8 (Int32.toNatClampNeg (((8 : Int32) * w1) + (nI i))))))), (ga 9, .inl (gc 9, 96, .inl a9)), (ga 10, .inl (gc 10, 3, .inl a10)), (ga 11, .inl (gc 11, 3, .inl a11)), (ga 12, .inl (gc 12, 3, .inl a12)), (ga 23, .inl (gc 23, 3, .inl a23))]) [0, 1, 2, 3, 4, 5, 6] (by decide) rfl
      exact ih (i + 1) (upd a8 (Int32.toNatClampNeg (((8 : Int32) * (2 : Int32)) + (nI i))) (a8 (Int32.toNatClampNeg (((8 : Int32) * w1) + (nI i))))) a9 a10 a11 a12 w1 _ _ _ (by omega) (by repeat' first | with_reducible assumption | with_reducible exact is16_0 | with_reducible exact is16_m _ | with_reducible exact set16' _ | with_reducible apply rgI_upd | with_reducible apply c3_upd | with_reducible apply o3_upd | exact Or.inl rfl | exact ⟨0, by with_reducible assumption, rfl⟩ | omega | assumption) (by repeat' first | with_reducible assumption | with_reducible exact is16_0 | with_reducible exact is16_m _ | with_reducible exact set16' _ | with_reducible apply rgI_upd | with_reducible apply c3_upd | with_reducible apply o3_upd | exact Or.inl rfl | exact ⟨0, by with_reducible assumption, rfl⟩ | omega | assumption) h19 hmx hin hSq hl hP hD hS
  have cut8_2 : ∀ (a8 : Nat → Int32) (a9 : Nat → Int32) (a10 : Nat → Int32) (a11 : Nat → Int32) (a12 : Nat → Int32) (w1 : Int32) (ls : Array Slot) (H : Heap) (locs : List Loc), wdI 24 a8 → c3I cn a10 → (∃ q : Nat, q < 3 ∧ w1 = nI q) → mk3 a11 a12 → s3 a11 → SP = s_M_copyAll_cut8_2 a23 a8 a9 a10 a11 a12 w1 →  lv_has ls 4 [(0, .ref m0), (1, .int w1), (2, .int 2)] → va_P (dC, dI) classes [(m0, .inr (6, oM ga uM cn sn cm us wt oc ou ow)), (ga 8, .inl (gc 8, 24, .inl a8)), (ga 9, .inl (gc 9, 96, .inl a9)), (ga 10, .inl (gc 10, 3, .inl a10)), (ga 11, .inl (gc 11, 3, .inl a11)), (ga 12, .inl (gc 12, 3, .inl a12)), (ga 23, .inl (gc 23, 3, .inl a23))] H → va_D A [(m0, .inr (6, oM ga uM cn sn cm us wt oc ou ow)), (ga 8, .inl (gc 8, 24, .inl a8)), (ga 9, .inl (gc 9, 96, .inl a9)), (ga 10, .inl (gc 10, 3, .inl a10)), (ga 11, .inl (gc 11, 3, .inl a11)), (ga 12, .inl (gc 12, 3, .inl a12)), (ga 23, .inl (gc 23, 3, .inl a23))] → va_S A s.heap H locs → W p l e (headSpec (tbw y_M_copyAll b_M_copyAll 4 none) ({ frames := 1, cells := 0, slots := 0, locals := 22 })).room s m ([.ref m0] : List Value).toArray below meth c H locs 0 0 (MQ below (va_Qv (fun (u9 : (Nat → Int32) × (Nat → Int32) × (Nat → Int32) × (Nat → Int32) × (Nat → Int32)) => match u9 with | (a8n, a9n, a10n, a11n, a12n) => (wdI 24 a8n ∧ c3I cn a10n ∧ mk3 a11n a12n ∧ s3 a11n) ∧ (a8n, a9n, a10n, a11n, a12n) = SP) (fun (u9 : (Nat → Int32) × (Nat → Int32) × (Nat → Int32) × (Nat → Int32) × (Nat → Int32)) t => match u9 with | (a8n, a9n, a10n, a11n, a12n) => va_P (dC, dI) classes [(m0, .inr (6, oM ga uM cn sn cm us wt oc ou ow)), (ga 8, .inl (gc 8, 24, .inl a8n)), (ga 9, .inl (gc 9, 96, .inl a9n)), (ga 10, .inl (gc 10, 3, .inl a10n)), (ga 11, .inl (gc 11, 3, .inl a11n)), (ga 12, .inl (gc 12, 3, .inl a12n)), (ga 23, .inl (gc 23, 3, .inl a23))] t.heap ∧ va_K (dC, dI) classes [(gc 8, .int), (gc 9, .int), (gc 10, .int), (gc 11, .int), (gc 12, .int), (gc 23, .boolean)] t ∧ va_D A [(m0, .inr (6, oM ga uM cn sn cm us wt oc ou ow)), (ga 8, .inl (gc 8, 24, .inl a8n)), (ga 9, .inl (gc 9, 96, .inl a9n)), (ga 10, .inl (gc 10, 3, .inl a10n)), (ga 11, .inl (gc 11, 3, .inl a11n)), (ga 12, .inl (gc 12, 3, .inl a12n)), (ga 23, .inl (gc 23, 3, .inl a23))]) A) ([.ref m0] : List Value).toArray s 0 0 A) (F0 m 8 ls []) := by
    intro a8 a9 a10 a11 a12 w1 ls H locs h8 h10 h19 h12 hin hSq0 hl hP hD hS
    have h19c := h19
    obtain ⟨q1, hq1, e1⟩ := h19c
    refine lv_iload_n hx hb d_M_copyAll_8 rfl (lv_at hl 2 rfl) ?_
    refine lv_iconst (v := 3) hx hb d_M_copyAll_9 (by decide) ?_
    refine lv_icmp_ge (tgt := 152) hx hb d_M_copyAll_10 rfl (fun hc5 => by first | exact absurd hc5 (by decide) | exact absurd (by decide) hc5) (fun hc5 => ?_)
    refine lv_aload_n hx hb d_M_copyAll_13 rfl (lv_at hl 0 rfl) ?_
    refine va_get (D := (dC, dI)) (ci := 6) (v := .ref (ga 11)) (C := "VotedTripleModel") (T := F_M) (N := 37) hx hb hw in_M hown hK hP 0 rfl rfl 11 (by decide) (hw _ k_735) (fun _ h9 => h9) rfl d_M_copyAll_14 ?_
    refine lv_iload_n hx hb d_M_copyAll_17 rfl (lv_at hl 2 rfl) ?_
    refine va_iald hx hb hK hP 4 3 rfl rfl (by unfold vp_in; decide) d_M_copyAll_18 ?_
    refine W.eq (g2 := F0 m 19 ls [.int (a11 2)]) rfl ?_
    refine lv_iconst (v := 1) hx hb d_M_copyAll_19 (by decide) ?_
    refine lv_icmp_ne (tgt := 146) hx hb d_M_copyAll_20 rfl (fun hc6 => ?_) (fun hc6 => ?_)
    · --  ¬ (a11 2) = 1
      refine lv_iinc (k := 2) (v := 3) hx hb d_M_copyAll_146 hl rfl rfl (by decide) rfl (fun ls hl => ?_)
      replace hl : lv_has ls 4 [(2, .int 3), (0, .ref m0), (1, .int w1)] := hl
      refine lv_goto (tgt := 8) hx hb d_M_copyAll_149 rfl ?_
      have hSq : SP = s_M_copyAll_cut8_3 a8 a9 a10 a11 a12 w1 := by rw [hSq0, s_M_copyAll_cut8_2]; try (rw [if_neg hc6]); all_goals rfl
      replace hl := lv_sub hl (l' := [(0, .ref m0), (1, .int w1), (2, .int 3)]) [1, 2, 0] rfl
      replace hP := hP.sub (ws' := [(m0, .inr (6, oM ga uM cn sn cm us wt oc ou ow)), (ga 8, .inl (gc 8, 24, .inl a8)), (ga 9, .inl (gc 9, 96, .inl a9)), (ga 10, .inl (gc 10, 3, .inl a10)), (ga 11, .inl (gc 11, 3, .inl a11)), (ga 12, .inl (gc 12, 3, .inl a12)), (ga 23, .inl (gc 23, 3, .inl a23))]) [0, 1, 2, 3, 4, 5, 6] rfl
      replace hD := hD.sub (ws' := [(m0, .inr (6, oM ga uM cn sn cm us wt oc ou ow)), (ga 8, .inl (gc 8, 24, .inl a8)), (ga 9, .inl (gc 9, 96, .inl a9)), (ga 10, .inl (gc 10, 3, .inl a10)), (ga 11, .inl (gc 11, 3, .inl a11)), (ga 12, .inl (gc 12, 3, .inl a12)), (ga 23, .inl (gc 23, 3, .inl a23))]) [0, 1, 2, 3, 4, 5, 6] (by decide) rfl
      exact cut8_3 a8 a9 a10 a11 a12 w1 _ _ _ (by repeat' first | with_reducible assumption | with_reducible exact is16_0 | with_reducible exact is16_m _ | with_reducible exact set16' _ | with_reducible apply rgI_upd | with_reducible apply c3_upd | with_reducible apply o3_upd | exact Or.inl rfl | exact ⟨0, by with_reducible assumption, rfl⟩ | omega | assumption) (by repeat' first | with_reducible assumption | with_reducible exact is16_0 | with_reducible exact is16_m _ | with_reducible exact set16' _ | with_reducible apply rgI_upd | with_reducible apply c3_upd | with_reducible apply o3_upd | exact Or.inl rfl | exact ⟨0, by with_reducible assumption, rfl⟩ | omega | assumption) h19 h12 hin hSq hl hP hD hS
    · --  (a11 2) = 1
      refine lv_aload_n hx hb d_M_copyAll_23 rfl (lv_at hl 0 rfl) ?_
      refine va_get (D := (dC, dI)) (ci := 6) (v := .ref (ga 23)) (C := "VotedTripleModel") (T := F_M) (N := 37) hx hb hw in_M hown hK hP 0 rfl rfl 23 (by decide) (hw _ k_747) (fun _ h9 => h9) rfl d_M_copyAll_24 ?_
      refine lv_iload_n hx hb d_M_copyAll_27 rfl (lv_at hl 2 rfl) ?_
      refine va_zald hx hb hK hP 6 5 rfl rfl (by unfold vp_in; decide) d_M_copyAll_28 ?_
      refine W.eq (g2 := F0 m 29 ls [.int (a23 2)]) rfl ?_
      refine lv_if_eq (tgt := 35) hx hb d_M_copyAll_29 rfl (fun hc7 => ?_) (fun hc7 => ?_)
      · --  (a23 2) = 0
        obtain ⟨km, hkm, em⟩ := h12 2 (by decide) hc6
        refine lv_aload_n hx hb d_M_copyAll_35 rfl (lv_at hl 0 rfl) ?_
        refine va_get (D := (dC, dI)) (ci := 6) (v := .ref (ga 9)) (C := "VotedTripleModel") (T := F_M) (N := 37) hx hb hw in_M hown hK hP 0 rfl rfl 9 (by decide) (hw _ k_733) (fun _ h9 => h9) rfl d_M_copyAll_36 ?_
        refine lv_bipush (v := 32) hx hb d_M_copyAll_39 (by decide) ?_
        refine lv_iload_n hx hb d_M_copyAll_41 rfl (lv_at hl 2 rfl) ?_
        refine lv_imul hx hb d_M_copyAll_42 ?_
        refine lv_aload_n hx hb d_M_copyAll_43 rfl (lv_at hl 0 rfl) ?_
        refine va_get (D := (dC, dI)) (ci := 6) (v := .ref (ga 12)) (C := "VotedTripleModel") (T := F_M) (N := 37) hx hb hw in_M hown hK hP 0 rfl rfl 12 (by decide) (hw _ k_736) (fun _ h9 => h9) rfl d_M_copyAll_44 ?_
        refine lv_iload_n hx hb d_M_copyAll_47 rfl (lv_at hl 2 rfl) ?_
        refine va_iald hx hb hK hP 5 4 rfl rfl (by unfold vp_in; decide) d_M_copyAll_48 ?_
        refine W.eq (g2 := F0 m 49 ls [.int (a12 2), .int ((32 : Int32) * (2 : Int32)), .ref (ga 9)]) rfl ?_
        refine lv_iadd hx hb d_M_copyAll_49 ?_
        refine lv_aload_n hx hb d_M_copyAll_50 rfl (lv_at hl 0 rfl) ?_
        refine va_get (D := (dC, dI)) (ci := 6) (v := .ref (ga 9)) (C := "VotedTripleModel") (T := F_M) (N := 37) hx hb hw in_M hown hK hP 0 rfl rfl 9 (by decide) (hw _ k_733) (fun _ h9 => h9) rfl d_M_copyAll_51 ?_
        refine lv_bipush (v := 32) hx hb d_M_copyAll_54 (by decide) ?_
        refine lv_iload_n hx hb d_M_copyAll_56 rfl (lv_at hl 1 rfl) ?_
        refine lv_imul hx hb d_M_copyAll_57 ?_
        refine lv_aload_n hx hb d_M_copyAll_58 rfl (lv_at hl 0 rfl) ?_
        refine va_get (D := (dC, dI)) (ci := 6) (v := .ref (ga 12)) (C := "VotedTripleModel") (T := F_M) (N := 37) hx hb hw in_M hown hK hP 0 rfl rfl 12 (by decide) (hw _ k_736) (fun _ h9 => h9) rfl d_M_copyAll_59 ?_
        refine lv_iload_n hx hb d_M_copyAll_62 rfl (lv_at hl 2 rfl) ?_
        refine va_iald hx hb hK hP 5 4 rfl rfl (by unfold vp_in; decide) d_M_copyAll_63 ?_
        refine W.eq (g2 := F0 m 64 ls [.int (a12 2), .int ((32 : Int32) * w1), .ref (ga 9), .int (((32 : Int32) * (2 : Int32)) + (a12 2)), .ref (ga 9)]) rfl ?_
        refine lv_iadd hx hb d_M_copyAll_64 ?_
        refine va_iald hx hb hK hP 2 1 rfl rfl (ix32 e1 hq1 (by rw [em]; exact vp_in_nI hkm (by decide))) d_M_copyAll_65 ?_
        refine va_iast hx hb hK hP hD hS 2 1 rfl rfl (ix32 (mi := 2) (mk := 2) rfl (by decide) (by rw [em]; exact vp_in_nI hkm (by decide))) d_M_copyAll_66 (fun H locs hP hD hS => ?_)
        replace hP : va_P (dC, dI) classes [(m0, .inr (6, oM ga uM cn sn cm us wt oc ou ow)), (ga 8, .inl (gc 8, 24, .inl a8)), (ga 9, .inl (gc 9, 96, .inl (upd a9 (Int32.toNatClampNeg (((32 : Int32) * (2 : Int32)) + (a12 2))) (a9 (Int32.toNatClampNeg (((32 : Int32) * w1) + (a12 2))))))), (ga 10, .inl (gc 10, 3, .inl a10)), (ga 11, .inl (gc 11, 3, .inl a11)), (ga 12, .inl (gc 12, 3, .inl a12)), (ga 23, .inl (gc 23, 3, .inl a23))] H := hP
        replace hD : va_D A [(m0, .inr (6, oM ga uM cn sn cm us wt oc ou ow)), (ga 8, .inl (gc 8, 24, .inl a8)), (ga 9, .inl (gc 9, 96, .inl (upd a9 (Int32.toNatClampNeg (((32 : Int32) * (2 : Int32)) + (a12 2))) (a9 (Int32.toNatClampNeg (((32 : Int32) * w1) + (a12 2))))))), (ga 10, .inl (gc 10, 3, .inl a10)), (ga 11, .inl (gc 11, 3, .inl a11)), (ga 12, .inl (gc 12, 3, .inl a12)), (ga 23, .inl (gc 23, 3, .inl a23))] := hD
        refine lv_aload_n hx hb d_M_copyAll_67 rfl (lv_at hl 0 rfl) ?_
        refine va_get (D := (dC, dI)) (ci := 6) (v := .ref (ga 12)) (C := "VotedTripleModel") (T := F_M) (N := 37) hx hb hw in_M hown hK hP 0 rfl rfl 12 (by decide) (hw _ k_736) (fun _ h9 => h9) rfl d_M_copyAll_68 ?_
        refine lv_iload_n hx hb d_M_copyAll_71 rfl (lv_at hl 2 rfl) ?_
        refine lv_dup2_11 hx hb d_M_copyAll_72 rfl rfl ?_
        refine va_iald hx hb hK hP 5 4 rfl rfl (by unfold vp_in; decide) d_M_copyAll_73 ?_
        refine W.eq (g2 := F0 m 74 ls [.int (a12 2), .int 2, .ref (ga 12)]) rfl ?_
        refine lv_iconst (v := 1) hx hb d_M_copyAll_74 (by decide) ?_
        refine lv_iadd hx hb d_M_copyAll_75 ?_
        refine va_iast hx hb hK hP hD hS 5 4 rfl rfl (by unfold vp_in; decide) d_M_copyAll_76 (fun H locs hP hD hS => ?_)
        replace hP : va_P (dC, dI) classes [(m0, .inr (6, oM ga uM cn sn cm us wt oc ou ow)), (ga 8, .inl (gc 8, 24, .inl a8)), (ga 9, .inl (gc 9, 96, .inl (upd a9 (Int32.toNatClampNeg (((32 : Int32) * (2 : Int32)) + (a12 2))) (a9 (Int32.toNatClampNeg (((32 : Int32) * w1) + (a12 2))))))), (ga 10, .inl (gc 10, 3, .inl a10)), (ga 11, .inl (gc 11, 3, .inl a11)), (ga 12, .inl (gc 12, 3, .inl (upd a12 2 ((a12 2) + (1 : Int32))))), (ga 23, .inl (gc 23, 3, .inl a23))] H := hP
        replace hD : va_D A [(m0, .inr (6, oM ga uM cn sn cm us wt oc ou ow)), (ga 8, .inl (gc 8, 24, .inl a8)), (ga 9, .inl (gc 9, 96, .inl (upd a9 (Int32.toNatClampNeg (((32 : Int32) * (2 : Int32)) + (a12 2))) (a9 (Int32.toNatClampNeg (((32 : Int32) * w1) + (a12 2))))))), (ga 10, .inl (gc 10, 3, .inl a10)), (ga 11, .inl (gc 11, 3, .inl a11)), (ga 12, .inl (gc 12, 3, .inl (upd a12 2 ((a12 2) + (1 : Int32))))), (ga 23, .inl (gc 23, 3, .inl a23))] := hD
        refine lv_aload_n hx hb d_M_copyAll_77 rfl (lv_at hl 0 rfl) ?_
        refine va_get (D := (dC, dI)) (ci := 6) (v := .ref (ga 12)) (C := "VotedTripleModel") (T := F_M) (N := 37) hx hb hw in_M hown hK hP 0 rfl rfl 12 (by decide) (hw _ k_736) (fun _ h9 => h9) rfl d_M_copyAll_78 ?_
        refine lv_iload_n hx hb d_M_copyAll_81 rfl (lv_at hl 2 rfl) ?_
        refine va_iald hx hb hK hP 5 4 rfl rfl (by unfold vp_in; decide) d_M_copyAll_82 ?_
        refine W.eq (g2 := F0 m 83 ls [.int ((upd a12 2 ((a12 2) + (1 : Int32))) 2)]) rfl ?_
        refine lv_bipush (v := 32) hx hb d_M_copyAll_83 (by decide) ?_
        refine lv_icmp_ge (tgt := 91) hx hb d_M_copyAll_85 rfl (fun hc8 => ?_) (fun hc8 => ?_)
        · --  32 ≤ ((upd a12 2 ((a12 2) + (1 : Int32))) 2)
          refine lv_iconst (v := 0) hx hb d_M_copyAll_91 (by decide) ?_
          refine lv_istore_n hx hb d_M_copyAll_92 rfl hl (by decide) rfl (fun ls hl => ?_)
          replace hl : lv_has ls 4 [(3, .int 0), (0, .ref m0), (1, .int w1), (2, .int 2)] := hl
          have hSq : SP = s_M_copyAll_ci2_93 8 0 a8 (upd a9 (Int32.toNatClampNeg (((32 : Int32) * (2 : Int32)) + (a12 2))) (a9 (Int32.toNatClampNeg (((32 : Int32) * w1) + (a12 2))))) a10 a11 (upd a12 2 ((a12 2) + (1 : Int32))) w1 := by rw [hSq0, s_M_copyAll_cut8_2]; try (rw [if_pos hc6]); try (rw [if_pos hc7]); try (rw [if_pos hc8]); all_goals rfl
          replace hl := lv_sub hl (l' := [(0, .ref m0), (1, .int w1), (2, .int 2), (3, .int 0)]) [1, 2, 3, 0] rfl
          replace hP := hP.sub (ws' := [(m0, .inr (6, oM ga uM cn sn cm us wt oc ou ow)), (ga 8, .inl (gc 8, 24, .inl a8)), (ga 9, .inl (gc 9, 96, .inl (upd a9 (Int32.toNatClampNeg (((32 : Int32) * (2 : Int32)) + (a12 2))) (a9 (Int32.toNatClampNeg (((32 : Int32) * w1) + (a12 2))))))), (ga 10, .inl (gc 10, 3, .inl a10)), (ga 11, .inl (gc 11, 3, .inl a11)), (ga 12, .inl (gc 12, 3, .inl (upd a12 2 ((a12 2) + (1 : Int32))))), (ga 23, .inl (gc 23, 3, .inl a23))]) [0, 1, 2, 3, 4, 5, 6] rfl
          replace hD := hD.sub (ws' := [(m0, .inr (6, oM ga uM cn sn cm us wt oc ou ow)), (ga 8, .inl (gc 8, 24, .inl a8)), (ga 9, .inl (gc 9, 96, .inl (upd a9 (Int32.toNatClampNeg (((32 : Int32) * (2 : Int32)) + (a12 2))) (a9 (Int32.toNatClampNeg (((32 : Int32) * w1) + (a12 2))))))), (ga 10, .inl (gc 10, 3, .inl a10)), (ga 11, .inl (gc 11, 3, .inl a11)), (ga 12, .inl (gc 12, 3, .inl (upd a12 2 ((a12 2) + (1 : Int32))))), (ga 23, .inl (gc 23, 3, .inl a23))]) [0, 1, 2, 3, 4, 5, 6] (by decide) rfl
          exact ci2_93 8 0 a8 (upd a9 (Int32.toNatClampNeg (((32 : Int32) * (2 : Int32)) + (a12 2))) (a9 (Int32.toNatClampNeg (((32 : Int32) * w1) + (a12 2))))) a10 a11 (upd a12 2 ((a12 2) + (1 : Int32))) w1 _ _ _ (by omega) (by repeat' first | with_reducible assumption | with_reducible exact is16_0 | with_reducible exact is16_m _ | with_reducible exact set16' _ | with_reducible apply rgI_upd | with_reducible apply c3_upd | with_reducible apply o3_upd | exact Or.inl rfl | exact ⟨0, by with_reducible assumption, rfl⟩ | omega | assumption) (by repeat' first | with_reducible assumption | with_reducible exact is16_0 | with_reducible exact is16_m _ | with_reducible exact set16' _ | with_reducible apply rgI_upd | with_reducible apply c3_upd | with_reducible apply o3_upd | exact Or.inl rfl | exact ⟨0, by with_reducible assumption, rfl⟩ | omega | assumption) h19 (mk3_0 h12 (by decide)) hin hSq hl hP hD hS
        · --  ¬ 32 ≤ ((upd a12 2 ((a12 2) + (1 : Int32))) 2)
          have hm2 : mk3 a11 (upd a12 2 ((a12 2) + (1 : Int32))) := mk3_a h12 (mk_lt em (by rw [pk_us] at hc8; exact hc8) hkm)
          refine lv_goto (tgt := 146) hx hb d_M_copyAll_88 rfl ?_
          refine lv_iinc (k := 2) (v := 3) hx hb d_M_copyAll_146 hl rfl rfl (by decide) rfl (fun ls hl => ?_)
          replace hl : lv_has ls 4 [(2, .int 3), (0, .ref m0), (1, .int w1)] := hl
          refine lv_goto (tgt := 8) hx hb d_M_copyAll_149 rfl ?_
          have hSq : SP = s_M_copyAll_cut8_3 a8 (upd a9 (Int32.toNatClampNeg (((32 : Int32) * (2 : Int32)) + (a12 2))) (a9 (Int32.toNatClampNeg (((32 : Int32) * w1) + (a12 2))))) a10 a11 (upd a12 2 ((a12 2) + (1 : Int32))) w1 := by rw [hSq0, s_M_copyAll_cut8_2]; try (rw [if_pos hc6]); try (rw [if_pos hc7]); try (rw [if_neg hc8]); all_goals rfl
          replace hl := lv_sub hl (l' := [(0, .ref m0), (1, .int w1), (2, .int 3)]) [1, 2, 0] rfl
          replace hP := hP.sub (ws' := [(m0, .inr (6, oM ga uM cn sn cm us wt oc ou ow)), (ga 8, .inl (gc 8, 24, .inl a8)), (ga 9, .inl (gc 9, 96, .inl (upd a9 (Int32.toNatClampNeg (((32 : Int32) * (2 : Int32)) + (a12 2))) (a9 (Int32.toNatClampNeg (((32 : Int32) * w1) + (a12 2))))))), (ga 10, .inl (gc 10, 3, .inl a10)), (ga 11, .inl (gc 11, 3, .inl a11)), (ga 12, .inl (gc 12, 3, .inl (upd a12 2 ((a12 2) + (1 : Int32))))), (ga 23, .inl (gc 23, 3, .inl a23))]) [0, 1, 2, 3, 4, 5, 6] rfl
          replace hD := hD.sub (ws' := [(m0, .inr (6, oM ga uM cn sn cm us wt oc ou ow)), (ga 8, .inl (gc 8, 24, .inl a8)), (ga 9, .inl (gc 9, 96, .inl (upd a9 (Int32.toNatClampNeg (((32 : Int32) * (2 : Int32)) + (a12 2))) (a9 (Int32.toNatClampNeg (((32 : Int32) * w1) + (a12 2))))))), (ga 10, .inl (gc 10, 3, .inl a10)), (ga 11, .inl (gc 11, 3, .inl a11)), (ga 12, .inl (gc 12, 3, .inl (upd a12 2 ((a12 2) + (1 : Int32))))), (ga 23, .inl (gc 23, 3, .inl a23))]) [0, 1, 2, 3, 4, 5, 6] (by decide) rfl
          exact cut8_3 a8 (upd a9 (Int32.toNatClampNeg (((32 : Int32) * (2 : Int32)) + (a12 2))) (a9 (Int32.toNatClampNeg (((32 : Int32) * w1) + (a12 2))))) a10 a11 (upd a12 2 ((a12 2) + (1 : Int32))) w1 _ _ _ (by repeat' first | with_reducible assumption | with_reducible exact is16_0 | with_reducible exact is16_m _ | with_reducible exact set16' _ | with_reducible apply rgI_upd | with_reducible apply c3_upd | with_reducible apply o3_upd | exact Or.inl rfl | exact ⟨0, by with_reducible assumption, rfl⟩ | omega | assumption) (by repeat' first | with_reducible assumption | with_reducible exact is16_0 | with_reducible exact is16_m _ | with_reducible exact set16' _ | with_reducible apply rgI_upd | with_reducible apply c3_upd | with_reducible apply o3_upd | exact Or.inl rfl | exact ⟨0, by with_reducible assumption, rfl⟩ | omega | assumption) h19 hm2 hin hSq hl hP hD hS
      · --  ¬ (a23 2) = 0
        refine lv_goto (tgt := 146) hx hb d_M_copyAll_32 rfl ?_
        refine lv_iinc (k := 2) (v := 3) hx hb d_M_copyAll_146 hl rfl rfl (by decide) rfl (fun ls hl => ?_)
        replace hl : lv_has ls 4 [(2, .int 3), (0, .ref m0), (1, .int w1)] := hl
        refine lv_goto (tgt := 8) hx hb d_M_copyAll_149 rfl ?_
        have hSq : SP = s_M_copyAll_cut8_3 a8 a9 a10 a11 a12 w1 := by rw [hSq0, s_M_copyAll_cut8_2]; try (rw [if_pos hc6]); try (rw [if_neg hc7]); all_goals rfl
        replace hl := lv_sub hl (l' := [(0, .ref m0), (1, .int w1), (2, .int 3)]) [1, 2, 0] rfl
        replace hP := hP.sub (ws' := [(m0, .inr (6, oM ga uM cn sn cm us wt oc ou ow)), (ga 8, .inl (gc 8, 24, .inl a8)), (ga 9, .inl (gc 9, 96, .inl a9)), (ga 10, .inl (gc 10, 3, .inl a10)), (ga 11, .inl (gc 11, 3, .inl a11)), (ga 12, .inl (gc 12, 3, .inl a12)), (ga 23, .inl (gc 23, 3, .inl a23))]) [0, 1, 2, 3, 4, 5, 6] rfl
        replace hD := hD.sub (ws' := [(m0, .inr (6, oM ga uM cn sn cm us wt oc ou ow)), (ga 8, .inl (gc 8, 24, .inl a8)), (ga 9, .inl (gc 9, 96, .inl a9)), (ga 10, .inl (gc 10, 3, .inl a10)), (ga 11, .inl (gc 11, 3, .inl a11)), (ga 12, .inl (gc 12, 3, .inl a12)), (ga 23, .inl (gc 23, 3, .inl a23))]) [0, 1, 2, 3, 4, 5, 6] (by decide) rfl
        exact cut8_3 a8 a9 a10 a11 a12 w1 _ _ _ (by repeat' first | with_reducible assumption | with_reducible exact is16_0 | with_reducible exact is16_m _ | with_reducible exact set16' _ | with_reducible apply rgI_upd | with_reducible apply c3_upd | with_reducible apply o3_upd | exact Or.inl rfl | exact ⟨0, by with_reducible assumption, rfl⟩ | omega | assumption) (by repeat' first | with_reducible assumption | with_reducible exact is16_0 | with_reducible exact is16_m _ | with_reducible exact set16' _ | with_reducible apply rgI_upd | with_reducible apply c3_upd | with_reducible apply o3_upd | exact Or.inl rfl | exact ⟨0, by with_reducible assumption, rfl⟩ | omega | assumption) h19 h12 hin hSq hl hP hD hS
  have ci1_93 : ∀ (n9 : Nat) (i : Nat) (a8 : Nat → Int32) (a9 : Nat → Int32) (a10 : Nat → Int32) (a11 : Nat → Int32) (a12 : Nat → Int32) (w1 : Int32) (ls : Array Slot) (H : Heap) (locs : List Loc), i + n9 = 8 → wdI 24 a8 → c3I cn a10 → (∃ q : Nat, q < 3 ∧ w1 = nI q) → mk3 (upd a11 1 0) a12 → s3 a11 → SP = s_M_copyAll_ci1_93 a23 n9 i a8 a9 a10 a11 a12 w1 →  lv_has ls 4 [(0, .ref m0), (1, .int w1), (2, .int 1), (3, .int (nI i))] → va_P (dC, dI) classes [(m0, .inr (6, oM ga uM cn sn cm us wt oc ou ow)), (ga 8, .inl (gc 8, 24, .inl a8)), (ga 9, .inl (gc 9, 96, .inl a9)), (ga 10, .inl (gc 10, 3, .inl a10)), (ga 11, .inl (gc 11, 3, .inl a11)), (ga 12, .inl (gc 12, 3, .inl a12)), (ga 23, .inl (gc 23, 3, .inl a23))] H → va_D A [(m0, .inr (6, oM ga uM cn sn cm us wt oc ou ow)), (ga 8, .inl (gc 8, 24, .inl a8)), (ga 9, .inl (gc 9, 96, .inl a9)), (ga 10, .inl (gc 10, 3, .inl a10)), (ga 11, .inl (gc 11, 3, .inl a11)), (ga 12, .inl (gc 12, 3, .inl a12)), (ga 23, .inl (gc 23, 3, .inl a23))] → va_S A s.heap H locs → W p l e (headSpec (tbw y_M_copyAll b_M_copyAll 4 none) ({ frames := 1, cells := 0, slots := 0, locals := 22 })).room s m ([.ref m0] : List Value).toArray below meth c H locs 0 0 (MQ below (va_Qv (fun (u9 : (Nat → Int32) × (Nat → Int32) × (Nat → Int32) × (Nat → Int32) × (Nat → Int32)) => match u9 with | (a8n, a9n, a10n, a11n, a12n) => (wdI 24 a8n ∧ c3I cn a10n ∧ mk3 a11n a12n ∧ s3 a11n) ∧ (a8n, a9n, a10n, a11n, a12n) = SP) (fun (u9 : (Nat → Int32) × (Nat → Int32) × (Nat → Int32) × (Nat → Int32) × (Nat → Int32)) t => match u9 with | (a8n, a9n, a10n, a11n, a12n) => va_P (dC, dI) classes [(m0, .inr (6, oM ga uM cn sn cm us wt oc ou ow)), (ga 8, .inl (gc 8, 24, .inl a8n)), (ga 9, .inl (gc 9, 96, .inl a9n)), (ga 10, .inl (gc 10, 3, .inl a10n)), (ga 11, .inl (gc 11, 3, .inl a11n)), (ga 12, .inl (gc 12, 3, .inl a12n)), (ga 23, .inl (gc 23, 3, .inl a23))] t.heap ∧ va_K (dC, dI) classes [(gc 8, .int), (gc 9, .int), (gc 10, .int), (gc 11, .int), (gc 12, .int), (gc 23, .boolean)] t ∧ va_D A [(m0, .inr (6, oM ga uM cn sn cm us wt oc ou ow)), (ga 8, .inl (gc 8, 24, .inl a8n)), (ga 9, .inl (gc 9, 96, .inl a9n)), (ga 10, .inl (gc 10, 3, .inl a10n)), (ga 11, .inl (gc 11, 3, .inl a11n)), (ga 12, .inl (gc 12, 3, .inl a12n)), (ga 23, .inl (gc 23, 3, .inl a23))]) A) ([.ref m0] : List Value).toArray s 0 0 A) (F0 m 93 ls []) := by
    intro n9
    induction n9 with
    | zero =>
      intro i a8 a9 a10 a11 a12 w1 ls H locs hn9 h8 h10 h19 hmx hin hSq0 hl hP hD hS
      have h19c := h19
      obtain ⟨q1, hq1, e1⟩ := h19c
      refine lv_iload_n hx hb d_M_copyAll_93 rfl (lv_at hl 3 rfl) ?_
      refine lv_bipush (v := 8) hx hb d_M_copyAll_94 (by decide) ?_
      refine lv_icmp_ge (tgt := 127) hx hb d_M_copyAll_96 rfl (fun hc9 => ?_) (fun hc9 => by first | exact absurd (by rw [show i = 8 by omega]; decide) hc9 | exact absurd hc9 (by rw [show i = 8 by omega]; decide))
      refine lv_aload_n hx hb d_M_copyAll_127 rfl (lv_at hl 0 rfl) ?_
      refine va_get (D := (dC, dI)) (ci := 6) (v := .ref (ga 10)) (C := "VotedTripleModel") (T := F_M) (N := 37) hx hb hw in_M hown hK hP 0 rfl rfl 10 (by decide) (hw _ k_734) (fun _ h9 => h9) rfl d_M_copyAll_128 ?_
      refine lv_iload_n hx hb d_M_copyAll_131 rfl (lv_at hl 2 rfl) ?_
      refine lv_aload_n hx hb d_M_copyAll_132 rfl (lv_at hl 0 rfl) ?_
      refine va_get (D := (dC, dI)) (ci := 6) (v := .ref (ga 10)) (C := "VotedTripleModel") (T := F_M) (N := 37) hx hb hw in_M hown hK hP 0 rfl rfl 10 (by decide) (hw _ k_734) (fun _ h9 => h9) rfl d_M_copyAll_133 ?_
      refine lv_iload_n hx hb d_M_copyAll_136 rfl (lv_at hl 1 rfl) ?_
      refine va_iald hx hb hK hP 3 2 rfl rfl (mi_in e1 hq1) d_M_copyAll_137 ?_
      have hc9 := c3_at h10 e1 hq1
      refine va_iast hx hb hK hP hD hS 3 2 rfl rfl (by unfold vp_in; decide) d_M_copyAll_138 (fun H locs hP hD hS => ?_)
      replace hP : va_P (dC, dI) classes [(m0, .inr (6, oM ga uM cn sn cm us wt oc ou ow)), (ga 8, .inl (gc 8, 24, .inl a8)), (ga 9, .inl (gc 9, 96, .inl a9)), (ga 10, .inl (gc 10, 3, .inl (upd a10 1 (a10 (Int32.toNatClampNeg w1))))), (ga 11, .inl (gc 11, 3, .inl a11)), (ga 12, .inl (gc 12, 3, .inl a12)), (ga 23, .inl (gc 23, 3, .inl a23))] H := hP
      replace hD : va_D A [(m0, .inr (6, oM ga uM cn sn cm us wt oc ou ow)), (ga 8, .inl (gc 8, 24, .inl a8)), (ga 9, .inl (gc 9, 96, .inl a9)), (ga 10, .inl (gc 10, 3, .inl (upd a10 1 (a10 (Int32.toNatClampNeg w1))))), (ga 11, .inl (gc 11, 3, .inl a11)), (ga 12, .inl (gc 12, 3, .inl a12)), (ga 23, .inl (gc 23, 3, .inl a23))] := hD
      refine lv_aload_n hx hb d_M_copyAll_139 rfl (lv_at hl 0 rfl) ?_
      refine va_get (D := (dC, dI)) (ci := 6) (v := .ref (ga 11)) (C := "VotedTripleModel") (T := F_M) (N := 37) hx hb hw in_M hown hK hP 0 rfl rfl 11 (by decide) (hw _ k_735) (fun _ h9 => h9) rfl d_M_copyAll_140 ?_
      refine lv_iload_n hx hb d_M_copyAll_143 rfl (lv_at hl 2 rfl) ?_
      refine lv_iconst (v := 0) hx hb d_M_copyAll_144 (by decide) ?_
      refine va_iast hx hb hK hP hD hS 4 3 rfl rfl (by unfold vp_in; decide) d_M_copyAll_145 (fun H locs hP hD hS => ?_)
      replace hP : va_P (dC, dI) classes [(m0, .inr (6, oM ga uM cn sn cm us wt oc ou ow)), (ga 8, .inl (gc 8, 24, .inl a8)), (ga 9, .inl (gc 9, 96, .inl a9)), (ga 10, .inl (gc 10, 3, .inl (upd a10 1 (a10 (Int32.toNatClampNeg w1))))), (ga 11, .inl (gc 11, 3, .inl (upd a11 1 (0 : Int32)))), (ga 12, .inl (gc 12, 3, .inl a12)), (ga 23, .inl (gc 23, 3, .inl a23))] H := hP
      replace hD : va_D A [(m0, .inr (6, oM ga uM cn sn cm us wt oc ou ow)), (ga 8, .inl (gc 8, 24, .inl a8)), (ga 9, .inl (gc 9, 96, .inl a9)), (ga 10, .inl (gc 10, 3, .inl (upd a10 1 (a10 (Int32.toNatClampNeg w1))))), (ga 11, .inl (gc 11, 3, .inl (upd a11 1 (0 : Int32)))), (ga 12, .inl (gc 12, 3, .inl a12)), (ga 23, .inl (gc 23, 3, .inl a23))] := hD
      refine lv_iinc (k := 2) (v := 2) hx hb d_M_copyAll_146 hl rfl rfl (by decide) rfl (fun ls hl => ?_)
      replace hl : lv_has ls 4 [(2, .int 2), (0, .ref m0), (1, .int w1), (3, .int (nI i))] := hl
      refine lv_goto (tgt := 8) hx hb d_M_copyAll_149 rfl ?_
      have hSq : SP = s_M_copyAll_cut8_2 a23 a8 a9 (upd a10 1 (a10 (Int32.toNatClampNeg w1))) (upd a11 1 (0 : Int32)) a12 w1 := by rw [hSq0, s_M_copyAll_ci1_93]; all_goals rfl
      replace hl := lv_sub hl (l' := [(0, .ref m0), (1, .int w1), (2, .int 2)]) [1, 2, 0] rfl
      replace hP := hP.sub (ws' := [(m0, .inr (6, oM ga uM cn sn cm us wt oc ou ow)), (ga 8, .inl (gc 8, 24, .inl a8)), (ga 9, .inl (gc 9, 96, .inl a9)), (ga 10, .inl (gc 10, 3, .inl (upd a10 1 (a10 (Int32.toNatClampNeg w1))))), (ga 11, .inl (gc 11, 3, .inl (upd a11 1 (0 : Int32)))), (ga 12, .inl (gc 12, 3, .inl a12)), (ga 23, .inl (gc 23, 3, .inl a23))]) [0, 1, 2, 3, 4, 5, 6] rfl
      replace hD := hD.sub (ws' := [(m0, .inr (6, oM ga uM cn sn cm us wt oc ou ow)), (ga 8, .inl (gc 8, 24, .inl a8)), (ga 9, .inl (gc 9, 96, .inl a9)), (ga 10, .inl (gc 10, 3, .inl (upd a10 1 (a10 (Int32.toNatClampNeg w1))))), (ga 11, .inl (gc 11, 3, .inl (upd a11 1 (0 : Int32)))), (ga 12, .inl (gc 12, 3, .inl a12)), (ga 23, .inl (gc 23, 3, .inl a23))]) [0, 1, 2, 3, 4, 5, 6] (by decide) rfl
      exact cut8_2 a8 a9 (upd a10 1 (a10 (Int32.toNatClampNeg w1))) (upd a11 1 (0 : Int32)) a12 w1 _ _ _ (by repeat' first | with_reducible assumption | with_reducible exact is16_0 | with_reducible exact is16_m _ | with_reducible exact set16' _ | with_reducible apply rgI_upd | with_reducible apply c3_upd | with_reducible apply o3_upd | exact Or.inl rfl | exact ⟨0, by with_reducible assumption, rfl⟩ | omega | assumption) (by repeat' first | with_reducible assumption | with_reducible exact is16_0 | with_reducible exact is16_m _ | with_reducible exact set16' _ | with_reducible apply rgI_upd | with_reducible apply c3_upd | with_reducible apply o3_upd | exact Or.inl rfl | exact ⟨0, by with_reducible assumption, rfl⟩ | omega | assumption) h19 hmx (s3_0 hin) hSq hl hP hD hS
    | succ n9 ih =>
      intro i a8 a9 a10 a11 a12 w1 ls H locs hn9 h8 h10 h19 hmx hin hSq0 hl hP hD hS
      have h19c := h19
      obtain ⟨q1, hq1, e1⟩ := h19c
      refine lv_iload_n hx hb d_M_copyAll_93 rfl (lv_at hl 3 rfl) ?_
      refine lv_bipush (v := 8) hx hb d_M_copyAll_94 (by decide) ?_
      refine lv_icmp_ge (tgt := 127) hx hb d_M_copyAll_96 rfl (fun hc10 => by first | exact absurd hc10 (fun h9 => absurd ((nI_leI (a := 8) (b := i) (by omega) (by omega)).mp h9) (by omega)) | exact absurd (fun h9 => absurd ((nI_leI (a := 8) (b := i) (by omega) (by omega)).mp h9) (by omega)) hc10) (fun hc10 => ?_)
      refine lv_aload_n hx hb d_M_copyAll_99 rfl (lv_at hl 0 rfl) ?_
      refine va_get (D := (dC, dI)) (ci := 6) (v := .ref (ga 8)) (C := "VotedTripleModel") (T := F_M) (N := 37) hx hb hw in_M hown hK hP 0 rfl rfl 8 (by decide) (hw _ k_732) (fun _ h9 => h9) rfl d_M_copyAll_100 ?_
      refine lv_bipush (v := 8) hx hb d_M_copyAll_103 (by decide) ?_
      refine lv_iload_n hx hb d_M_copyAll_105 rfl (lv_at hl 2 rfl) ?_
      refine lv_imul hx hb d_M_copyAll_106 ?_
      refine lv_iload_n hx hb d_M_copyAll_107 rfl (lv_at hl 3 rfl) ?_
      refine lv_iadd hx hb d_M_copyAll_108 ?_
      refine lv_aload_n hx hb d_M_copyAll_109 rfl (lv_at hl 0 rfl) ?_
      refine va_get (D := (dC, dI)) (ci := 6) (v := .ref (ga 8)) (C := "VotedTripleModel") (T := F_M) (N := 37) hx hb hw in_M hown hK hP 0 rfl rfl 8 (by decide) (hw _ k_732) (fun _ h9 => h9) rfl d_M_copyAll_110 ?_
      refine lv_bipush (v := 8) hx hb d_M_copyAll_113 (by decide) ?_
      refine lv_iload_n hx hb d_M_copyAll_115 rfl (lv_at hl 1 rfl) ?_
      refine lv_imul hx hb d_M_copyAll_116 ?_
      refine lv_iload_n hx hb d_M_copyAll_117 rfl (lv_at hl 3 rfl) ?_
      refine lv_iadd hx hb d_M_copyAll_118 ?_
      refine va_iald hx hb hK hP 1 0 rfl rfl (ix8 e1 hq1 (vp_in_nI (by omega) (by decide))) d_M_copyAll_119 ?_
      have hv11 : is16 (a8 (Int32.toNatClampNeg (((8 : Int32) * w1) + (nI i)))) := rg_at h8 (ix8 e1 hq1 (vp_in_nI (by omega) (by decide))) (by decide)
      refine va_iast hx hb hK hP hD hS 1 0 rfl rfl (ix8 (mi := 1) (mk := 1) rfl (by decide) (vp_in_nI (by omega) (by decide))) d_M_copyAll_120 (fun H locs hP hD hS => ?_)
      replace hP : va_P (dC, dI) classes [(m0, .inr (6, oM ga uM cn sn cm us wt oc ou ow)), (ga 8, .inl (gc 8, 24, .inl (upd a8 (Int32.toNatClampNeg (((8 : Int32) * (1 : Int32)) + (nI i))) (a8 (Int32.toNatClampNeg (((8 : Int32) * w1) + (nI i))))))), (ga 9, .inl (gc 9, 96, .inl a9)), (ga 10, .inl (gc 10, 3, .inl a10)), (ga 11, .inl (gc 11, 3, .inl a11)), (ga 12, .inl (gc 12, 3, .inl a12)), (ga 23, .inl (gc 23, 3, .inl a23))] H := hP
      replace hD : va_D A [(m0, .inr (6, oM ga uM cn sn cm us wt oc ou ow)), (ga 8, .inl (gc 8, 24, .inl (upd a8 (Int32.toNatClampNeg (((8 : Int32) * (1 : Int32)) + (nI i))) (a8 (Int32.toNatClampNeg (((8 : Int32) * w1) + (nI i))))))), (ga 9, .inl (gc 9, 96, .inl a9)), (ga 10, .inl (gc 10, 3, .inl a10)), (ga 11, .inl (gc 11, 3, .inl a11)), (ga 12, .inl (gc 12, 3, .inl a12)), (ga 23, .inl (gc 23, 3, .inl a23))] := hD
      refine lv_iinc (k := 3) (v := nI (i + 1)) hx hb d_M_copyAll_121 hl rfl (nI_1 i) (by decide) rfl (fun ls hl => ?_)
      replace hl : lv_has ls 4 [(3, .int (nI (i + 1))), (0, .ref m0), (1, .int w1), (2, .int 1)] := hl
      refine lv_goto (tgt := 93) hx hb d_M_copyAll_124 rfl ?_
      have hSq : SP = s_M_copyAll_ci1_93 a23 n9 (i + 1) (upd a8 (Int32.toNatClampNeg (((8 : Int32) * (1 : Int32)) + (nI i))) (a8 (Int32.toNatClampNeg (((8 : Int32) * w1) + (nI i))))) a9 a10 a11 a12 w1 := by rw [hSq0, s_M_copyAll_ci1_93]; all_goals rfl
      replace hl := lv_sub hl (l' := [(0, .ref m0), (1, .int w1), (2, .int 1), (3, .int (nI (i + 1)))]) [1, 2, 3, 0] rfl
      replace hP := hP.sub (ws' := [(m0, .inr (6, oM ga uM cn sn cm us wt oc ou ow)), (ga 8, .inl (gc 8, 24, .inl (upd a8 (Int32.toNatClampNeg (((8 : Int32) * (1 : Int32)) + (nI i))) (a8 (Int32.toNatClampNeg (((8 : Int32) * w1) + (nI i))))))), (ga 9, .inl (gc 9, 96, .inl a9)), (ga 10, .inl (gc 10, 3, .inl a10)), (ga 11, .inl (gc 11, 3, .inl a11)), (ga 12, .inl (gc 12, 3, .inl a12)), (ga 23, .inl (gc 23, 3, .inl a23))]) [0, 1, 2, 3, 4, 5, 6] rfl
      replace hD := hD.sub (ws' := [(m0, .inr (6, oM ga uM cn sn cm us wt oc ou ow)), (ga 8, .inl (gc 8, 24, .inl (upd a8 (Int32.toNatClampNeg (((8 : Int32) * (1 : Int32)) + (nI i))) (a8 (Int32.toNatClampNeg (((8 : Int32) * w1) + (nI i))))))), (ga 9, .inl (gc 9, 96, .inl a9)), (ga 10, .inl (gc 10, 3, .inl a10)), (ga 11, .inl (gc 11, 3, .inl a11)), (ga 12, .inl (gc 12, 3, .inl a12)), (ga 23, .inl (gc 23, 3, .inl a23))]) [0, 1, 2, 3, 4, 5, 6] (by decide) rfl
      exact ih (i + 1) (upd a8 (Int32.toNatClampNeg (((8 : Int32) * (1 : Int32)) + (nI i))) (a8 (Int32.toNatClampNeg (((8 : Int32) * w1) + (nI i))))) a9 a10 a11 a12 w1 _ _ _ (by omega) (by repeat' first | with_reducible assumption | with_reducible exact is16_0 | with_reducible exact is16_m _ | with_reducible exact set16' _ | with_reducible apply rgI_upd | with_reducible apply c3_upd | with_reducible apply o3_upd | exact Or.inl rfl | exact ⟨0, by with_reducible assumption, rfl⟩ | omega | assumption) (by repeat' first | with_reducible assumption | with_reducible exact is16_0 | with_reducible exact is16_m _ | with_reducible exact set16' _ | with_reducible apply rgI_upd | with_reducible apply c3_upd | with_reducible apply o3_upd | exact Or.inl rfl | exact ⟨0, by with_reducible assumption, rfl⟩ | omega | assumption) h19 hmx hin hSq hl hP hD hS
  have cut8_1 : ∀ (a8 : Nat → Int32) (a9 : Nat → Int32) (a10 : Nat → Int32) (a11 : Nat → Int32) (a12 : Nat → Int32) (w1 : Int32) (ls : Array Slot) (H : Heap) (locs : List Loc), wdI 24 a8 → c3I cn a10 → (∃ q : Nat, q < 3 ∧ w1 = nI q) → mk3 a11 a12 → s3 a11 → SP = s_M_copyAll_cut8_1 a23 a8 a9 a10 a11 a12 w1 →  lv_has ls 4 [(0, .ref m0), (1, .int w1), (2, .int 1)] → va_P (dC, dI) classes [(m0, .inr (6, oM ga uM cn sn cm us wt oc ou ow)), (ga 8, .inl (gc 8, 24, .inl a8)), (ga 9, .inl (gc 9, 96, .inl a9)), (ga 10, .inl (gc 10, 3, .inl a10)), (ga 11, .inl (gc 11, 3, .inl a11)), (ga 12, .inl (gc 12, 3, .inl a12)), (ga 23, .inl (gc 23, 3, .inl a23))] H → va_D A [(m0, .inr (6, oM ga uM cn sn cm us wt oc ou ow)), (ga 8, .inl (gc 8, 24, .inl a8)), (ga 9, .inl (gc 9, 96, .inl a9)), (ga 10, .inl (gc 10, 3, .inl a10)), (ga 11, .inl (gc 11, 3, .inl a11)), (ga 12, .inl (gc 12, 3, .inl a12)), (ga 23, .inl (gc 23, 3, .inl a23))] → va_S A s.heap H locs → W p l e (headSpec (tbw y_M_copyAll b_M_copyAll 4 none) ({ frames := 1, cells := 0, slots := 0, locals := 22 })).room s m ([.ref m0] : List Value).toArray below meth c H locs 0 0 (MQ below (va_Qv (fun (u9 : (Nat → Int32) × (Nat → Int32) × (Nat → Int32) × (Nat → Int32) × (Nat → Int32)) => match u9 with | (a8n, a9n, a10n, a11n, a12n) => (wdI 24 a8n ∧ c3I cn a10n ∧ mk3 a11n a12n ∧ s3 a11n) ∧ (a8n, a9n, a10n, a11n, a12n) = SP) (fun (u9 : (Nat → Int32) × (Nat → Int32) × (Nat → Int32) × (Nat → Int32) × (Nat → Int32)) t => match u9 with | (a8n, a9n, a10n, a11n, a12n) => va_P (dC, dI) classes [(m0, .inr (6, oM ga uM cn sn cm us wt oc ou ow)), (ga 8, .inl (gc 8, 24, .inl a8n)), (ga 9, .inl (gc 9, 96, .inl a9n)), (ga 10, .inl (gc 10, 3, .inl a10n)), (ga 11, .inl (gc 11, 3, .inl a11n)), (ga 12, .inl (gc 12, 3, .inl a12n)), (ga 23, .inl (gc 23, 3, .inl a23))] t.heap ∧ va_K (dC, dI) classes [(gc 8, .int), (gc 9, .int), (gc 10, .int), (gc 11, .int), (gc 12, .int), (gc 23, .boolean)] t ∧ va_D A [(m0, .inr (6, oM ga uM cn sn cm us wt oc ou ow)), (ga 8, .inl (gc 8, 24, .inl a8n)), (ga 9, .inl (gc 9, 96, .inl a9n)), (ga 10, .inl (gc 10, 3, .inl a10n)), (ga 11, .inl (gc 11, 3, .inl a11n)), (ga 12, .inl (gc 12, 3, .inl a12n)), (ga 23, .inl (gc 23, 3, .inl a23))]) A) ([.ref m0] : List Value).toArray s 0 0 A) (F0 m 8 ls []) := by
    intro a8 a9 a10 a11 a12 w1 ls H locs h8 h10 h19 h12 hin hSq0 hl hP hD hS
    clear cut8_3 ci2_93
    have h19c := h19
    obtain ⟨q1, hq1, e1⟩ := h19c
    refine lv_iload_n hx hb d_M_copyAll_8 rfl (lv_at hl 2 rfl) ?_
    refine lv_iconst (v := 3) hx hb d_M_copyAll_9 (by decide) ?_
    refine lv_icmp_ge (tgt := 152) hx hb d_M_copyAll_10 rfl (fun hc12 => by first | exact absurd hc12 (by decide) | exact absurd (by decide) hc12) (fun hc12 => ?_)
    refine lv_aload_n hx hb d_M_copyAll_13 rfl (lv_at hl 0 rfl) ?_
    refine va_get (D := (dC, dI)) (ci := 6) (v := .ref (ga 11)) (C := "VotedTripleModel") (T := F_M) (N := 37) hx hb hw in_M hown hK hP 0 rfl rfl 11 (by decide) (hw _ k_735) (fun _ h9 => h9) rfl d_M_copyAll_14 ?_
    refine lv_iload_n hx hb d_M_copyAll_17 rfl (lv_at hl 2 rfl) ?_
    refine va_iald hx hb hK hP 4 3 rfl rfl (by unfold vp_in; decide) d_M_copyAll_18 ?_
    refine W.eq (g2 := F0 m 19 ls [.int (a11 1)]) rfl ?_
    refine lv_iconst (v := 1) hx hb d_M_copyAll_19 (by decide) ?_
    refine lv_icmp_ne (tgt := 146) hx hb d_M_copyAll_20 rfl (fun hc13 => ?_) (fun hc13 => ?_)
    · --  ¬ (a11 1) = 1
      refine lv_iinc (k := 2) (v := 2) hx hb d_M_copyAll_146 hl rfl rfl (by decide) rfl (fun ls hl => ?_)
      replace hl : lv_has ls 4 [(2, .int 2), (0, .ref m0), (1, .int w1)] := hl
      refine lv_goto (tgt := 8) hx hb d_M_copyAll_149 rfl ?_
      have hSq : SP = s_M_copyAll_cut8_2 a23 a8 a9 a10 a11 a12 w1 := by rw [hSq0, s_M_copyAll_cut8_1]; try (rw [if_neg hc13]); all_goals rfl
      replace hl := lv_sub hl (l' := [(0, .ref m0), (1, .int w1), (2, .int 2)]) [1, 2, 0] rfl
      replace hP := hP.sub (ws' := [(m0, .inr (6, oM ga uM cn sn cm us wt oc ou ow)), (ga 8, .inl (gc 8, 24, .inl a8)), (ga 9, .inl (gc 9, 96, .inl a9)), (ga 10, .inl (gc 10, 3, .inl a10)), (ga 11, .inl (gc 11, 3, .inl a11)), (ga 12, .inl (gc 12, 3, .inl a12)), (ga 23, .inl (gc 23, 3, .inl a23))]) [0, 1, 2, 3, 4, 5, 6] rfl
      replace hD := hD.sub (ws' := [(m0, .inr (6, oM ga uM cn sn cm us wt oc ou ow)), (ga 8, .inl (gc 8, 24, .inl a8)), (ga 9, .inl (gc 9, 96, .inl a9)), (ga 10, .inl (gc 10, 3, .inl a10)), (ga 11, .inl (gc 11, 3, .inl a11)), (ga 12, .inl (gc 12, 3, .inl a12)), (ga 23, .inl (gc 23, 3, .inl a23))]) [0, 1, 2, 3, 4, 5, 6] (by decide) rfl
      exact cut8_2 a8 a9 a10 a11 a12 w1 _ _ _ (by repeat' first | with_reducible assumption | with_reducible exact is16_0 | with_reducible exact is16_m _ | with_reducible exact set16' _ | with_reducible apply rgI_upd | with_reducible apply c3_upd | with_reducible apply o3_upd | exact Or.inl rfl | exact ⟨0, by with_reducible assumption, rfl⟩ | omega | assumption) (by repeat' first | with_reducible assumption | with_reducible exact is16_0 | with_reducible exact is16_m _ | with_reducible exact set16' _ | with_reducible apply rgI_upd | with_reducible apply c3_upd | with_reducible apply o3_upd | exact Or.inl rfl | exact ⟨0, by with_reducible assumption, rfl⟩ | omega | assumption) h19 h12 hin hSq hl hP hD hS
    · --  (a11 1) = 1
      refine lv_aload_n hx hb d_M_copyAll_23 rfl (lv_at hl 0 rfl) ?_
      refine va_get (D := (dC, dI)) (ci := 6) (v := .ref (ga 23)) (C := "VotedTripleModel") (T := F_M) (N := 37) hx hb hw in_M hown hK hP 0 rfl rfl 23 (by decide) (hw _ k_747) (fun _ h9 => h9) rfl d_M_copyAll_24 ?_
      refine lv_iload_n hx hb d_M_copyAll_27 rfl (lv_at hl 2 rfl) ?_
      refine va_zald hx hb hK hP 6 5 rfl rfl (by unfold vp_in; decide) d_M_copyAll_28 ?_
      refine W.eq (g2 := F0 m 29 ls [.int (a23 1)]) rfl ?_
      refine lv_if_eq (tgt := 35) hx hb d_M_copyAll_29 rfl (fun hc14 => ?_) (fun hc14 => ?_)
      · --  (a23 1) = 0
        obtain ⟨km, hkm, em⟩ := h12 1 (by decide) hc13
        refine lv_aload_n hx hb d_M_copyAll_35 rfl (lv_at hl 0 rfl) ?_
        refine va_get (D := (dC, dI)) (ci := 6) (v := .ref (ga 9)) (C := "VotedTripleModel") (T := F_M) (N := 37) hx hb hw in_M hown hK hP 0 rfl rfl 9 (by decide) (hw _ k_733) (fun _ h9 => h9) rfl d_M_copyAll_36 ?_
        refine lv_bipush (v := 32) hx hb d_M_copyAll_39 (by decide) ?_
        refine lv_iload_n hx hb d_M_copyAll_41 rfl (lv_at hl 2 rfl) ?_
        refine lv_imul hx hb d_M_copyAll_42 ?_
        refine lv_aload_n hx hb d_M_copyAll_43 rfl (lv_at hl 0 rfl) ?_
        refine va_get (D := (dC, dI)) (ci := 6) (v := .ref (ga 12)) (C := "VotedTripleModel") (T := F_M) (N := 37) hx hb hw in_M hown hK hP 0 rfl rfl 12 (by decide) (hw _ k_736) (fun _ h9 => h9) rfl d_M_copyAll_44 ?_
        refine lv_iload_n hx hb d_M_copyAll_47 rfl (lv_at hl 2 rfl) ?_
        refine va_iald hx hb hK hP 5 4 rfl rfl (by unfold vp_in; decide) d_M_copyAll_48 ?_
        refine W.eq (g2 := F0 m 49 ls [.int (a12 1), .int ((32 : Int32) * (1 : Int32)), .ref (ga 9)]) rfl ?_
        refine lv_iadd hx hb d_M_copyAll_49 ?_
        refine lv_aload_n hx hb d_M_copyAll_50 rfl (lv_at hl 0 rfl) ?_
        refine va_get (D := (dC, dI)) (ci := 6) (v := .ref (ga 9)) (C := "VotedTripleModel") (T := F_M) (N := 37) hx hb hw in_M hown hK hP 0 rfl rfl 9 (by decide) (hw _ k_733) (fun _ h9 => h9) rfl d_M_copyAll_51 ?_
        refine lv_bipush (v := 32) hx hb d_M_copyAll_54 (by decide) ?_
        refine lv_iload_n hx hb d_M_copyAll_56 rfl (lv_at hl 1 rfl) ?_
        refine lv_imul hx hb d_M_copyAll_57 ?_
        refine lv_aload_n hx hb d_M_copyAll_58 rfl (lv_at hl 0 rfl) ?_
        refine va_get (D := (dC, dI)) (ci := 6) (v := .ref (ga 12)) (C := "VotedTripleModel") (T := F_M) (N := 37) hx hb hw in_M hown hK hP 0 rfl rfl 12 (by decide) (hw _ k_736) (fun _ h9 => h9) rfl d_M_copyAll_59 ?_
        refine lv_iload_n hx hb d_M_copyAll_62 rfl (lv_at hl 2 rfl) ?_
        refine va_iald hx hb hK hP 5 4 rfl rfl (by unfold vp_in; decide) d_M_copyAll_63 ?_
        refine W.eq (g2 := F0 m 64 ls [.int (a12 1), .int ((32 : Int32) * w1), .ref (ga 9), .int (((32 : Int32) * (1 : Int32)) + (a12 1)), .ref (ga 9)]) rfl ?_
        refine lv_iadd hx hb d_M_copyAll_64 ?_
        refine va_iald hx hb hK hP 2 1 rfl rfl (ix32 e1 hq1 (by rw [em]; exact vp_in_nI hkm (by decide))) d_M_copyAll_65 ?_
        refine va_iast hx hb hK hP hD hS 2 1 rfl rfl (ix32 (mi := 1) (mk := 1) rfl (by decide) (by rw [em]; exact vp_in_nI hkm (by decide))) d_M_copyAll_66 (fun H locs hP hD hS => ?_)
        replace hP : va_P (dC, dI) classes [(m0, .inr (6, oM ga uM cn sn cm us wt oc ou ow)), (ga 8, .inl (gc 8, 24, .inl a8)), (ga 9, .inl (gc 9, 96, .inl (upd a9 (Int32.toNatClampNeg (((32 : Int32) * (1 : Int32)) + (a12 1))) (a9 (Int32.toNatClampNeg (((32 : Int32) * w1) + (a12 1))))))), (ga 10, .inl (gc 10, 3, .inl a10)), (ga 11, .inl (gc 11, 3, .inl a11)), (ga 12, .inl (gc 12, 3, .inl a12)), (ga 23, .inl (gc 23, 3, .inl a23))] H := hP
        replace hD : va_D A [(m0, .inr (6, oM ga uM cn sn cm us wt oc ou ow)), (ga 8, .inl (gc 8, 24, .inl a8)), (ga 9, .inl (gc 9, 96, .inl (upd a9 (Int32.toNatClampNeg (((32 : Int32) * (1 : Int32)) + (a12 1))) (a9 (Int32.toNatClampNeg (((32 : Int32) * w1) + (a12 1))))))), (ga 10, .inl (gc 10, 3, .inl a10)), (ga 11, .inl (gc 11, 3, .inl a11)), (ga 12, .inl (gc 12, 3, .inl a12)), (ga 23, .inl (gc 23, 3, .inl a23))] := hD
        refine lv_aload_n hx hb d_M_copyAll_67 rfl (lv_at hl 0 rfl) ?_
        refine va_get (D := (dC, dI)) (ci := 6) (v := .ref (ga 12)) (C := "VotedTripleModel") (T := F_M) (N := 37) hx hb hw in_M hown hK hP 0 rfl rfl 12 (by decide) (hw _ k_736) (fun _ h9 => h9) rfl d_M_copyAll_68 ?_
        refine lv_iload_n hx hb d_M_copyAll_71 rfl (lv_at hl 2 rfl) ?_
        refine lv_dup2_11 hx hb d_M_copyAll_72 rfl rfl ?_
        refine va_iald hx hb hK hP 5 4 rfl rfl (by unfold vp_in; decide) d_M_copyAll_73 ?_
        refine W.eq (g2 := F0 m 74 ls [.int (a12 1), .int 1, .ref (ga 12)]) rfl ?_
        refine lv_iconst (v := 1) hx hb d_M_copyAll_74 (by decide) ?_
        refine lv_iadd hx hb d_M_copyAll_75 ?_
        refine va_iast hx hb hK hP hD hS 5 4 rfl rfl (by unfold vp_in; decide) d_M_copyAll_76 (fun H locs hP hD hS => ?_)
        replace hP : va_P (dC, dI) classes [(m0, .inr (6, oM ga uM cn sn cm us wt oc ou ow)), (ga 8, .inl (gc 8, 24, .inl a8)), (ga 9, .inl (gc 9, 96, .inl (upd a9 (Int32.toNatClampNeg (((32 : Int32) * (1 : Int32)) + (a12 1))) (a9 (Int32.toNatClampNeg (((32 : Int32) * w1) + (a12 1))))))), (ga 10, .inl (gc 10, 3, .inl a10)), (ga 11, .inl (gc 11, 3, .inl a11)), (ga 12, .inl (gc 12, 3, .inl (upd a12 1 ((a12 1) + (1 : Int32))))), (ga 23, .inl (gc 23, 3, .inl a23))] H := hP
        replace hD : va_D A [(m0, .inr (6, oM ga uM cn sn cm us wt oc ou ow)), (ga 8, .inl (gc 8, 24, .inl a8)), (ga 9, .inl (gc 9, 96, .inl (upd a9 (Int32.toNatClampNeg (((32 : Int32) * (1 : Int32)) + (a12 1))) (a9 (Int32.toNatClampNeg (((32 : Int32) * w1) + (a12 1))))))), (ga 10, .inl (gc 10, 3, .inl a10)), (ga 11, .inl (gc 11, 3, .inl a11)), (ga 12, .inl (gc 12, 3, .inl (upd a12 1 ((a12 1) + (1 : Int32))))), (ga 23, .inl (gc 23, 3, .inl a23))] := hD
        refine lv_aload_n hx hb d_M_copyAll_77 rfl (lv_at hl 0 rfl) ?_
        refine va_get (D := (dC, dI)) (ci := 6) (v := .ref (ga 12)) (C := "VotedTripleModel") (T := F_M) (N := 37) hx hb hw in_M hown hK hP 0 rfl rfl 12 (by decide) (hw _ k_736) (fun _ h9 => h9) rfl d_M_copyAll_78 ?_
        refine lv_iload_n hx hb d_M_copyAll_81 rfl (lv_at hl 2 rfl) ?_
        refine va_iald hx hb hK hP 5 4 rfl rfl (by unfold vp_in; decide) d_M_copyAll_82 ?_
        refine W.eq (g2 := F0 m 83 ls [.int ((upd a12 1 ((a12 1) + (1 : Int32))) 1)]) rfl ?_
        refine lv_bipush (v := 32) hx hb d_M_copyAll_83 (by decide) ?_
        refine lv_icmp_ge (tgt := 91) hx hb d_M_copyAll_85 rfl (fun hc15 => ?_) (fun hc15 => ?_)
        · --  32 ≤ ((upd a12 1 ((a12 1) + (1 : Int32))) 1)
          refine lv_iconst (v := 0) hx hb d_M_copyAll_91 (by decide) ?_
          refine lv_istore_n hx hb d_M_copyAll_92 rfl hl (by decide) rfl (fun ls hl => ?_)
          replace hl : lv_has ls 4 [(3, .int 0), (0, .ref m0), (1, .int w1), (2, .int 1)] := hl
          have hSq : SP = s_M_copyAll_ci1_93 a23 8 0 a8 (upd a9 (Int32.toNatClampNeg (((32 : Int32) * (1 : Int32)) + (a12 1))) (a9 (Int32.toNatClampNeg (((32 : Int32) * w1) + (a12 1))))) a10 a11 (upd a12 1 ((a12 1) + (1 : Int32))) w1 := by rw [hSq0, s_M_copyAll_cut8_1]; try (rw [if_pos hc13]); try (rw [if_pos hc14]); try (rw [if_pos hc15]); all_goals rfl
          replace hl := lv_sub hl (l' := [(0, .ref m0), (1, .int w1), (2, .int 1), (3, .int 0)]) [1, 2, 3, 0] rfl
          replace hP := hP.sub (ws' := [(m0, .inr (6, oM ga uM cn sn cm us wt oc ou ow)), (ga 8, .inl (gc 8, 24, .inl a8)), (ga 9, .inl (gc 9, 96, .inl (upd a9 (Int32.toNatClampNeg (((32 : Int32) * (1 : Int32)) + (a12 1))) (a9 (Int32.toNatClampNeg (((32 : Int32) * w1) + (a12 1))))))), (ga 10, .inl (gc 10, 3, .inl a10)), (ga 11, .inl (gc 11, 3, .inl a11)), (ga 12, .inl (gc 12, 3, .inl (upd a12 1 ((a12 1) + (1 : Int32))))), (ga 23, .inl (gc 23, 3, .inl a23))]) [0, 1, 2, 3, 4, 5, 6] rfl
          replace hD := hD.sub (ws' := [(m0, .inr (6, oM ga uM cn sn cm us wt oc ou ow)), (ga 8, .inl (gc 8, 24, .inl a8)), (ga 9, .inl (gc 9, 96, .inl (upd a9 (Int32.toNatClampNeg (((32 : Int32) * (1 : Int32)) + (a12 1))) (a9 (Int32.toNatClampNeg (((32 : Int32) * w1) + (a12 1))))))), (ga 10, .inl (gc 10, 3, .inl a10)), (ga 11, .inl (gc 11, 3, .inl a11)), (ga 12, .inl (gc 12, 3, .inl (upd a12 1 ((a12 1) + (1 : Int32))))), (ga 23, .inl (gc 23, 3, .inl a23))]) [0, 1, 2, 3, 4, 5, 6] (by decide) rfl
          exact ci1_93 8 0 a8 (upd a9 (Int32.toNatClampNeg (((32 : Int32) * (1 : Int32)) + (a12 1))) (a9 (Int32.toNatClampNeg (((32 : Int32) * w1) + (a12 1))))) a10 a11 (upd a12 1 ((a12 1) + (1 : Int32))) w1 _ _ _ (by omega) (by repeat' first | with_reducible assumption | with_reducible exact is16_0 | with_reducible exact is16_m _ | with_reducible exact set16' _ | with_reducible apply rgI_upd | with_reducible apply c3_upd | with_reducible apply o3_upd | exact Or.inl rfl | exact ⟨0, by with_reducible assumption, rfl⟩ | omega | assumption) (by repeat' first | with_reducible assumption | with_reducible exact is16_0 | with_reducible exact is16_m _ | with_reducible exact set16' _ | with_reducible apply rgI_upd | with_reducible apply c3_upd | with_reducible apply o3_upd | exact Or.inl rfl | exact ⟨0, by with_reducible assumption, rfl⟩ | omega | assumption) h19 (mk3_0 h12 (by decide)) hin hSq hl hP hD hS
        · --  ¬ 32 ≤ ((upd a12 1 ((a12 1) + (1 : Int32))) 1)
          have hm2 : mk3 a11 (upd a12 1 ((a12 1) + (1 : Int32))) := mk3_a h12 (mk_lt em (by rw [pk_us] at hc15; exact hc15) hkm)
          refine lv_goto (tgt := 146) hx hb d_M_copyAll_88 rfl ?_
          refine lv_iinc (k := 2) (v := 2) hx hb d_M_copyAll_146 hl rfl rfl (by decide) rfl (fun ls hl => ?_)
          replace hl : lv_has ls 4 [(2, .int 2), (0, .ref m0), (1, .int w1)] := hl
          refine lv_goto (tgt := 8) hx hb d_M_copyAll_149 rfl ?_
          have hSq : SP = s_M_copyAll_cut8_2 a23 a8 (upd a9 (Int32.toNatClampNeg (((32 : Int32) * (1 : Int32)) + (a12 1))) (a9 (Int32.toNatClampNeg (((32 : Int32) * w1) + (a12 1))))) a10 a11 (upd a12 1 ((a12 1) + (1 : Int32))) w1 := by rw [hSq0, s_M_copyAll_cut8_1]; try (rw [if_pos hc13]); try (rw [if_pos hc14]); try (rw [if_neg hc15]); all_goals rfl
          replace hl := lv_sub hl (l' := [(0, .ref m0), (1, .int w1), (2, .int 2)]) [1, 2, 0] rfl
          replace hP := hP.sub (ws' := [(m0, .inr (6, oM ga uM cn sn cm us wt oc ou ow)), (ga 8, .inl (gc 8, 24, .inl a8)), (ga 9, .inl (gc 9, 96, .inl (upd a9 (Int32.toNatClampNeg (((32 : Int32) * (1 : Int32)) + (a12 1))) (a9 (Int32.toNatClampNeg (((32 : Int32) * w1) + (a12 1))))))), (ga 10, .inl (gc 10, 3, .inl a10)), (ga 11, .inl (gc 11, 3, .inl a11)), (ga 12, .inl (gc 12, 3, .inl (upd a12 1 ((a12 1) + (1 : Int32))))), (ga 23, .inl (gc 23, 3, .inl a23))]) [0, 1, 2, 3, 4, 5, 6] rfl
          replace hD := hD.sub (ws' := [(m0, .inr (6, oM ga uM cn sn cm us wt oc ou ow)), (ga 8, .inl (gc 8, 24, .inl a8)), (ga 9, .inl (gc 9, 96, .inl (upd a9 (Int32.toNatClampNeg (((32 : Int32) * (1 : Int32)) + (a12 1))) (a9 (Int32.toNatClampNeg (((32 : Int32) * w1) + (a12 1))))))), (ga 10, .inl (gc 10, 3, .inl a10)), (ga 11, .inl (gc 11, 3, .inl a11)), (ga 12, .inl (gc 12, 3, .inl (upd a12 1 ((a12 1) + (1 : Int32))))), (ga 23, .inl (gc 23, 3, .inl a23))]) [0, 1, 2, 3, 4, 5, 6] (by decide) rfl
          exact cut8_2 a8 (upd a9 (Int32.toNatClampNeg (((32 : Int32) * (1 : Int32)) + (a12 1))) (a9 (Int32.toNatClampNeg (((32 : Int32) * w1) + (a12 1))))) a10 a11 (upd a12 1 ((a12 1) + (1 : Int32))) w1 _ _ _ (by repeat' first | with_reducible assumption | with_reducible exact is16_0 | with_reducible exact is16_m _ | with_reducible exact set16' _ | with_reducible apply rgI_upd | with_reducible apply c3_upd | with_reducible apply o3_upd | exact Or.inl rfl | exact ⟨0, by with_reducible assumption, rfl⟩ | omega | assumption) (by repeat' first | with_reducible assumption | with_reducible exact is16_0 | with_reducible exact is16_m _ | with_reducible exact set16' _ | with_reducible apply rgI_upd | with_reducible apply c3_upd | with_reducible apply o3_upd | exact Or.inl rfl | exact ⟨0, by with_reducible assumption, rfl⟩ | omega | assumption) h19 hm2 hin hSq hl hP hD hS
      · --  ¬ (a23 1) = 0
        refine lv_goto (tgt := 146) hx hb d_M_copyAll_32 rfl ?_
        refine lv_iinc (k := 2) (v := 2) hx hb d_M_copyAll_146 hl rfl rfl (by decide) rfl (fun ls hl => ?_)
        replace hl : lv_has ls 4 [(2, .int 2), (0, .ref m0), (1, .int w1)] := hl
        refine lv_goto (tgt := 8) hx hb d_M_copyAll_149 rfl ?_
        have hSq : SP = s_M_copyAll_cut8_2 a23 a8 a9 a10 a11 a12 w1 := by rw [hSq0, s_M_copyAll_cut8_1]; try (rw [if_pos hc13]); try (rw [if_neg hc14]); all_goals rfl
        replace hl := lv_sub hl (l' := [(0, .ref m0), (1, .int w1), (2, .int 2)]) [1, 2, 0] rfl
        replace hP := hP.sub (ws' := [(m0, .inr (6, oM ga uM cn sn cm us wt oc ou ow)), (ga 8, .inl (gc 8, 24, .inl a8)), (ga 9, .inl (gc 9, 96, .inl a9)), (ga 10, .inl (gc 10, 3, .inl a10)), (ga 11, .inl (gc 11, 3, .inl a11)), (ga 12, .inl (gc 12, 3, .inl a12)), (ga 23, .inl (gc 23, 3, .inl a23))]) [0, 1, 2, 3, 4, 5, 6] rfl
        replace hD := hD.sub (ws' := [(m0, .inr (6, oM ga uM cn sn cm us wt oc ou ow)), (ga 8, .inl (gc 8, 24, .inl a8)), (ga 9, .inl (gc 9, 96, .inl a9)), (ga 10, .inl (gc 10, 3, .inl a10)), (ga 11, .inl (gc 11, 3, .inl a11)), (ga 12, .inl (gc 12, 3, .inl a12)), (ga 23, .inl (gc 23, 3, .inl a23))]) [0, 1, 2, 3, 4, 5, 6] (by decide) rfl
        exact cut8_2 a8 a9 a10 a11 a12 w1 _ _ _ (by repeat' first | with_reducible assumption | with_reducible exact is16_0 | with_reducible exact is16_m _ | with_reducible exact set16' _ | with_reducible apply rgI_upd | with_reducible apply c3_upd | with_reducible apply o3_upd | exact Or.inl rfl | exact ⟨0, by with_reducible assumption, rfl⟩ | omega | assumption) (by repeat' first | with_reducible assumption | with_reducible exact is16_0 | with_reducible exact is16_m _ | with_reducible exact set16' _ | with_reducible apply rgI_upd | with_reducible apply c3_upd | with_reducible apply o3_upd | exact Or.inl rfl | exact ⟨0, by with_reducible assumption, rfl⟩ | omega | assumption) h19 h12 hin hSq hl hP hD hS
  have ci0_93 : ∀ (n9 : Nat) (i : Nat) (a8 : Nat → Int32) (a9 : Nat → Int32) (a10 : Nat → Int32) (a11 : Nat → Int32) (a12 : Nat → Int32) (w1 : Int32) (ls : Array Slot) (H : Heap) (locs : List Loc), i + n9 = 8 → wdI 24 a8 → c3I cn a10 → (∃ q : Nat, q < 3 ∧ w1 = nI q) → mk3 (upd a11 0 0) a12 → s3 a11 → SP = s_M_copyAll_ci0_93 a23 n9 i a8 a9 a10 a11 a12 w1 →  lv_has ls 4 [(0, .ref m0), (1, .int w1), (2, .int 0), (3, .int (nI i))] → va_P (dC, dI) classes [(m0, .inr (6, oM ga uM cn sn cm us wt oc ou ow)), (ga 8, .inl (gc 8, 24, .inl a8)), (ga 9, .inl (gc 9, 96, .inl a9)), (ga 10, .inl (gc 10, 3, .inl a10)), (ga 11, .inl (gc 11, 3, .inl a11)), (ga 12, .inl (gc 12, 3, .inl a12)), (ga 23, .inl (gc 23, 3, .inl a23))] H → va_D A [(m0, .inr (6, oM ga uM cn sn cm us wt oc ou ow)), (ga 8, .inl (gc 8, 24, .inl a8)), (ga 9, .inl (gc 9, 96, .inl a9)), (ga 10, .inl (gc 10, 3, .inl a10)), (ga 11, .inl (gc 11, 3, .inl a11)), (ga 12, .inl (gc 12, 3, .inl a12)), (ga 23, .inl (gc 23, 3, .inl a23))] → va_S A s.heap H locs → W p l e (headSpec (tbw y_M_copyAll b_M_copyAll 4 none) ({ frames := 1, cells := 0, slots := 0, locals := 22 })).room s m ([.ref m0] : List Value).toArray below meth c H locs 0 0 (MQ below (va_Qv (fun (u9 : (Nat → Int32) × (Nat → Int32) × (Nat → Int32) × (Nat → Int32) × (Nat → Int32)) => match u9 with | (a8n, a9n, a10n, a11n, a12n) => (wdI 24 a8n ∧ c3I cn a10n ∧ mk3 a11n a12n ∧ s3 a11n) ∧ (a8n, a9n, a10n, a11n, a12n) = SP) (fun (u9 : (Nat → Int32) × (Nat → Int32) × (Nat → Int32) × (Nat → Int32) × (Nat → Int32)) t => match u9 with | (a8n, a9n, a10n, a11n, a12n) => va_P (dC, dI) classes [(m0, .inr (6, oM ga uM cn sn cm us wt oc ou ow)), (ga 8, .inl (gc 8, 24, .inl a8n)), (ga 9, .inl (gc 9, 96, .inl a9n)), (ga 10, .inl (gc 10, 3, .inl a10n)), (ga 11, .inl (gc 11, 3, .inl a11n)), (ga 12, .inl (gc 12, 3, .inl a12n)), (ga 23, .inl (gc 23, 3, .inl a23))] t.heap ∧ va_K (dC, dI) classes [(gc 8, .int), (gc 9, .int), (gc 10, .int), (gc 11, .int), (gc 12, .int), (gc 23, .boolean)] t ∧ va_D A [(m0, .inr (6, oM ga uM cn sn cm us wt oc ou ow)), (ga 8, .inl (gc 8, 24, .inl a8n)), (ga 9, .inl (gc 9, 96, .inl a9n)), (ga 10, .inl (gc 10, 3, .inl a10n)), (ga 11, .inl (gc 11, 3, .inl a11n)), (ga 12, .inl (gc 12, 3, .inl a12n)), (ga 23, .inl (gc 23, 3, .inl a23))]) A) ([.ref m0] : List Value).toArray s 0 0 A) (F0 m 93 ls []) := by
    intro n9
    induction n9 with
    | zero =>
      intro i a8 a9 a10 a11 a12 w1 ls H locs hn9 h8 h10 h19 hmx hin hSq0 hl hP hD hS
      have h19c := h19
      obtain ⟨q1, hq1, e1⟩ := h19c
      refine lv_iload_n hx hb d_M_copyAll_93 rfl (lv_at hl 3 rfl) ?_
      refine lv_bipush (v := 8) hx hb d_M_copyAll_94 (by decide) ?_
      refine lv_icmp_ge (tgt := 127) hx hb d_M_copyAll_96 rfl (fun hc16 => ?_) (fun hc16 => by first | exact absurd (by rw [show i = 8 by omega]; decide) hc16 | exact absurd hc16 (by rw [show i = 8 by omega]; decide))
      refine lv_aload_n hx hb d_M_copyAll_127 rfl (lv_at hl 0 rfl) ?_
      refine va_get (D := (dC, dI)) (ci := 6) (v := .ref (ga 10)) (C := "VotedTripleModel") (T := F_M) (N := 37) hx hb hw in_M hown hK hP 0 rfl rfl 10 (by decide) (hw _ k_734) (fun _ h9 => h9) rfl d_M_copyAll_128 ?_
      refine lv_iload_n hx hb d_M_copyAll_131 rfl (lv_at hl 2 rfl) ?_
      refine lv_aload_n hx hb d_M_copyAll_132 rfl (lv_at hl 0 rfl) ?_
      refine va_get (D := (dC, dI)) (ci := 6) (v := .ref (ga 10)) (C := "VotedTripleModel") (T := F_M) (N := 37) hx hb hw in_M hown hK hP 0 rfl rfl 10 (by decide) (hw _ k_734) (fun _ h9 => h9) rfl d_M_copyAll_133 ?_
      refine lv_iload_n hx hb d_M_copyAll_136 rfl (lv_at hl 1 rfl) ?_
      refine va_iald hx hb hK hP 3 2 rfl rfl (mi_in e1 hq1) d_M_copyAll_137 ?_
      have hc9 := c3_at h10 e1 hq1
      refine va_iast hx hb hK hP hD hS 3 2 rfl rfl (by unfold vp_in; decide) d_M_copyAll_138 (fun H locs hP hD hS => ?_)
      replace hP : va_P (dC, dI) classes [(m0, .inr (6, oM ga uM cn sn cm us wt oc ou ow)), (ga 8, .inl (gc 8, 24, .inl a8)), (ga 9, .inl (gc 9, 96, .inl a9)), (ga 10, .inl (gc 10, 3, .inl (upd a10 0 (a10 (Int32.toNatClampNeg w1))))), (ga 11, .inl (gc 11, 3, .inl a11)), (ga 12, .inl (gc 12, 3, .inl a12)), (ga 23, .inl (gc 23, 3, .inl a23))] H := hP
      replace hD : va_D A [(m0, .inr (6, oM ga uM cn sn cm us wt oc ou ow)), (ga 8, .inl (gc 8, 24, .inl a8)), (ga 9, .inl (gc 9, 96, .inl a9)), (ga 10, .inl (gc 10, 3, .inl (upd a10 0 (a10 (Int32.toNatClampNeg w1))))), (ga 11, .inl (gc 11, 3, .inl a11)), (ga 12, .inl (gc 12, 3, .inl a12)), (ga 23, .inl (gc 23, 3, .inl a23))] := hD
      refine lv_aload_n hx hb d_M_copyAll_139 rfl (lv_at hl 0 rfl) ?_
      refine va_get (D := (dC, dI)) (ci := 6) (v := .ref (ga 11)) (C := "VotedTripleModel") (T := F_M) (N := 37) hx hb hw in_M hown hK hP 0 rfl rfl 11 (by decide) (hw _ k_735) (fun _ h9 => h9) rfl d_M_copyAll_140 ?_
      refine lv_iload_n hx hb d_M_copyAll_143 rfl (lv_at hl 2 rfl) ?_
      refine lv_iconst (v := 0) hx hb d_M_copyAll_144 (by decide) ?_
      refine va_iast hx hb hK hP hD hS 4 3 rfl rfl (by unfold vp_in; decide) d_M_copyAll_145 (fun H locs hP hD hS => ?_)
      replace hP : va_P (dC, dI) classes [(m0, .inr (6, oM ga uM cn sn cm us wt oc ou ow)), (ga 8, .inl (gc 8, 24, .inl a8)), (ga 9, .inl (gc 9, 96, .inl a9)), (ga 10, .inl (gc 10, 3, .inl (upd a10 0 (a10 (Int32.toNatClampNeg w1))))), (ga 11, .inl (gc 11, 3, .inl (upd a11 0 (0 : Int32)))), (ga 12, .inl (gc 12, 3, .inl a12)), (ga 23, .inl (gc 23, 3, .inl a23))] H := hP
      replace hD : va_D A [(m0, .inr (6, oM ga uM cn sn cm us wt oc ou ow)), (ga 8, .inl (gc 8, 24, .inl a8)), (ga 9, .inl (gc 9, 96, .inl a9)), (ga 10, .inl (gc 10, 3, .inl (upd a10 0 (a10 (Int32.toNatClampNeg w1))))), (ga 11, .inl (gc 11, 3, .inl (upd a11 0 (0 : Int32)))), (ga 12, .inl (gc 12, 3, .inl a12)), (ga 23, .inl (gc 23, 3, .inl a23))] := hD
      refine lv_iinc (k := 2) (v := 1) hx hb d_M_copyAll_146 hl rfl rfl (by decide) rfl (fun ls hl => ?_)
      replace hl : lv_has ls 4 [(2, .int 1), (0, .ref m0), (1, .int w1), (3, .int (nI i))] := hl
      refine lv_goto (tgt := 8) hx hb d_M_copyAll_149 rfl ?_
      have hSq : SP = s_M_copyAll_cut8_1 a23 a8 a9 (upd a10 0 (a10 (Int32.toNatClampNeg w1))) (upd a11 0 (0 : Int32)) a12 w1 := by rw [hSq0, s_M_copyAll_ci0_93]; all_goals rfl
      replace hl := lv_sub hl (l' := [(0, .ref m0), (1, .int w1), (2, .int 1)]) [1, 2, 0] rfl
      replace hP := hP.sub (ws' := [(m0, .inr (6, oM ga uM cn sn cm us wt oc ou ow)), (ga 8, .inl (gc 8, 24, .inl a8)), (ga 9, .inl (gc 9, 96, .inl a9)), (ga 10, .inl (gc 10, 3, .inl (upd a10 0 (a10 (Int32.toNatClampNeg w1))))), (ga 11, .inl (gc 11, 3, .inl (upd a11 0 (0 : Int32)))), (ga 12, .inl (gc 12, 3, .inl a12)), (ga 23, .inl (gc 23, 3, .inl a23))]) [0, 1, 2, 3, 4, 5, 6] rfl
      replace hD := hD.sub (ws' := [(m0, .inr (6, oM ga uM cn sn cm us wt oc ou ow)), (ga 8, .inl (gc 8, 24, .inl a8)), (ga 9, .inl (gc 9, 96, .inl a9)), (ga 10, .inl (gc 10, 3, .inl (upd a10 0 (a10 (Int32.toNatClampNeg w1))))), (ga 11, .inl (gc 11, 3, .inl (upd a11 0 (0 : Int32)))), (ga 12, .inl (gc 12, 3, .inl a12)), (ga 23, .inl (gc 23, 3, .inl a23))]) [0, 1, 2, 3, 4, 5, 6] (by decide) rfl
      exact cut8_1 a8 a9 (upd a10 0 (a10 (Int32.toNatClampNeg w1))) (upd a11 0 (0 : Int32)) a12 w1 _ _ _ (by repeat' first | with_reducible assumption | with_reducible exact is16_0 | with_reducible exact is16_m _ | with_reducible exact set16' _ | with_reducible apply rgI_upd | with_reducible apply c3_upd | with_reducible apply o3_upd | exact Or.inl rfl | exact ⟨0, by with_reducible assumption, rfl⟩ | omega | assumption) (by repeat' first | with_reducible assumption | with_reducible exact is16_0 | with_reducible exact is16_m _ | with_reducible exact set16' _ | with_reducible apply rgI_upd | with_reducible apply c3_upd | with_reducible apply o3_upd | exact Or.inl rfl | exact ⟨0, by with_reducible assumption, rfl⟩ | omega | assumption) h19 hmx (s3_0 hin) hSq hl hP hD hS
    | succ n9 ih =>
      intro i a8 a9 a10 a11 a12 w1 ls H locs hn9 h8 h10 h19 hmx hin hSq0 hl hP hD hS
      have h19c := h19
      obtain ⟨q1, hq1, e1⟩ := h19c
      refine lv_iload_n hx hb d_M_copyAll_93 rfl (lv_at hl 3 rfl) ?_
      refine lv_bipush (v := 8) hx hb d_M_copyAll_94 (by decide) ?_
      refine lv_icmp_ge (tgt := 127) hx hb d_M_copyAll_96 rfl (fun hc17 => by first | exact absurd hc17 (fun h9 => absurd ((nI_leI (a := 8) (b := i) (by omega) (by omega)).mp h9) (by omega)) | exact absurd (fun h9 => absurd ((nI_leI (a := 8) (b := i) (by omega) (by omega)).mp h9) (by omega)) hc17) (fun hc17 => ?_)
      refine lv_aload_n hx hb d_M_copyAll_99 rfl (lv_at hl 0 rfl) ?_
      refine va_get (D := (dC, dI)) (ci := 6) (v := .ref (ga 8)) (C := "VotedTripleModel") (T := F_M) (N := 37) hx hb hw in_M hown hK hP 0 rfl rfl 8 (by decide) (hw _ k_732) (fun _ h9 => h9) rfl d_M_copyAll_100 ?_
      refine lv_bipush (v := 8) hx hb d_M_copyAll_103 (by decide) ?_
      refine lv_iload_n hx hb d_M_copyAll_105 rfl (lv_at hl 2 rfl) ?_
      refine lv_imul hx hb d_M_copyAll_106 ?_
      refine lv_iload_n hx hb d_M_copyAll_107 rfl (lv_at hl 3 rfl) ?_
      refine lv_iadd hx hb d_M_copyAll_108 ?_
      refine lv_aload_n hx hb d_M_copyAll_109 rfl (lv_at hl 0 rfl) ?_
      refine va_get (D := (dC, dI)) (ci := 6) (v := .ref (ga 8)) (C := "VotedTripleModel") (T := F_M) (N := 37) hx hb hw in_M hown hK hP 0 rfl rfl 8 (by decide) (hw _ k_732) (fun _ h9 => h9) rfl d_M_copyAll_110 ?_
      refine lv_bipush (v := 8) hx hb d_M_copyAll_113 (by decide) ?_
      refine lv_iload_n hx hb d_M_copyAll_115 rfl (lv_at hl 1 rfl) ?_
      refine lv_imul hx hb d_M_copyAll_116 ?_
      refine lv_iload_n hx hb d_M_copyAll_117 rfl (lv_at hl 3 rfl) ?_
      refine lv_iadd hx hb d_M_copyAll_118 ?_
      refine va_iald hx hb hK hP 1 0 rfl rfl (ix8 e1 hq1 (vp_in_nI (by omega) (by decide))) d_M_copyAll_119 ?_
      have hv18 : is16 (a8 (Int32.toNatClampNeg (((8 : Int32) * w1) + (nI i)))) := rg_at h8 (ix8 e1 hq1 (vp_in_nI (by omega) (by decide))) (by decide)
      refine va_iast hx hb hK hP hD hS 1 0 rfl rfl (ix8 (mi := 0) (mk := 0) rfl (by decide) (vp_in_nI (by omega) (by decide))) d_M_copyAll_120 (fun H locs hP hD hS => ?_)
      replace hP : va_P (dC, dI) classes [(m0, .inr (6, oM ga uM cn sn cm us wt oc ou ow)), (ga 8, .inl (gc 8, 24, .inl (upd a8 (Int32.toNatClampNeg (((8 : Int32) * (0 : Int32)) + (nI i))) (a8 (Int32.toNatClampNeg (((8 : Int32) * w1) + (nI i))))))), (ga 9, .inl (gc 9, 96, .inl a9)), (ga 10, .inl (gc 10, 3, .inl a10)), (ga 11, .inl (gc 11, 3, .inl a11)), (ga 12, .inl (gc 12, 3, .inl a12)), (ga 23, .inl (gc 23, 3, .inl a23))] H := hP
      replace hD : va_D A [(m0, .inr (6, oM ga uM cn sn cm us wt oc ou ow)), (ga 8, .inl (gc 8, 24, .inl (upd a8 (Int32.toNatClampNeg (((8 : Int32) * (0 : Int32)) + (nI i))) (a8 (Int32.toNatClampNeg (((8 : Int32) * w1) + (nI i))))))), (ga 9, .inl (gc 9, 96, .inl a9)), (ga 10, .inl (gc 10, 3, .inl a10)), (ga 11, .inl (gc 11, 3, .inl a11)), (ga 12, .inl (gc 12, 3, .inl a12)), (ga 23, .inl (gc 23, 3, .inl a23))] := hD
      refine lv_iinc (k := 3) (v := nI (i + 1)) hx hb d_M_copyAll_121 hl rfl (nI_1 i) (by decide) rfl (fun ls hl => ?_)
      replace hl : lv_has ls 4 [(3, .int (nI (i + 1))), (0, .ref m0), (1, .int w1), (2, .int 0)] := hl
      refine lv_goto (tgt := 93) hx hb d_M_copyAll_124 rfl ?_
      have hSq : SP = s_M_copyAll_ci0_93 a23 n9 (i + 1) (upd a8 (Int32.toNatClampNeg (((8 : Int32) * (0 : Int32)) + (nI i))) (a8 (Int32.toNatClampNeg (((8 : Int32) * w1) + (nI i))))) a9 a10 a11 a12 w1 := by rw [hSq0, s_M_copyAll_ci0_93]; all_goals rfl
      replace hl := lv_sub hl (l' := [(0, .ref m0), (1, .int w1), (2, .int 0), (3, .int (nI (i + 1)))]) [1, 2, 3, 0] rfl
      replace hP := hP.sub (ws' := [(m0, .inr (6, oM ga uM cn sn cm us wt oc ou ow)), (ga 8, .inl (gc 8, 24, .inl (upd a8 (Int32.toNatClampNeg (((8 : Int32) * (0 : Int32)) + (nI i))) (a8 (Int32.toNatClampNeg (((8 : Int32) * w1) + (nI i))))))), (ga 9, .inl (gc 9, 96, .inl a9)), (ga 10, .inl (gc 10, 3, .inl a10)), (ga 11, .inl (gc 11, 3, .inl a11)), (ga 12, .inl (gc 12, 3, .inl a12)), (ga 23, .inl (gc 23, 3, .inl a23))]) [0, 1, 2, 3, 4, 5, 6] rfl
      replace hD := hD.sub (ws' := [(m0, .inr (6, oM ga uM cn sn cm us wt oc ou ow)), (ga 8, .inl (gc 8, 24, .inl (upd a8 (Int32.toNatClampNeg (((8 : Int32) * (0 : Int32)) + (nI i))) (a8 (Int32.toNatClampNeg (((8 : Int32) * w1) + (nI i))))))), (ga 9, .inl (gc 9, 96, .inl a9)), (ga 10, .inl (gc 10, 3, .inl a10)), (ga 11, .inl (gc 11, 3, .inl a11)), (ga 12, .inl (gc 12, 3, .inl a12)), (ga 23, .inl (gc 23, 3, .inl a23))]) [0, 1, 2, 3, 4, 5, 6] (by decide) rfl
      exact ih (i + 1) (upd a8 (Int32.toNatClampNeg (((8 : Int32) * (0 : Int32)) + (nI i))) (a8 (Int32.toNatClampNeg (((8 : Int32) * w1) + (nI i))))) a9 a10 a11 a12 w1 _ _ _ (by omega) (by repeat' first | with_reducible assumption | with_reducible exact is16_0 | with_reducible exact is16_m _ | with_reducible exact set16' _ | with_reducible apply rgI_upd | with_reducible apply c3_upd | with_reducible apply o3_upd | exact Or.inl rfl | exact ⟨0, by with_reducible assumption, rfl⟩ | omega | assumption) (by repeat' first | with_reducible assumption | with_reducible exact is16_0 | with_reducible exact is16_m _ | with_reducible exact set16' _ | with_reducible apply rgI_upd | with_reducible apply c3_upd | with_reducible apply o3_upd | exact Or.inl rfl | exact ⟨0, by with_reducible assumption, rfl⟩ | omega | assumption) h19 hmx hin hSq hl hP hD hS
  have cut8_0 : ∀ (a8 : Nat → Int32) (a9 : Nat → Int32) (a10 : Nat → Int32) (a11 : Nat → Int32) (a12 : Nat → Int32) (w1 : Int32) (ls : Array Slot) (H : Heap) (locs : List Loc), wdI 24 a8 → c3I cn a10 → (∃ q : Nat, q < 3 ∧ w1 = nI q) → mk3 a11 a12 → s3 a11 → SP = s_M_copyAll_cut8_0 a23 a8 a9 a10 a11 a12 w1 →  lv_has ls 4 [(0, .ref m0), (1, .int w1), (2, .int 0)] → va_P (dC, dI) classes [(m0, .inr (6, oM ga uM cn sn cm us wt oc ou ow)), (ga 8, .inl (gc 8, 24, .inl a8)), (ga 9, .inl (gc 9, 96, .inl a9)), (ga 10, .inl (gc 10, 3, .inl a10)), (ga 11, .inl (gc 11, 3, .inl a11)), (ga 12, .inl (gc 12, 3, .inl a12)), (ga 23, .inl (gc 23, 3, .inl a23))] H → va_D A [(m0, .inr (6, oM ga uM cn sn cm us wt oc ou ow)), (ga 8, .inl (gc 8, 24, .inl a8)), (ga 9, .inl (gc 9, 96, .inl a9)), (ga 10, .inl (gc 10, 3, .inl a10)), (ga 11, .inl (gc 11, 3, .inl a11)), (ga 12, .inl (gc 12, 3, .inl a12)), (ga 23, .inl (gc 23, 3, .inl a23))] → va_S A s.heap H locs → W p l e (headSpec (tbw y_M_copyAll b_M_copyAll 4 none) ({ frames := 1, cells := 0, slots := 0, locals := 22 })).room s m ([.ref m0] : List Value).toArray below meth c H locs 0 0 (MQ below (va_Qv (fun (u9 : (Nat → Int32) × (Nat → Int32) × (Nat → Int32) × (Nat → Int32) × (Nat → Int32)) => match u9 with | (a8n, a9n, a10n, a11n, a12n) => (wdI 24 a8n ∧ c3I cn a10n ∧ mk3 a11n a12n ∧ s3 a11n) ∧ (a8n, a9n, a10n, a11n, a12n) = SP) (fun (u9 : (Nat → Int32) × (Nat → Int32) × (Nat → Int32) × (Nat → Int32) × (Nat → Int32)) t => match u9 with | (a8n, a9n, a10n, a11n, a12n) => va_P (dC, dI) classes [(m0, .inr (6, oM ga uM cn sn cm us wt oc ou ow)), (ga 8, .inl (gc 8, 24, .inl a8n)), (ga 9, .inl (gc 9, 96, .inl a9n)), (ga 10, .inl (gc 10, 3, .inl a10n)), (ga 11, .inl (gc 11, 3, .inl a11n)), (ga 12, .inl (gc 12, 3, .inl a12n)), (ga 23, .inl (gc 23, 3, .inl a23))] t.heap ∧ va_K (dC, dI) classes [(gc 8, .int), (gc 9, .int), (gc 10, .int), (gc 11, .int), (gc 12, .int), (gc 23, .boolean)] t ∧ va_D A [(m0, .inr (6, oM ga uM cn sn cm us wt oc ou ow)), (ga 8, .inl (gc 8, 24, .inl a8n)), (ga 9, .inl (gc 9, 96, .inl a9n)), (ga 10, .inl (gc 10, 3, .inl a10n)), (ga 11, .inl (gc 11, 3, .inl a11n)), (ga 12, .inl (gc 12, 3, .inl a12n)), (ga 23, .inl (gc 23, 3, .inl a23))]) A) ([.ref m0] : List Value).toArray s 0 0 A) (F0 m 8 ls []) := by
    intro a8 a9 a10 a11 a12 w1 ls H locs h8 h10 h19 h12 hin hSq0 hl hP hD hS
    clear cut8_3 ci2_93 cut8_2 ci1_93
    have h19c := h19
    obtain ⟨q1, hq1, e1⟩ := h19c
    refine lv_iload_n hx hb d_M_copyAll_8 rfl (lv_at hl 2 rfl) ?_
    refine lv_iconst (v := 3) hx hb d_M_copyAll_9 (by decide) ?_
    refine lv_icmp_ge (tgt := 152) hx hb d_M_copyAll_10 rfl (fun hc19 => by first | exact absurd hc19 (by decide) | exact absurd (by decide) hc19) (fun hc19 => ?_)
    refine lv_aload_n hx hb d_M_copyAll_13 rfl (lv_at hl 0 rfl) ?_
    refine va_get (D := (dC, dI)) (ci := 6) (v := .ref (ga 11)) (C := "VotedTripleModel") (T := F_M) (N := 37) hx hb hw in_M hown hK hP 0 rfl rfl 11 (by decide) (hw _ k_735) (fun _ h9 => h9) rfl d_M_copyAll_14 ?_
    refine lv_iload_n hx hb d_M_copyAll_17 rfl (lv_at hl 2 rfl) ?_
    refine va_iald hx hb hK hP 4 3 rfl rfl (by unfold vp_in; decide) d_M_copyAll_18 ?_
    refine W.eq (g2 := F0 m 19 ls [.int (a11 0)]) rfl ?_
    refine lv_iconst (v := 1) hx hb d_M_copyAll_19 (by decide) ?_
    refine lv_icmp_ne (tgt := 146) hx hb d_M_copyAll_20 rfl (fun hc20 => ?_) (fun hc20 => ?_)
    · --  ¬ (a11 0) = 1
      refine lv_iinc (k := 2) (v := 1) hx hb d_M_copyAll_146 hl rfl rfl (by decide) rfl (fun ls hl => ?_)
      replace hl : lv_has ls 4 [(2, .int 1), (0, .ref m0), (1, .int w1)] := hl
      refine lv_goto (tgt := 8) hx hb d_M_copyAll_149 rfl ?_
      have hSq : SP = s_M_copyAll_cut8_1 a23 a8 a9 a10 a11 a12 w1 := by rw [hSq0, s_M_copyAll_cut8_0]; try (rw [if_neg hc20]); all_goals rfl
      replace hl := lv_sub hl (l' := [(0, .ref m0), (1, .int w1), (2, .int 1)]) [1, 2, 0] rfl
      replace hP := hP.sub (ws' := [(m0, .inr (6, oM ga uM cn sn cm us wt oc ou ow)), (ga 8, .inl (gc 8, 24, .inl a8)), (ga 9, .inl (gc 9, 96, .inl a9)), (ga 10, .inl (gc 10, 3, .inl a10)), (ga 11, .inl (gc 11, 3, .inl a11)), (ga 12, .inl (gc 12, 3, .inl a12)), (ga 23, .inl (gc 23, 3, .inl a23))]) [0, 1, 2, 3, 4, 5, 6] rfl
      replace hD := hD.sub (ws' := [(m0, .inr (6, oM ga uM cn sn cm us wt oc ou ow)), (ga 8, .inl (gc 8, 24, .inl a8)), (ga 9, .inl (gc 9, 96, .inl a9)), (ga 10, .inl (gc 10, 3, .inl a10)), (ga 11, .inl (gc 11, 3, .inl a11)), (ga 12, .inl (gc 12, 3, .inl a12)), (ga 23, .inl (gc 23, 3, .inl a23))]) [0, 1, 2, 3, 4, 5, 6] (by decide) rfl
      exact cut8_1 a8 a9 a10 a11 a12 w1 _ _ _ (by repeat' first | with_reducible assumption | with_reducible exact is16_0 | with_reducible exact is16_m _ | with_reducible exact set16' _ | with_reducible apply rgI_upd | with_reducible apply c3_upd | with_reducible apply o3_upd | exact Or.inl rfl | exact ⟨0, by with_reducible assumption, rfl⟩ | omega | assumption) (by repeat' first | with_reducible assumption | with_reducible exact is16_0 | with_reducible exact is16_m _ | with_reducible exact set16' _ | with_reducible apply rgI_upd | with_reducible apply c3_upd | with_reducible apply o3_upd | exact Or.inl rfl | exact ⟨0, by with_reducible assumption, rfl⟩ | omega | assumption) h19 h12 hin hSq hl hP hD hS
    · --  (a11 0) = 1
      refine lv_aload_n hx hb d_M_copyAll_23 rfl (lv_at hl 0 rfl) ?_
      refine va_get (D := (dC, dI)) (ci := 6) (v := .ref (ga 23)) (C := "VotedTripleModel") (T := F_M) (N := 37) hx hb hw in_M hown hK hP 0 rfl rfl 23 (by decide) (hw _ k_747) (fun _ h9 => h9) rfl d_M_copyAll_24 ?_
      refine lv_iload_n hx hb d_M_copyAll_27 rfl (lv_at hl 2 rfl) ?_
      refine va_zald hx hb hK hP 6 5 rfl rfl (by unfold vp_in; decide) d_M_copyAll_28 ?_
      refine W.eq (g2 := F0 m 29 ls [.int (a23 0)]) rfl ?_
      refine lv_if_eq (tgt := 35) hx hb d_M_copyAll_29 rfl (fun hc21 => ?_) (fun hc21 => ?_)
      · --  (a23 0) = 0
        obtain ⟨km, hkm, em⟩ := h12 0 (by decide) hc20
        refine lv_aload_n hx hb d_M_copyAll_35 rfl (lv_at hl 0 rfl) ?_
        refine va_get (D := (dC, dI)) (ci := 6) (v := .ref (ga 9)) (C := "VotedTripleModel") (T := F_M) (N := 37) hx hb hw in_M hown hK hP 0 rfl rfl 9 (by decide) (hw _ k_733) (fun _ h9 => h9) rfl d_M_copyAll_36 ?_
        refine lv_bipush (v := 32) hx hb d_M_copyAll_39 (by decide) ?_
        refine lv_iload_n hx hb d_M_copyAll_41 rfl (lv_at hl 2 rfl) ?_
        refine lv_imul hx hb d_M_copyAll_42 ?_
        refine lv_aload_n hx hb d_M_copyAll_43 rfl (lv_at hl 0 rfl) ?_
        refine va_get (D := (dC, dI)) (ci := 6) (v := .ref (ga 12)) (C := "VotedTripleModel") (T := F_M) (N := 37) hx hb hw in_M hown hK hP 0 rfl rfl 12 (by decide) (hw _ k_736) (fun _ h9 => h9) rfl d_M_copyAll_44 ?_
        refine lv_iload_n hx hb d_M_copyAll_47 rfl (lv_at hl 2 rfl) ?_
        refine va_iald hx hb hK hP 5 4 rfl rfl (by unfold vp_in; decide) d_M_copyAll_48 ?_
        refine W.eq (g2 := F0 m 49 ls [.int (a12 0), .int ((32 : Int32) * (0 : Int32)), .ref (ga 9)]) rfl ?_
        refine lv_iadd hx hb d_M_copyAll_49 ?_
        refine lv_aload_n hx hb d_M_copyAll_50 rfl (lv_at hl 0 rfl) ?_
        refine va_get (D := (dC, dI)) (ci := 6) (v := .ref (ga 9)) (C := "VotedTripleModel") (T := F_M) (N := 37) hx hb hw in_M hown hK hP 0 rfl rfl 9 (by decide) (hw _ k_733) (fun _ h9 => h9) rfl d_M_copyAll_51 ?_
        refine lv_bipush (v := 32) hx hb d_M_copyAll_54 (by decide) ?_
        refine lv_iload_n hx hb d_M_copyAll_56 rfl (lv_at hl 1 rfl) ?_
        refine lv_imul hx hb d_M_copyAll_57 ?_
        refine lv_aload_n hx hb d_M_copyAll_58 rfl (lv_at hl 0 rfl) ?_
        refine va_get (D := (dC, dI)) (ci := 6) (v := .ref (ga 12)) (C := "VotedTripleModel") (T := F_M) (N := 37) hx hb hw in_M hown hK hP 0 rfl rfl 12 (by decide) (hw _ k_736) (fun _ h9 => h9) rfl d_M_copyAll_59 ?_
        refine lv_iload_n hx hb d_M_copyAll_62 rfl (lv_at hl 2 rfl) ?_
        refine va_iald hx hb hK hP 5 4 rfl rfl (by unfold vp_in; decide) d_M_copyAll_63 ?_
        refine W.eq (g2 := F0 m 64 ls [.int (a12 0), .int ((32 : Int32) * w1), .ref (ga 9), .int (((32 : Int32) * (0 : Int32)) + (a12 0)), .ref (ga 9)]) rfl ?_
        refine lv_iadd hx hb d_M_copyAll_64 ?_
        refine va_iald hx hb hK hP 2 1 rfl rfl (ix32 e1 hq1 (by rw [em]; exact vp_in_nI hkm (by decide))) d_M_copyAll_65 ?_
        refine va_iast hx hb hK hP hD hS 2 1 rfl rfl (ix32 (mi := 0) (mk := 0) rfl (by decide) (by rw [em]; exact vp_in_nI hkm (by decide))) d_M_copyAll_66 (fun H locs hP hD hS => ?_)
        replace hP : va_P (dC, dI) classes [(m0, .inr (6, oM ga uM cn sn cm us wt oc ou ow)), (ga 8, .inl (gc 8, 24, .inl a8)), (ga 9, .inl (gc 9, 96, .inl (upd a9 (Int32.toNatClampNeg (((32 : Int32) * (0 : Int32)) + (a12 0))) (a9 (Int32.toNatClampNeg (((32 : Int32) * w1) + (a12 0))))))), (ga 10, .inl (gc 10, 3, .inl a10)), (ga 11, .inl (gc 11, 3, .inl a11)), (ga 12, .inl (gc 12, 3, .inl a12)), (ga 23, .inl (gc 23, 3, .inl a23))] H := hP
        replace hD : va_D A [(m0, .inr (6, oM ga uM cn sn cm us wt oc ou ow)), (ga 8, .inl (gc 8, 24, .inl a8)), (ga 9, .inl (gc 9, 96, .inl (upd a9 (Int32.toNatClampNeg (((32 : Int32) * (0 : Int32)) + (a12 0))) (a9 (Int32.toNatClampNeg (((32 : Int32) * w1) + (a12 0))))))), (ga 10, .inl (gc 10, 3, .inl a10)), (ga 11, .inl (gc 11, 3, .inl a11)), (ga 12, .inl (gc 12, 3, .inl a12)), (ga 23, .inl (gc 23, 3, .inl a23))] := hD
        refine lv_aload_n hx hb d_M_copyAll_67 rfl (lv_at hl 0 rfl) ?_
        refine va_get (D := (dC, dI)) (ci := 6) (v := .ref (ga 12)) (C := "VotedTripleModel") (T := F_M) (N := 37) hx hb hw in_M hown hK hP 0 rfl rfl 12 (by decide) (hw _ k_736) (fun _ h9 => h9) rfl d_M_copyAll_68 ?_
        refine lv_iload_n hx hb d_M_copyAll_71 rfl (lv_at hl 2 rfl) ?_
        refine lv_dup2_11 hx hb d_M_copyAll_72 rfl rfl ?_
        refine va_iald hx hb hK hP 5 4 rfl rfl (by unfold vp_in; decide) d_M_copyAll_73 ?_
        refine W.eq (g2 := F0 m 74 ls [.int (a12 0), .int 0, .ref (ga 12)]) rfl ?_
        refine lv_iconst (v := 1) hx hb d_M_copyAll_74 (by decide) ?_
        refine lv_iadd hx hb d_M_copyAll_75 ?_
        refine va_iast hx hb hK hP hD hS 5 4 rfl rfl (by unfold vp_in; decide) d_M_copyAll_76 (fun H locs hP hD hS => ?_)
        replace hP : va_P (dC, dI) classes [(m0, .inr (6, oM ga uM cn sn cm us wt oc ou ow)), (ga 8, .inl (gc 8, 24, .inl a8)), (ga 9, .inl (gc 9, 96, .inl (upd a9 (Int32.toNatClampNeg (((32 : Int32) * (0 : Int32)) + (a12 0))) (a9 (Int32.toNatClampNeg (((32 : Int32) * w1) + (a12 0))))))), (ga 10, .inl (gc 10, 3, .inl a10)), (ga 11, .inl (gc 11, 3, .inl a11)), (ga 12, .inl (gc 12, 3, .inl (upd a12 0 ((a12 0) + (1 : Int32))))), (ga 23, .inl (gc 23, 3, .inl a23))] H := hP
        replace hD : va_D A [(m0, .inr (6, oM ga uM cn sn cm us wt oc ou ow)), (ga 8, .inl (gc 8, 24, .inl a8)), (ga 9, .inl (gc 9, 96, .inl (upd a9 (Int32.toNatClampNeg (((32 : Int32) * (0 : Int32)) + (a12 0))) (a9 (Int32.toNatClampNeg (((32 : Int32) * w1) + (a12 0))))))), (ga 10, .inl (gc 10, 3, .inl a10)), (ga 11, .inl (gc 11, 3, .inl a11)), (ga 12, .inl (gc 12, 3, .inl (upd a12 0 ((a12 0) + (1 : Int32))))), (ga 23, .inl (gc 23, 3, .inl a23))] := hD
        refine lv_aload_n hx hb d_M_copyAll_77 rfl (lv_at hl 0 rfl) ?_
        refine va_get (D := (dC, dI)) (ci := 6) (v := .ref (ga 12)) (C := "VotedTripleModel") (T := F_M) (N := 37) hx hb hw in_M hown hK hP 0 rfl rfl 12 (by decide) (hw _ k_736) (fun _ h9 => h9) rfl d_M_copyAll_78 ?_
        refine lv_iload_n hx hb d_M_copyAll_81 rfl (lv_at hl 2 rfl) ?_
        refine va_iald hx hb hK hP 5 4 rfl rfl (by unfold vp_in; decide) d_M_copyAll_82 ?_
        refine W.eq (g2 := F0 m 83 ls [.int ((upd a12 0 ((a12 0) + (1 : Int32))) 0)]) rfl ?_
        refine lv_bipush (v := 32) hx hb d_M_copyAll_83 (by decide) ?_
        refine lv_icmp_ge (tgt := 91) hx hb d_M_copyAll_85 rfl (fun hc22 => ?_) (fun hc22 => ?_)
        · --  32 ≤ ((upd a12 0 ((a12 0) + (1 : Int32))) 0)
          refine lv_iconst (v := 0) hx hb d_M_copyAll_91 (by decide) ?_
          refine lv_istore_n hx hb d_M_copyAll_92 rfl hl (by decide) rfl (fun ls hl => ?_)
          replace hl : lv_has ls 4 [(3, .int 0), (0, .ref m0), (1, .int w1), (2, .int 0)] := hl
          have hSq : SP = s_M_copyAll_ci0_93 a23 8 0 a8 (upd a9 (Int32.toNatClampNeg (((32 : Int32) * (0 : Int32)) + (a12 0))) (a9 (Int32.toNatClampNeg (((32 : Int32) * w1) + (a12 0))))) a10 a11 (upd a12 0 ((a12 0) + (1 : Int32))) w1 := by rw [hSq0, s_M_copyAll_cut8_0]; try (rw [if_pos hc20]); try (rw [if_pos hc21]); try (rw [if_pos hc22]); all_goals rfl
          replace hl := lv_sub hl (l' := [(0, .ref m0), (1, .int w1), (2, .int 0), (3, .int 0)]) [1, 2, 3, 0] rfl
          replace hP := hP.sub (ws' := [(m0, .inr (6, oM ga uM cn sn cm us wt oc ou ow)), (ga 8, .inl (gc 8, 24, .inl a8)), (ga 9, .inl (gc 9, 96, .inl (upd a9 (Int32.toNatClampNeg (((32 : Int32) * (0 : Int32)) + (a12 0))) (a9 (Int32.toNatClampNeg (((32 : Int32) * w1) + (a12 0))))))), (ga 10, .inl (gc 10, 3, .inl a10)), (ga 11, .inl (gc 11, 3, .inl a11)), (ga 12, .inl (gc 12, 3, .inl (upd a12 0 ((a12 0) + (1 : Int32))))), (ga 23, .inl (gc 23, 3, .inl a23))]) [0, 1, 2, 3, 4, 5, 6] rfl
          replace hD := hD.sub (ws' := [(m0, .inr (6, oM ga uM cn sn cm us wt oc ou ow)), (ga 8, .inl (gc 8, 24, .inl a8)), (ga 9, .inl (gc 9, 96, .inl (upd a9 (Int32.toNatClampNeg (((32 : Int32) * (0 : Int32)) + (a12 0))) (a9 (Int32.toNatClampNeg (((32 : Int32) * w1) + (a12 0))))))), (ga 10, .inl (gc 10, 3, .inl a10)), (ga 11, .inl (gc 11, 3, .inl a11)), (ga 12, .inl (gc 12, 3, .inl (upd a12 0 ((a12 0) + (1 : Int32))))), (ga 23, .inl (gc 23, 3, .inl a23))]) [0, 1, 2, 3, 4, 5, 6] (by decide) rfl
          exact ci0_93 8 0 a8 (upd a9 (Int32.toNatClampNeg (((32 : Int32) * (0 : Int32)) + (a12 0))) (a9 (Int32.toNatClampNeg (((32 : Int32) * w1) + (a12 0))))) a10 a11 (upd a12 0 ((a12 0) + (1 : Int32))) w1 _ _ _ (by omega) (by repeat' first | with_reducible assumption | with_reducible exact is16_0 | with_reducible exact is16_m _ | with_reducible exact set16' _ | with_reducible apply rgI_upd | with_reducible apply c3_upd | with_reducible apply o3_upd | exact Or.inl rfl | exact ⟨0, by with_reducible assumption, rfl⟩ | omega | assumption) (by repeat' first | with_reducible assumption | with_reducible exact is16_0 | with_reducible exact is16_m _ | with_reducible exact set16' _ | with_reducible apply rgI_upd | with_reducible apply c3_upd | with_reducible apply o3_upd | exact Or.inl rfl | exact ⟨0, by with_reducible assumption, rfl⟩ | omega | assumption) h19 (mk3_0 h12 (by decide)) hin hSq hl hP hD hS
        · --  ¬ 32 ≤ ((upd a12 0 ((a12 0) + (1 : Int32))) 0)
          have hm2 : mk3 a11 (upd a12 0 ((a12 0) + (1 : Int32))) := mk3_a h12 (mk_lt em (by rw [pk_us] at hc22; exact hc22) hkm)
          refine lv_goto (tgt := 146) hx hb d_M_copyAll_88 rfl ?_
          refine lv_iinc (k := 2) (v := 1) hx hb d_M_copyAll_146 hl rfl rfl (by decide) rfl (fun ls hl => ?_)
          replace hl : lv_has ls 4 [(2, .int 1), (0, .ref m0), (1, .int w1)] := hl
          refine lv_goto (tgt := 8) hx hb d_M_copyAll_149 rfl ?_
          have hSq : SP = s_M_copyAll_cut8_1 a23 a8 (upd a9 (Int32.toNatClampNeg (((32 : Int32) * (0 : Int32)) + (a12 0))) (a9 (Int32.toNatClampNeg (((32 : Int32) * w1) + (a12 0))))) a10 a11 (upd a12 0 ((a12 0) + (1 : Int32))) w1 := by rw [hSq0, s_M_copyAll_cut8_0]; try (rw [if_pos hc20]); try (rw [if_pos hc21]); try (rw [if_neg hc22]); all_goals rfl
          replace hl := lv_sub hl (l' := [(0, .ref m0), (1, .int w1), (2, .int 1)]) [1, 2, 0] rfl
          replace hP := hP.sub (ws' := [(m0, .inr (6, oM ga uM cn sn cm us wt oc ou ow)), (ga 8, .inl (gc 8, 24, .inl a8)), (ga 9, .inl (gc 9, 96, .inl (upd a9 (Int32.toNatClampNeg (((32 : Int32) * (0 : Int32)) + (a12 0))) (a9 (Int32.toNatClampNeg (((32 : Int32) * w1) + (a12 0))))))), (ga 10, .inl (gc 10, 3, .inl a10)), (ga 11, .inl (gc 11, 3, .inl a11)), (ga 12, .inl (gc 12, 3, .inl (upd a12 0 ((a12 0) + (1 : Int32))))), (ga 23, .inl (gc 23, 3, .inl a23))]) [0, 1, 2, 3, 4, 5, 6] rfl
          replace hD := hD.sub (ws' := [(m0, .inr (6, oM ga uM cn sn cm us wt oc ou ow)), (ga 8, .inl (gc 8, 24, .inl a8)), (ga 9, .inl (gc 9, 96, .inl (upd a9 (Int32.toNatClampNeg (((32 : Int32) * (0 : Int32)) + (a12 0))) (a9 (Int32.toNatClampNeg (((32 : Int32) * w1) + (a12 0))))))), (ga 10, .inl (gc 10, 3, .inl a10)), (ga 11, .inl (gc 11, 3, .inl a11)), (ga 12, .inl (gc 12, 3, .inl (upd a12 0 ((a12 0) + (1 : Int32))))), (ga 23, .inl (gc 23, 3, .inl a23))]) [0, 1, 2, 3, 4, 5, 6] (by decide) rfl
          exact cut8_1 a8 (upd a9 (Int32.toNatClampNeg (((32 : Int32) * (0 : Int32)) + (a12 0))) (a9 (Int32.toNatClampNeg (((32 : Int32) * w1) + (a12 0))))) a10 a11 (upd a12 0 ((a12 0) + (1 : Int32))) w1 _ _ _ (by repeat' first | with_reducible assumption | with_reducible exact is16_0 | with_reducible exact is16_m _ | with_reducible exact set16' _ | with_reducible apply rgI_upd | with_reducible apply c3_upd | with_reducible apply o3_upd | exact Or.inl rfl | exact ⟨0, by with_reducible assumption, rfl⟩ | omega | assumption) (by repeat' first | with_reducible assumption | with_reducible exact is16_0 | with_reducible exact is16_m _ | with_reducible exact set16' _ | with_reducible apply rgI_upd | with_reducible apply c3_upd | with_reducible apply o3_upd | exact Or.inl rfl | exact ⟨0, by with_reducible assumption, rfl⟩ | omega | assumption) h19 hm2 hin hSq hl hP hD hS
      · --  ¬ (a23 0) = 0
        refine lv_goto (tgt := 146) hx hb d_M_copyAll_32 rfl ?_
        refine lv_iinc (k := 2) (v := 1) hx hb d_M_copyAll_146 hl rfl rfl (by decide) rfl (fun ls hl => ?_)
        replace hl : lv_has ls 4 [(2, .int 1), (0, .ref m0), (1, .int w1)] := hl
        refine lv_goto (tgt := 8) hx hb d_M_copyAll_149 rfl ?_
        have hSq : SP = s_M_copyAll_cut8_1 a23 a8 a9 a10 a11 a12 w1 := by rw [hSq0, s_M_copyAll_cut8_0]; try (rw [if_pos hc20]); try (rw [if_neg hc21]); all_goals rfl
        replace hl := lv_sub hl (l' := [(0, .ref m0), (1, .int w1), (2, .int 1)]) [1, 2, 0] rfl
        replace hP := hP.sub (ws' := [(m0, .inr (6, oM ga uM cn sn cm us wt oc ou ow)), (ga 8, .inl (gc 8, 24, .inl a8)), (ga 9, .inl (gc 9, 96, .inl a9)), (ga 10, .inl (gc 10, 3, .inl a10)), (ga 11, .inl (gc 11, 3, .inl a11)), (ga 12, .inl (gc 12, 3, .inl a12)), (ga 23, .inl (gc 23, 3, .inl a23))]) [0, 1, 2, 3, 4, 5, 6] rfl
        replace hD := hD.sub (ws' := [(m0, .inr (6, oM ga uM cn sn cm us wt oc ou ow)), (ga 8, .inl (gc 8, 24, .inl a8)), (ga 9, .inl (gc 9, 96, .inl a9)), (ga 10, .inl (gc 10, 3, .inl a10)), (ga 11, .inl (gc 11, 3, .inl a11)), (ga 12, .inl (gc 12, 3, .inl a12)), (ga 23, .inl (gc 23, 3, .inl a23))]) [0, 1, 2, 3, 4, 5, 6] (by decide) rfl
        exact cut8_1 a8 a9 a10 a11 a12 w1 _ _ _ (by repeat' first | with_reducible assumption | with_reducible exact is16_0 | with_reducible exact is16_m _ | with_reducible exact set16' _ | with_reducible apply rgI_upd | with_reducible apply c3_upd | with_reducible apply o3_upd | exact Or.inl rfl | exact ⟨0, by with_reducible assumption, rfl⟩ | omega | assumption) (by repeat' first | with_reducible assumption | with_reducible exact is16_0 | with_reducible exact is16_m _ | with_reducible exact set16' _ | with_reducible apply rgI_upd | with_reducible apply c3_upd | with_reducible apply o3_upd | exact Or.inl rfl | exact ⟨0, by with_reducible assumption, rfl⟩ | omega | assumption) h19 h12 hin hSq hl hP hD hS
  clear cut8_3 ci2_93 cut8_2 ci1_93 cut8_1 ci0_93
  refine lv_aload_n hx hb d_M_copyAll_0 rfl (lv_at hl 0 rfl) ?_
  refine lv_iconst (v := 0) hx hb d_M_copyAll_1 (by decide) ?_
  replace hPc := hP.sub (ws' := [(m0, .inr (6, oM ga uM cn sn cm us wt oc ou ow)), (ga 11, .inl (gc 11, 3, .inl a11)), (ga 23, .inl (gc 23, 3, .inl a23))]) [0, 4, 6] rfl
  replace hKc := hK.sub (tys' := [(gc 11, .int), (gc 23, .boolean)]) [3, 5] rfl
  refine vp_callSi (va_runV (C := "VotedTripleModel") (As := [.int 0]) (rest := []) ⟨hx, hb, hml, hown, hw⟩ (c_M_lowest l dC dI m0 ga gc uM cn sn cm us wt oc ou ow a11 a23 0) (cwV 1 hw (gdV (k_919) (k_916) (k_918) (ks_32) (k_8)) rfl rfl rfl (by decide +kernel) ⟨Nat.le_of_ble_eq_true rfl, Nat.le_of_ble_eq_true rfl⟩) ⟨fun a U g mk q => ⟨q.1, q.2.1, va_K.moved (u := U) (U := U.calling g mk a) (Vm.Alike.refl U.vm) q.2.2⟩, va_recv hK hP rfl (q0 := 0) rfl, fun U hU hW => ⟨rfl, by rw [hU]; exact hPc, va_K.moved hW.alike hKc⟩⟩ rfl rfl hl.1 rfl (lv_room (Nat.le_of_ble_eq_true rfl)) d_M_copyAll_2 ⟨Nat.le_of_ble_eq_true rfl, Nat.le_of_ble_eq_true rfl⟩).run (fun r23 hr24 => ?_)
  obtain ⟨hr24, hr24E⟩ := hr24
  obtain ⟨hq1, hq2⟩ := hr24
  rcases hq1 with rfl | rfl | rfl | rfl
  · exact absurd rfl (hq2 rfl hin)
  · --  0
    refine lv_istore_n hx hb d_M_copyAll_5 rfl hl (by decide) rfl (fun ls hl => ?_)
    replace hl : lv_has ls 4 [(1, .int 0), (0, .ref m0)] := hl
    refine lv_iconst (v := 0) hx hb d_M_copyAll_6 (by decide) ?_
    refine lv_istore_n hx hb d_M_copyAll_7 rfl hl (by decide) rfl (fun ls hl => ?_)
    replace hl : lv_has ls 4 [(2, .int 0), (1, .int 0), (0, .ref m0)] := hl
    have hSq : SP = s_M_copyAll_cut8_0 a23 a8 a9 a10 a11 a12 0 := by rw [← hSP, s_M_copyAll]; try (rw [← hr24E, bnd_eq]); try (rw [if_neg (by decide)]); try (rw [if_pos rfl]); all_goals rfl
    replace hl := lv_sub hl (l' := [(0, .ref m0), (1, .int 0), (2, .int 0)]) [2, 1, 0] rfl
    replace hP := hP.sub (ws' := [(m0, .inr (6, oM ga uM cn sn cm us wt oc ou ow)), (ga 8, .inl (gc 8, 24, .inl a8)), (ga 9, .inl (gc 9, 96, .inl a9)), (ga 10, .inl (gc 10, 3, .inl a10)), (ga 11, .inl (gc 11, 3, .inl a11)), (ga 12, .inl (gc 12, 3, .inl a12)), (ga 23, .inl (gc 23, 3, .inl a23))]) [0, 1, 2, 3, 4, 5, 6] rfl
    replace hD := hD.sub (ws' := [(m0, .inr (6, oM ga uM cn sn cm us wt oc ou ow)), (ga 8, .inl (gc 8, 24, .inl a8)), (ga 9, .inl (gc 9, 96, .inl a9)), (ga 10, .inl (gc 10, 3, .inl a10)), (ga 11, .inl (gc 11, 3, .inl a11)), (ga 12, .inl (gc 12, 3, .inl a12)), (ga 23, .inl (gc 23, 3, .inl a23))]) [0, 1, 2, 3, 4, 5, 6] (by decide) rfl
    exact cut8_0 a8 a9 a10 a11 a12 0 _ _ _ (by repeat' first | with_reducible assumption | with_reducible exact is16_0 | with_reducible exact is16_m _ | with_reducible exact set16' _ | with_reducible apply rgI_upd | with_reducible apply c3_upd | with_reducible apply o3_upd | exact Or.inl rfl | exact ⟨0, by with_reducible assumption, rfl⟩ | omega | assumption) (by repeat' first | with_reducible assumption | with_reducible exact is16_0 | with_reducible exact is16_m _ | with_reducible exact set16' _ | with_reducible apply rgI_upd | with_reducible apply c3_upd | with_reducible apply o3_upd | exact Or.inl rfl | exact ⟨0, by with_reducible assumption, rfl⟩ | omega | assumption) (⟨0, by decide, rfl⟩) h12 hin hSq hl hP hD hS
  · --  1
    refine lv_istore_n hx hb d_M_copyAll_5 rfl hl (by decide) rfl (fun ls hl => ?_)
    replace hl : lv_has ls 4 [(1, .int 1), (0, .ref m0)] := hl
    refine lv_iconst (v := 0) hx hb d_M_copyAll_6 (by decide) ?_
    refine lv_istore_n hx hb d_M_copyAll_7 rfl hl (by decide) rfl (fun ls hl => ?_)
    replace hl : lv_has ls 4 [(2, .int 0), (1, .int 1), (0, .ref m0)] := hl
    have hSq : SP = s_M_copyAll_cut8_0 a23 a8 a9 a10 a11 a12 1 := by rw [← hSP, s_M_copyAll]; try (rw [← hr24E, bnd_eq]); try (rw [if_neg (by decide)]); try (rw [if_neg (by decide)]); try (rw [if_pos rfl]); all_goals rfl
    replace hl := lv_sub hl (l' := [(0, .ref m0), (1, .int 1), (2, .int 0)]) [2, 1, 0] rfl
    replace hP := hP.sub (ws' := [(m0, .inr (6, oM ga uM cn sn cm us wt oc ou ow)), (ga 8, .inl (gc 8, 24, .inl a8)), (ga 9, .inl (gc 9, 96, .inl a9)), (ga 10, .inl (gc 10, 3, .inl a10)), (ga 11, .inl (gc 11, 3, .inl a11)), (ga 12, .inl (gc 12, 3, .inl a12)), (ga 23, .inl (gc 23, 3, .inl a23))]) [0, 1, 2, 3, 4, 5, 6] rfl
    replace hD := hD.sub (ws' := [(m0, .inr (6, oM ga uM cn sn cm us wt oc ou ow)), (ga 8, .inl (gc 8, 24, .inl a8)), (ga 9, .inl (gc 9, 96, .inl a9)), (ga 10, .inl (gc 10, 3, .inl a10)), (ga 11, .inl (gc 11, 3, .inl a11)), (ga 12, .inl (gc 12, 3, .inl a12)), (ga 23, .inl (gc 23, 3, .inl a23))]) [0, 1, 2, 3, 4, 5, 6] (by decide) rfl
    exact cut8_0 a8 a9 a10 a11 a12 1 _ _ _ (by repeat' first | with_reducible assumption | with_reducible exact is16_0 | with_reducible exact is16_m _ | with_reducible exact set16' _ | with_reducible apply rgI_upd | with_reducible apply c3_upd | with_reducible apply o3_upd | exact Or.inl rfl | exact ⟨0, by with_reducible assumption, rfl⟩ | omega | assumption) (by repeat' first | with_reducible assumption | with_reducible exact is16_0 | with_reducible exact is16_m _ | with_reducible exact set16' _ | with_reducible apply rgI_upd | with_reducible apply c3_upd | with_reducible apply o3_upd | exact Or.inl rfl | exact ⟨0, by with_reducible assumption, rfl⟩ | omega | assumption) (⟨1, by decide, rfl⟩) h12 hin hSq hl hP hD hS
  · --  2
    refine lv_istore_n hx hb d_M_copyAll_5 rfl hl (by decide) rfl (fun ls hl => ?_)
    replace hl : lv_has ls 4 [(1, .int 2), (0, .ref m0)] := hl
    refine lv_iconst (v := 0) hx hb d_M_copyAll_6 (by decide) ?_
    refine lv_istore_n hx hb d_M_copyAll_7 rfl hl (by decide) rfl (fun ls hl => ?_)
    replace hl : lv_has ls 4 [(2, .int 0), (1, .int 2), (0, .ref m0)] := hl
    have hSq : SP = s_M_copyAll_cut8_0 a23 a8 a9 a10 a11 a12 2 := by rw [← hSP, s_M_copyAll]; try (rw [← hr24E, bnd_eq]); try (rw [if_neg (by decide)]); try (rw [if_neg (by decide)]); try (rw [if_neg (by decide)]); all_goals rfl
    replace hl := lv_sub hl (l' := [(0, .ref m0), (1, .int 2), (2, .int 0)]) [2, 1, 0] rfl
    replace hP := hP.sub (ws' := [(m0, .inr (6, oM ga uM cn sn cm us wt oc ou ow)), (ga 8, .inl (gc 8, 24, .inl a8)), (ga 9, .inl (gc 9, 96, .inl a9)), (ga 10, .inl (gc 10, 3, .inl a10)), (ga 11, .inl (gc 11, 3, .inl a11)), (ga 12, .inl (gc 12, 3, .inl a12)), (ga 23, .inl (gc 23, 3, .inl a23))]) [0, 1, 2, 3, 4, 5, 6] rfl
    replace hD := hD.sub (ws' := [(m0, .inr (6, oM ga uM cn sn cm us wt oc ou ow)), (ga 8, .inl (gc 8, 24, .inl a8)), (ga 9, .inl (gc 9, 96, .inl a9)), (ga 10, .inl (gc 10, 3, .inl a10)), (ga 11, .inl (gc 11, 3, .inl a11)), (ga 12, .inl (gc 12, 3, .inl a12)), (ga 23, .inl (gc 23, 3, .inl a23))]) [0, 1, 2, 3, 4, 5, 6] (by decide) rfl
    exact cut8_0 a8 a9 a10 a11 a12 2 _ _ _ (by repeat' first | with_reducible assumption | with_reducible exact is16_0 | with_reducible exact is16_m _ | with_reducible exact set16' _ | with_reducible apply rgI_upd | with_reducible apply c3_upd | with_reducible apply o3_upd | exact Or.inl rfl | exact ⟨0, by with_reducible assumption, rfl⟩ | omega | assumption) (by repeat' first | with_reducible assumption | with_reducible exact is16_0 | with_reducible exact is16_m _ | with_reducible exact set16' _ | with_reducible apply rgI_upd | with_reducible apply c3_upd | with_reducible apply o3_upd | exact Or.inl rfl | exact ⟨0, by with_reducible assumption, rfl⟩ | omega | assumption) (⟨2, by decide, rfl⟩) h12 hin hSq hl hP hD hS
