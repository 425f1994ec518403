set_option maxHeartbeats 4000000 in
set_option maxRecDepth 100000 in
theorem c_M_compareDigests (l : Launch) (dC : Nat → ClassId) (dI : Nat → Nat → Nat) (m0 : Nat) (ga : Nat → Nat) (gc : Nat → ClassId) (uM : Nat → Int32) (cn : Nat) (sn : Nat) (cm : Nat) (us : Nat) (wt : Nat) (oc : Nat) (ou : Nat) (ow : Nat) (a8 : Nat → Int32) (a10 : Nat → Int32) (a11 : Nat → Int32) (a23 : Nat → Int32) (sz : Nat) : Met l y_M_compareDigests (tbw y_M_compareDigests b_M_compareDigests 7 (some .boolean)) ({ frames := 1, cells := 0, slots := 0, locals := 24 }) (va_Pc [.ref m0] (fun U => U.heap.size = sz ∧ va_P (dC, dI) classes [(m0, .inr (6, oM ga uM cn sn cm us wt oc ou ow)), (ga 8, .inl (gc 8, 24, .inl a8)), (ga 10, .inl (gc 10, 3, .inl a10)), (ga 11, .inl (gc 11, 3, .inl a11)), (ga 23, .inl (gc 23, 3, .inl a23))] U.heap ∧ va_K (dC, dI) classes [(gc 8, .int), (gc 10, .int), (gc 11, .int), (gc 23, .boolean)] U ∧ va_D (fun _ => True) [(m0, .inr (6, oM ga uM cn sn cm us wt oc ou ow)), (ga 8, .inl (gc 8, 24, .inl a8)), (ga 10, .inl (gc 10, 3, .inl a10)), (ga 11, .inl (gc 11, 3, .inl a11)), (ga 23, .inl (gc 23, 3, .inl a23))])) (va_Qi (fun (r : Int32) (u9 : (Nat → Int32)) => match u9 with | a23n => (True) ∧ (r, a23n) = s_M_compareDigests a8 a10 a11 a23) (fun (u9 : (Nat → Int32)) t => match u9 with | a23n => va_P (dC, dI) classes [(m0, .inr (6, oM ga uM cn sn cm us wt oc ou ow)), (ga 8, .inl (gc 8, 24, .inl a8)), (ga 10, .inl (gc 10, 3, .inl a10)), (ga 11, .inl (gc 11, 3, .inl a11)), (ga 23, .inl (gc 23, 3, .inl a23n))] t.heap ∧ va_K (dC, dI) classes [(gc 8, .int), (gc 10, .int), (gc 11, .int), (gc 23, .boolean)] t ∧ va_D (va_A [(m0, .inr (6, oM ga uM cn sn cm us wt oc ou ow)), (ga 8, .inl (gc 8, 24, .inl a8)), (ga 10, .inl (gc 10, 3, .inl a10)), (ga 11, .inl (gc 11, 3, .inl a11)), (ga 23, .inl (gc 23, 3, .inl a23))] sz) [(m0, .inr (6, oM ga uM cn sn cm us wt oc ou ow)), (ga 8, .inl (gc 8, 24, .inl a8)), (ga 10, .inl (gc 10, 3, .inl a10)), (ga 11, .inl (gc 11, 3, .inl a11)), (ga 23, .inl (gc 23, 3, .inl a23n))]) (va_A [(m0, .inr (6, oM ga uM cn sn cm us wt oc ou ow)), (ga 8, .inl (gc 8, 24, .inl a8)), (ga 10, .inl (gc 10, 3, .inl a10)), (ga 11, .inl (gc 11, 3, .inl a11)), (ga 23, .inl (gc 23, 3, .inl a23))] sz)) 0 0 (va_A [(m0, .inr (6, oM ga uM cn sn cm us wt oc ou ow)), (ga 8, .inl (gc 8, 24, .inl a8)), (ga 10, .inl (gc 10, 3, .inl a10)), (ga 11, .inl (gc 11, 3, .inl a11)), (ga 23, .inl (gc 23, 3, .inl a23))] sz) := by
  refine Met.ofW (cc := b_M_compareDigests) (maxL := 7) (ret := (some .boolean)) (by decide) rfl ?_
  intro p e s m args below meth c s₁ B hml hv
  obtain ⟨rfl, hsz, hP, hK, hD0⟩ := hv
  have hx := B.exec
  have hb := B.bytes
  have hr := B.returns
  have hts := atoms_spec (ws := (tbw y_M_compareDigests b_M_compareDigests 7 (some .boolean))) B.pre
  have hw : ∀ z9 ∈ tb, z9.before ([.ref m0] : List Value).toArray s = true := fun z9 h => hts z9 (List.mem_cons_of_mem _ h)
  have hown : s.vm.findClass "VotedTripleModel" = some m.cls := findClass_of_methodNamed B.named
  have hlocks := B.notSynchronized
  subst hsz
  replace hD := hD0.self (sz := s.heap.size)
  generalize hAe : va_A [(m0, .inr (6, oM ga uM cn sn cm us wt oc ou ow)), (ga 8, .inl (gc 8, 24, .inl a8)), (ga 10, .inl (gc 10, 3, .inl a10)), (ga 11, .inl (gc 11, 3, .inl a11)), (ga 23, .inl (gc 23, 3, .inl a23))] s.heap.size = A at hD ⊢
  have hA : ∀ q : Nat, s.heap.size ≤ q → A q := fun q h => by rw [← hAe]; exact Or.inr h
  have hS : va_S A s.heap s.heap [] := va_S.rf
  replace hl := lv_entry ([.ref m0]) (n := 7) (Nat.le_of_ble_eq_true rfl)
  rw [lg_entry_eq]
  generalize (lg_sl ([.ref m0]) ++ List.replicate (7 - (lg_sl ([.ref m0])).length) Slot.unset).toArray = ls at hl ⊢
  replace hl : lv_has ls 7 [(0, .ref m0)] := hl
  generalize hSP : s_M_compareDigests a8 a10 a11 a23 = SP
  have cb55_3 : ∀ (w1 : Int32) (w2 : Int32) (w3 : Int32) (ls : Array Slot) (H : Heap) (locs : List Loc), w1 = ts a11 a23 3 → i012 w2 → (w2 = -1 → w3 = ts a11 a23 3) → SP = s_M_compareDigests_cb55_3 a23 w1 w2 w3 →  lv_has ls 7 [(0, .ref m0), (1, .int w1), (2, .int w2), (3, .int w3), (4, .int 3)] → va_P (dC, dI) classes [(m0, .inr (6, oM ga uM cn sn cm us wt oc ou ow)), (ga 8, .inl (gc 8, 24, .inl a8)), (ga 10, .inl (gc 10, 3, .inl a10)), (ga 11, .inl (gc 11, 3, .inl a11)), (ga 23, .inl (gc 23, 3, .inl a23))] H → va_D A [(m0, .inr (6, oM ga uM cn sn cm us wt oc ou ow)), (ga 8, .inl (gc 8, 24, .inl a8)), (ga 10, .inl (gc 10, 3, .inl a10)), (ga 11, .inl (gc 11, 3, .inl a11)), (ga 23, .inl (gc 23, 3, .inl a23))] → va_S A s.heap H locs → W p l e (headSpec (tbw y_M_compareDigests b_M_compareDigests 7 (some .boolean)) ({ frames := 1, cells := 0, slots := 0, locals := 24 })).room s m ([.ref m0] : List Value).toArray below meth c H locs 0 0 (MQ below (va_Qi (fun (r : Int32) (u9 : (Nat → Int32)) => match u9 with | a23n => (True) ∧ (r, a23n) = SP) (fun (u9 : (Nat → Int32)) t => match u9 with | a23n => va_P (dC, dI) classes [(m0, .inr (6, oM ga uM cn sn cm us wt oc ou ow)), (ga 8, .inl (gc 8, 24, .inl a8)), (ga 10, .inl (gc 10, 3, .inl a10)), (ga 11, .inl (gc 11, 3, .inl a11)), (ga 23, .inl (gc 23, 3, .inl a23n))] t.heap ∧ va_K (dC, dI) classes [(gc 8, .int), (gc 10, .int), (gc 11, .int), (gc 23, .boolean)] t ∧ va_D A [(m0, .inr (6, oM ga uM cn sn cm us wt oc ou ow)), (ga 8, .inl (gc 8, 24, .inl a8)), (ga 10, .inl (gc 10, 3, .inl a10)), (ga 11, .inl (gc 11, 3, .inl a11)), (ga 23, .inl (gc 23, 3, .inl a23n))]) A) ([.ref m0] : List Value).toArray s 0 0 A) (F0 m 55 ls []) := by
    intro w1 w2 w3 ls H locs h19 h29 h39 hSq0 hl hP hD hS
    refine lv_iload hx hb d_M_compareDigests_55 (lv_at hl 4 rfl) ?_
    refine lv_iconst (v := 3) hx hb d_M_compareDigests_57 (by decide) ?_
    refine lv_icmp_ge (tgt := 174) hx hb d_M_compareDigests_58 rfl (fun hc1 => ?_) (fun hc1 => by first | exact absurd (by decide) hc1 | exact absurd hc1 (by decide))
    refine lv_iload_n hx hb d_M_compareDigests_174 rfl (lv_at hl 3 rfl) ?_
    refine lv_iload_n hx hb d_M_compareDigests_175 rfl (lv_at hl 1 rfl) ?_
    refine lv_icmp_ne (tgt := 181) hx hb d_M_compareDigests_176 rfl (fun hc2 => ?_) (fun hc2 => ?_)
    · --  ¬ w3 = w1
      refine lv_iload_n hx hb d_M_compareDigests_181 rfl (lv_at hl 1 rfl) ?_
      refine lv_iconst (v := 2) hx hb d_M_compareDigests_182 (by decide) ?_
      refine lv_icmp_eq (tgt := 190) hx hb d_M_compareDigests_183 rfl (fun hc3 => ?_) (fun hc3 => ?_)
      · --  w1 = 2
        refine lv_iconst (v := 0) hx hb d_M_compareDigests_190 (by decide) ?_
        have hP9 := hP.sub (ws' := [(m0, .inr (6, oM ga uM cn sn cm us wt oc ou ow)), (ga 8, .inl (gc 8, 24, .inl a8)), (ga 10, .inl (gc 10, 3, .inl a10)), (ga 11, .inl (gc 11, 3, .inl a11)), (ga 23, .inl (gc 23, 3, .inl a23))]) [0, 1, 2, 3, 4] rfl
        have hD9 := hD.sub (ws' := [(m0, .inr (6, oM ga uM cn sn cm us wt oc ou ow)), (ga 8, .inl (gc 8, 24, .inl a8)), (ga 10, .inl (gc 10, 3, .inl a10)), (ga 11, .inl (gc 11, 3, .inl a11)), (ga 23, .inl (gc 23, 3, .inl a23))]) [0, 1, 2, 3, 4] (by decide) rfl
        have hK9 := hK.sub (tys' := [(gc 8, .int), (gc 10, .int), (gc 11, .int), (gc 23, .boolean)]) [0, 1, 2, 3] rfl
        refine W.widen (k := 0) (n := 0) (Nat.le_of_ble_eq_true rfl) (Nat.le_of_ble_eq_true rfl) ?_
        exact W.zret (v := 0) (ty := .boolean) hx hb hr rfl (fun t ht hW => ⟨⟨_, (a23), rfl, ⟨trivial, (by rw [hSq0, s_M_compareDigests_cb55_3]; try (rw [if_neg hc2]); try (rw [if_pos hc3]); all_goals rfl)⟩, by rw [ht]; exact hP9, va_K.moved hW.alike hK9, hD9⟩, hS.F ht⟩) hS.2.2 d_M_compareDigests_191
      · --  ¬ w1 = 2
        refine lv_iload_n hx hb d_M_compareDigests_186 rfl (lv_at hl 3 rfl) ?_
        refine lv_if_ne (tgt := 192) hx hb d_M_compareDigests_187 rfl (fun hc4 => ?_) (fun hc4 => ?_)
        · --  ¬ w3 = 0
          rcases h29 with rfl | rfl | rfl | rfl
          · exact absurd ((h39 rfl).trans h19.symm) hc2
          · --  0
            refine lv_aload_n hx hb d_M_compareDigests_192 rfl (lv_at hl 0 rfl) ?_
            refine va_get (D := (dC, dI)) (ci := 6) (v := .ref (ga 23)) (C := "VotedTripleModel") (T := F_M) (N := 37) hx hb hw in_M hown hK hP 0 rfl rfl 23 (by decide) (hw _ k_747) (fun _ h9 => h9) rfl d_M_compareDigests_193 ?_
            refine lv_iload_n hx hb d_M_compareDigests_196 rfl (lv_at hl 2 rfl) ?_
            refine lv_iconst (v := 1) hx hb d_M_compareDigests_197 (by decide) ?_
            refine va_zast hx hb hK hP hD hS 4 3 rfl rfl (by unfold vp_in; decide) d_M_compareDigests_198 (fun H locs hP hD hS => ?_)
            replace hP : va_P (dC, dI) classes [(m0, .inr (6, oM ga uM cn sn cm us wt oc ou ow)), (ga 8, .inl (gc 8, 24, .inl a8)), (ga 10, .inl (gc 10, 3, .inl a10)), (ga 11, .inl (gc 11, 3, .inl a11)), (ga 23, .inl (gc 23, 3, .inl (upd a23 0 (1 : Int32))))] H := hP
            replace hD : va_D A [(m0, .inr (6, oM ga uM cn sn cm us wt oc ou ow)), (ga 8, .inl (gc 8, 24, .inl a8)), (ga 10, .inl (gc 10, 3, .inl a10)), (ga 11, .inl (gc 11, 3, .inl a11)), (ga 23, .inl (gc 23, 3, .inl (upd a23 0 (1 : Int32))))] := hD
            refine lv_iconst (v := 1) hx hb d_M_compareDigests_199 (by decide) ?_
            have hP9 := hP.sub (ws' := [(m0, .inr (6, oM ga uM cn sn cm us wt oc ou ow)), (ga 8, .inl (gc 8, 24, .inl a8)), (ga 10, .inl (gc 10, 3, .inl a10)), (ga 11, .inl (gc 11, 3, .inl a11)), (ga 23, .inl (gc 23, 3, .inl (upd a23 0 (1 : Int32))))]) [0, 1, 2, 3, 4] rfl
            have hD9 := hD.sub (ws' := [(m0, .inr (6, oM ga uM cn sn cm us wt oc ou ow)), (ga 8, .inl (gc 8, 24, .inl a8)), (ga 10, .inl (gc 10, 3, .inl a10)), (ga 11, .inl (gc 11, 3, .inl a11)), (ga 23, .inl (gc 23, 3, .inl (upd a23 0 (1 : Int32))))]) [0, 1, 2, 3, 4] (by decide) rfl
            have hK9 := hK.sub (tys' := [(gc 8, .int), (gc 10, .int), (gc 11, .int), (gc 23, .boolean)]) [0, 1, 2, 3] rfl
            refine W.widen (k := 0) (n := 0) (Nat.le_of_ble_eq_true rfl) (Nat.le_of_ble_eq_true rfl) ?_
            exact W.zret (v := 1) (ty := .boolean) hx hb hr rfl (fun t ht hW => ⟨⟨_, (upd a23 0 (1 : Int32)), rfl, ⟨trivial, (by rw [hSq0, s_M_compareDigests_cb55_3]; try (rw [if_neg hc2]); try (rw [if_neg hc3]); try (rw [if_neg hc4]); try (rw [if_neg (by decide)]); try (rw [if_pos rfl]); all_goals rfl)⟩, by rw [ht]; exact hP9, va_K.moved hW.alike hK9, hD9⟩, hS.F ht⟩) hS.2.2 d_M_compareDigests_200
          · --  1
            refine lv_aload_n hx hb d_M_compareDigests_192 rfl (lv_at hl 0 rfl) ?_
            refine va_get (D := (dC, dI)) (ci := 6) (v := .ref (ga 23)) (C := "VotedTripleModel") (T := F_M) (N := 37) hx hb hw in_M hown hK hP 0 rfl rfl 23 (by decide) (hw _ k_747) (fun _ h9 => h9) rfl d_M_compareDigests_193 ?_
            refine lv_iload_n hx hb d_M_compareDigests_196 rfl (lv_at hl 2 rfl) ?_
            refine lv_iconst (v := 1) hx hb d_M_compareDigests_197 (by decide) ?_
            refine va_zast hx hb hK hP hD hS 4 3 rfl rfl (by unfold vp_in; decide) d_M_compareDigests_198 (fun H locs hP hD hS => ?_)
            replace hP : va_P (dC, dI) classes [(m0, .inr (6, oM ga uM cn sn cm us wt oc ou ow)), (ga 8, .inl (gc 8, 24, .inl a8)), (ga 10, .inl (gc 10, 3, .inl a10)), (ga 11, .inl (gc 11, 3, .inl a11)), (ga 23, .inl (gc 23, 3, .inl (upd a23 1 (1 : Int32))))] H := hP
            replace hD : va_D A [(m0, .inr (6, oM ga uM cn sn cm us wt oc ou ow)), (ga 8, .inl (gc 8, 24, .inl a8)), (ga 10, .inl (gc 10, 3, .inl a10)), (ga 11, .inl (gc 11, 3, .inl a11)), (ga 23, .inl (gc 23, 3, .inl (upd a23 1 (1 : Int32))))] := hD
            refine lv_iconst (v := 1) hx hb d_M_compareDigests_199 (by decide) ?_
            have hP9 := hP.sub (ws' := [(m0, .inr (6, oM ga uM cn sn cm us wt oc ou ow)), (ga 8, .inl (gc 8, 24, .inl a8)), (ga 10, .inl (gc 10, 3, .inl a10)), (ga 11, .inl (gc 11, 3, .inl a11)), (ga 23, .inl (gc 23, 3, .inl (upd a23 1 (1 : Int32))))]) [0, 1, 2, 3, 4] rfl
            have hD9 := hD.sub (ws' := [(m0, .inr (6, oM ga uM cn sn cm us wt oc ou ow)), (ga 8, .inl (gc 8, 24, .inl a8)), (ga 10, .inl (gc 10, 3, .inl a10)), (ga 11, .inl (gc 11, 3, .inl a11)), (ga 23, .inl (gc 23, 3, .inl (upd a23 1 (1 : Int32))))]) [0, 1, 2, 3, 4] (by decide) rfl
            have hK9 := hK.sub (tys' := [(gc 8, .int), (gc 10, .int), (gc 11, .int), (gc 23, .boolean)]) [0, 1, 2, 3] rfl
            refine W.widen (k := 0) (n := 0) (Nat.le_of_ble_eq_true rfl) (Nat.le_of_ble_eq_true rfl) ?_
            exact W.zret (v := 1) (ty := .boolean) hx hb hr rfl (fun t ht hW => ⟨⟨_, (upd a23 1 (1 : Int32)), rfl, ⟨trivial, (by rw [hSq0, s_M_compareDigests_cb55_3]; try (rw [if_neg hc2]); try (rw [if_neg hc3]); try (rw [if_neg hc4]); try (rw [if_neg (by decide)]); try (rw [if_neg (by decide)]); try (rw [if_pos rfl]); all_goals rfl)⟩, by rw [ht]; exact hP9, va_K.moved hW.alike hK9, hD9⟩, hS.F ht⟩) hS.2.2 d_M_compareDigests_200
          · --  2
            refine lv_aload_n hx hb d_M_compareDigests_192 rfl (lv_at hl 0 rfl) ?_
            refine va_get (D := (dC, dI)) (ci := 6) (v := .ref (ga 23)) (C := "VotedTripleModel") (T := F_M) (N := 37) hx hb hw in_M hown hK hP 0 rfl rfl 23 (by decide) (hw _ k_747) (fun _ h9 => h9) rfl d_M_compareDigests_193 ?_
            refine lv_iload_n hx hb d_M_compareDigests_196 rfl (lv_at hl 2 rfl) ?_
            refine lv_iconst (v := 1) hx hb d_M_compareDigests_197 (by decide) ?_
            refine va_zast hx hb hK hP hD hS 4 3 rfl rfl (by unfold vp_in; decide) d_M_compareDigests_198 (fun H locs hP hD hS => ?_)
            replace hP : va_P (dC, dI) classes [(m0, .inr (6, oM ga uM cn sn cm us wt oc ou ow)), (ga 8, .inl (gc 8, 24, .inl a8)), (ga 10, .inl (gc 10, 3, .inl a10)), (ga 11, .inl (gc 11, 3, .inl a11)), (ga 23, .inl (gc 23, 3, .inl (upd a23 2 (1 : Int32))))] H := hP
            replace hD : va_D A [(m0, .inr (6, oM ga uM cn sn cm us wt oc ou ow)), (ga 8, .inl (gc 8, 24, .inl a8)), (ga 10, .inl (gc 10, 3, .inl a10)), (ga 11, .inl (gc 11, 3, .inl a11)), (ga 23, .inl (gc 23, 3, .inl (upd a23 2 (1 : Int32))))] := hD
            refine lv_iconst (v := 1) hx hb d_M_compareDigests_199 (by decide) ?_
            have hP9 := hP.sub (ws' := [(m0, .inr (6, oM ga uM cn sn cm us wt oc ou ow)), (ga 8, .inl (gc 8, 24, .inl a8)), (ga 10, .inl (gc 10, 3, .inl a10)), (ga 11, .inl (gc 11, 3, .inl a11)), (ga 23, .inl (gc 23, 3, .inl (upd a23 2 (1 : Int32))))]) [0, 1, 2, 3, 4] rfl
            have hD9 := hD.sub (ws' := [(m0, .inr (6, oM ga uM cn sn cm us wt oc ou ow)), (ga 8, .inl (gc 8, 24, .inl a8)), (ga 10, .inl (gc 10, 3, .inl a10)), (ga 11, .inl (gc 11, 3, .inl a11)), (ga 23, .inl (gc 23, 3, .inl (upd a23 2 (1 : Int32))))]) [0, 1, 2, 3, 4] (by decide) rfl
            have hK9 := hK.sub (tys' := [(gc 8, .int), (gc 10, .int), (gc 11, .int), (gc 23, .boolean)]) [0, 1, 2, 3] rfl
            refine W.widen (k := 0) (n := 0) (Nat.le_of_ble_eq_true rfl) (Nat.le_of_ble_eq_true rfl) ?_
            exact W.zret (v := 1) (ty := .boolean) hx hb hr rfl (fun t ht hW => ⟨⟨_, (upd a23 2 (1 : Int32)), rfl, ⟨trivial, (by rw [hSq0, s_M_compareDigests_cb55_3]; try (rw [if_neg hc2]); try (rw [if_neg hc3]); try (rw [if_neg hc4]); try (rw [if_neg (by decide)]); try (rw [if_neg (by decide)]); try (rw [if_neg (by decide)]); all_goals rfl)⟩, by rw [ht]; exact hP9, va_K.moved hW.alike hK9, hD9⟩, hS.F ht⟩) hS.2.2 d_M_compareDigests_200
        · --  w3 = 0
          refine lv_iconst (v := 0) hx hb d_M_compareDigests_190 (by decide) ?_
          have hP9 := hP.sub (ws' := [(m0, .inr (6, oM ga uM cn sn cm us wt oc ou ow)), (ga 8, .inl (gc 8, 24, .inl a8)), (ga 10, .inl (gc 10, 3, .inl a10)), (ga 11, .inl (gc 11, 3, .inl a11)), (ga 23, .inl (gc 23, 3, .inl a23))]) [0, 1, 2, 3, 4] rfl
          have hD9 := hD.sub (ws' := [(m0, .inr (6, oM ga uM cn sn cm us wt oc ou ow)), (ga 8, .inl (gc 8, 24, .inl a8)), (ga 10, .inl (gc 10, 3, .inl a10)), (ga 11, .inl (gc 11, 3, .inl a11)), (ga 23, .inl (gc 23, 3, .inl a23))]) [0, 1, 2, 3, 4] (by decide) rfl
          have hK9 := hK.sub (tys' := [(gc 8, .int), (gc 10, .int), (gc 11, .int), (gc 23, .boolean)]) [0, 1, 2, 3] rfl
          refine W.widen (k := 0) (n := 0) (Nat.le_of_ble_eq_true rfl) (Nat.le_of_ble_eq_true rfl) ?_
          exact W.zret (v := 0) (ty := .boolean) hx hb hr rfl (fun t ht hW => ⟨⟨_, (a23), rfl, ⟨trivial, (by rw [hSq0, s_M_compareDigests_cb55_3]; try (rw [if_neg hc2]); try (rw [if_neg hc3]); try (rw [if_pos hc4]); all_goals rfl)⟩, by rw [ht]; exact hP9, va_K.moved hW.alike hK9, hD9⟩, hS.F ht⟩) hS.2.2 d_M_compareDigests_191
    · --  w3 = w1
      refine lv_iconst (v := 1) hx hb d_M_compareDigests_179 (by decide) ?_
      have hP9 := hP.sub (ws' := [(m0, .inr (6, oM ga uM cn sn cm us wt oc ou ow)), (ga 8, .inl (gc 8, 24, .inl a8)), (ga 10, .inl (gc 10, 3, .inl a10)), (ga 11, .inl (gc 11, 3, .inl a11)), (ga 23, .inl (gc 23, 3, .inl a23))]) [0, 1, 2, 3, 4] rfl
      have hD9 := hD.sub (ws' := [(m0, .inr (6, oM ga uM cn sn cm us wt oc ou ow)), (ga 8, .inl (gc 8, 24, .inl a8)), (ga 10, .inl (gc 10, 3, .inl a10)), (ga 11, .inl (gc 11, 3, .inl a11)), (ga 23, .inl (gc 23, 3, .inl a23))]) [0, 1, 2, 3, 4] (by decide) rfl
      have hK9 := hK.sub (tys' := [(gc 8, .int), (gc 10, .int), (gc 11, .int), (gc 23, .boolean)]) [0, 1, 2, 3] rfl
      refine W.widen (k := 0) (n := 0) (Nat.le_of_ble_eq_true rfl) (Nat.le_of_ble_eq_true rfl) ?_
      exact W.zret (v := 1) (ty := .boolean) hx hb hr rfl (fun t ht hW => ⟨⟨_, (a23), rfl, ⟨trivial, (by rw [hSq0, s_M_compareDigests_cb55_3]; try (rw [if_pos hc2]); all_goals rfl)⟩, by rw [ht]; exact hP9, va_K.moved hW.alike hK9, hD9⟩, hS.F ht⟩) hS.2.2 d_M_compareDigests_180
  have cc2_90_3 : ∀ (w1 : Int32) (w2 : Int32) (w3 : Int32) (w5 : Int32) (ls : Array Slot) (H : Heap) (locs : List Loc), w1 = ts a11 a23 3 → i012 w2 → (w2 = -1 → w3 = ts a11 a23 2) → (a11 2 = 0 ∧ a23 2 = 0) → SP = s_M_compareDigests_cc2_90_3 a23 w1 w2 w3 w5 →  lv_has ls 7 [(0, .ref m0), (1, .int w1), (2, .int w2), (3, .int w3), (4, .int 2), (5, .int w5), (6, .int 3)] → va_P (dC, dI) classes [(m0, .inr (6, oM ga uM cn sn cm us wt oc ou ow)), (ga 8, .inl (gc 8, 24, .inl a8)), (ga 10, .inl (gc 10, 3, .inl a10)), (ga 11, .inl (gc 11, 3, .inl a11)), (ga 23, .inl (gc 23, 3, .inl a23))] H → va_D A [(m0, .inr (6, oM ga uM cn sn cm us wt oc ou ow)), (ga 8, .inl (gc 8, 24, .inl a8)), (ga 10, .inl (gc 10, 3, .inl a10)), (ga 11, .inl (gc 11, 3, .inl a11)), (ga 23, .inl (gc 23, 3, .inl a23))] → va_S A s.heap H locs → W p l e (headSpec (tbw y_M_compareDigests b_M_compareDigests 7 (some .boolean)) ({ frames := 1, cells := 0, slots := 0, locals := 24 })).room s m ([.ref m0] : List Value).toArray below meth c H locs 0 0 (MQ below (va_Qi (fun (r : Int32) (u9 : (Nat → Int32)) => match u9 with | a23n => (True) ∧ (r, a23n) = SP) (fun (u9 : (Nat → Int32)) t => match u9 with | a23n => va_P (dC, dI) classes [(m0, .inr (6, oM ga uM cn sn cm us wt oc ou ow)), (ga 8, .inl (gc 8, 24, .inl a8)), (ga 10, .inl (gc 10, 3, .inl a10)), (ga 11, .inl (gc 11, 3, .inl a11)), (ga 23, .inl (gc 23, 3, .inl a23n))] t.heap ∧ va_K (dC, dI) classes [(gc 8, .int), (gc 10, .int), (gc 11, .int), (gc 23, .boolean)] t ∧ va_D A [(m0, .inr (6, oM ga uM cn sn cm us wt oc ou ow)), (ga 8, .inl (gc 8, 24, .inl a8)), (ga 10, .inl (gc 10, 3, .inl a10)), (ga 11, .inl (gc 11, 3, .inl a11)), (ga 23, .inl (gc 23, 3, .inl a23n))]) A) ([.ref m0] : List Value).toArray s 0 0 A) (F0 m 90 ls []) := by
    intro w1 w2 w3 w5 ls H locs h19 h29 h39 htr hSq0 hl hP hD hS
    refine lv_iload hx hb d_M_compareDigests_90 (lv_at hl 6 rfl) ?_
    refine lv_iconst (v := 3) hx hb d_M_compareDigests_92 (by decide) ?_
    refine lv_icmp_ge (tgt := 154) hx hb d_M_compareDigests_93 rfl (fun hc5 => ?_) (fun hc5 => by first | exact absurd (by decide) hc5 | exact absurd hc5 (by decide))
    refine lv_iload hx hb d_M_compareDigests_154 (lv_at hl 5 rfl) ?_
    refine lv_if_ne (tgt := 165) hx hb d_M_compareDigests_156 rfl (fun hc6 => ?_) (fun hc6 => ?_)
    · --  ¬ w5 = 0
      refine lv_iinc (k := 3) (v := w3 + 1) hx hb d_M_compareDigests_165 hl rfl rfl (by decide) rfl (fun ls hl => ?_)
      replace hl : lv_has ls 7 [(3, .int (w3 + 1)), (0, .ref m0), (1, .int w1), (2, .int w2), (4, .int 2), (5, .int w5), (6, .int 3)] := hl
      refine lv_iinc (k := 4) (v := 3) hx hb d_M_compareDigests_168 hl rfl rfl (by decide) rfl (fun ls hl => ?_)
      replace hl : lv_has ls 7 [(4, .int 3), (3, .int (w3 + 1)), (0, .ref m0), (1, .int w1), (2, .int w2), (5, .int w5), (6, .int 3)] := hl
      refine lv_goto (tgt := 55) hx hb d_M_compareDigests_171 rfl ?_
      have hSq : SP = s_M_compareDigests_cb55_3 a23 w1 w2 (w3 + 1) := by rw [hSq0, s_M_compareDigests_cc2_90_3]; try (rw [if_neg hc6]); all_goals rfl
      replace hl := lv_sub hl (l' := [(0, .ref m0), (1, .int w1), (2, .int w2), (3, .int (w3 + 1)), (4, .int 3)]) [2, 3, 4, 1, 0] rfl
      replace hP := hP.sub (ws' := [(m0, .inr (6, oM ga uM cn sn cm us wt oc ou ow)), (ga 8, .inl (gc 8, 24, .inl a8)), (ga 10, .inl (gc 10, 3, .inl a10)), (ga 11, .inl (gc 11, 3, .inl a11)), (ga 23, .inl (gc 23, 3, .inl a23))]) [0, 1, 2, 3, 4] rfl
      replace hD := hD.sub (ws' := [(m0, .inr (6, oM ga uM cn sn cm us wt oc ou ow)), (ga 8, .inl (gc 8, 24, .inl a8)), (ga 10, .inl (gc 10, 3, .inl a10)), (ga 11, .inl (gc 11, 3, .inl a11)), (ga 23, .inl (gc 23, 3, .inl a23))]) [0, 1, 2, 3, 4] (by decide) rfl
      exact cb55_3 w1 w2 (w3 + 1) _ _ _ h19 h29 (fun q => ts_1 (h39 q) htr) hSq hl hP hD hS
    · --  w5 = 0
      refine lv_iload hx hb d_M_compareDigests_159 (lv_at hl 4 rfl) ?_
      refine lv_istore_n hx hb d_M_compareDigests_161 rfl hl (by decide) rfl (fun ls hl => ?_)
      replace hl : lv_has ls 7 [(2, .int 2), (0, .ref m0), (1, .int w1), (3, .int w3), (4, .int 2), (5, .int w5), (6, .int 3)] := hl
      refine lv_goto (tgt := 168) hx hb d_M_compareDigests_162 rfl ?_
      refine lv_iinc (k := 4) (v := 3) hx hb d_M_compareDigests_168 hl rfl rfl (by decide) rfl (fun ls hl => ?_)
      replace hl : lv_has ls 7 [(4, .int 3), (2, .int 2), (0, .ref m0), (1, .int w1), (3, .int w3), (5, .int w5), (6, .int 3)] := hl
      refine lv_goto (tgt := 55) hx hb d_M_compareDigests_171 rfl ?_
      have hSq : SP = s_M_compareDigests_cb55_3 a23 w1 2 w3 := by rw [hSq0, s_M_compareDigests_cc2_90_3]; try (rw [if_pos hc6]); all_goals rfl
      replace hl := lv_sub hl (l' := [(0, .ref m0), (1, .int w1), (2, .int 2), (3, .int w3), (4, .int 3)]) [2, 3, 1, 4, 0] rfl
      replace hP := hP.sub (ws' := [(m0, .inr (6, oM ga uM cn sn cm us wt oc ou ow)), (ga 8, .inl (gc 8, 24, .inl a8)), (ga 10, .inl (gc 10, 3, .inl a10)), (ga 11, .inl (gc 11, 3, .inl a11)), (ga 23, .inl (gc 23, 3, .inl a23))]) [0, 1, 2, 3, 4] rfl
      replace hD := hD.sub (ws' := [(m0, .inr (6, oM ga uM cn sn cm us wt oc ou ow)), (ga 8, .inl (gc 8, 24, .inl a8)), (ga 10, .inl (gc 10, 3, .inl a10)), (ga 11, .inl (gc 11, 3, .inl a11)), (ga 23, .inl (gc 23, 3, .inl a23))]) [0, 1, 2, 3, 4] (by decide) rfl
      exact cb55_3 w1 2 w3 _ _ _ h19 (Or.inr (Or.inr (Or.inr rfl))) (fun q => absurd q (by decide)) hSq hl hP hD hS
  have cc2_90_2 : ∀ (w1 : Int32) (w2 : Int32) (w3 : Int32) (w5 : Int32) (ls : Array Slot) (H : Heap) (locs : List Loc), w1 = ts a11 a23 3 → i012 w2 → (w2 = -1 → w3 = ts a11 a23 2) → (a11 2 = 0 ∧ a23 2 = 0) → SP = s_M_compareDigests_cc2_90_2 a23 w1 w2 w3 w5 →  lv_has ls 7 [(0, .ref m0), (1, .int w1), (2, .int w2), (3, .int w3), (4, .int 2), (5, .int w5), (6, .int 2)] → va_P (dC, dI) classes [(m0, .inr (6, oM ga uM cn sn cm us wt oc ou ow)), (ga 8, .inl (gc 8, 24, .inl a8)), (ga 10, .inl (gc 10, 3, .inl a10)), (ga 11, .inl (gc 11, 3, .inl a11)), (ga 23, .inl (gc 23, 3, .inl a23))] H → va_D A [(m0, .inr (6, oM ga uM cn sn cm us wt oc ou ow)), (ga 8, .inl (gc 8, 24, .inl a8)), (ga 10, .inl (gc 10, 3, .inl a10)), (ga 11, .inl (gc 11, 3, .inl a11)), (ga 23, .inl (gc 23, 3, .inl a23))] → va_S A s.heap H locs → W p l e (headSpec (tbw y_M_compareDigests b_M_compareDigests 7 (some .boolean)) ({ frames := 1, cells := 0, slots := 0, locals := 24 })).room s m ([.ref m0] : List Value).toArray below meth c H locs 0 0 (MQ below (va_Qi (fun (r : Int32) (u9 : (Nat → Int32)) => match u9 with | a23n => (True) ∧ (r, a23n) = SP) (fun (u9 : (Nat → Int32)) t => match u9 with | a23n => va_P (dC, dI) classes [(m0, .inr (6, oM ga uM cn sn cm us wt oc ou ow)), (ga 8, .inl (gc 8, 24, .inl a8)), (ga 10, .inl (gc 10, 3, .inl a10)), (ga 11, .inl (gc 11, 3, .inl a11)), (ga 23, .inl (gc 23, 3, .inl a23n))] t.heap ∧ va_K (dC, dI) classes [(gc 8, .int), (gc 10, .int), (gc 11, .int), (gc 23, .boolean)] t ∧ va_D A [(m0, .inr (6, oM ga uM cn sn cm us wt oc ou ow)), (ga 8, .inl (gc 8, 24, .inl a8)), (ga 10, .inl (gc 10, 3, .inl a10)), (ga 11, .inl (gc 11, 3, .inl a11)), (ga 23, .inl (gc 23, 3, .inl a23n))]) A) ([.ref m0] : List Value).toArray s 0 0 A) (F0 m 90 ls []) := by
    intro w1 w2 w3 w5 ls H locs h19 h29 h39 htr hSq0 hl hP hD hS
    clear cb55_3
    refine lv_iload hx hb d_M_compareDigests_90 (lv_at hl 6 rfl) ?_
    refine lv_iconst (v := 3) hx hb d_M_compareDigests_92 (by decide) ?_
    refine lv_icmp_ge (tgt := 154) hx hb d_M_compareDigests_93 rfl (fun hc7 => by first | exact absurd hc7 (by decide) | exact absurd (by decide) hc7) (fun hc7 => ?_)
    refine lv_iload hx hb d_M_compareDigests_96 (lv_at hl 5 rfl) ?_
    refine lv_iload hx hb d_M_compareDigests_98 (lv_at hl 6 rfl) ?_
    refine lv_iload hx hb d_M_compareDigests_100 (lv_at hl 4 rfl) ?_
    refine lv_icmp_eq (tgt := 144) hx hb d_M_compareDigests_102 rfl (fun hc8 => ?_) (fun hc8 => by first | exact absurd (rfl) hc8 | exact absurd hc8 (rfl))
    refine lv_iconst (v := 0) hx hb d_M_compareDigests_144 (by decide) ?_
    refine lv_iadd hx hb d_M_compareDigests_145 ?_
    refine lv_istore hx hb d_M_compareDigests_146 hl (by decide) rfl (fun ls hl => ?_)
    replace hl : lv_has ls 7 [(5, .int (w5 + (0 : Int32))), (0, .ref m0), (1, .int w1), (2, .int w2), (3, .int w3), (4, .int 2), (6, .int 2)] := hl
    refine lv_iinc (k := 6) (v := 3) hx hb d_M_compareDigests_148 hl rfl rfl (by decide) rfl (fun ls hl => ?_)
    replace hl : lv_has ls 7 [(6, .int 3), (5, .int (w5 + (0 : Int32))), (0, .ref m0), (1, .int w1), (2, .int w2), (3, .int w3), (4, .int 2)] := hl
    refine lv_goto (tgt := 90) hx hb d_M_compareDigests_151 rfl ?_
    have hSq : SP = s_M_compareDigests_cc2_90_3 a23 w1 w2 w3 (w5 + (0 : Int32)) := by rw [hSq0, s_M_compareDigests_cc2_90_2]; all_goals rfl
    replace hl := lv_sub hl (l' := [(0, .ref m0), (1, .int w1), (2, .int w2), (3, .int w3), (4, .int 2), (5, .int (w5 + (0 : Int32))), (6, .int 3)]) [2, 3, 4, 5, 6, 1, 0] rfl
    replace hP := hP.sub (ws' := [(m0, .inr (6, oM ga uM cn sn cm us wt oc ou ow)), (ga 8, .inl (gc 8, 24, .inl a8)), (ga 10, .inl (gc 10, 3, .inl a10)), (ga 11, .inl (gc 11, 3, .inl a11)), (ga 23, .inl (gc 23, 3, .inl a23))]) [0, 1, 2, 3, 4] rfl
    replace hD := hD.sub (ws' := [(m0, .inr (6, oM ga uM cn sn cm us wt oc ou ow)), (ga 8, .inl (gc 8, 24, .inl a8)), (ga 10, .inl (gc 10, 3, .inl a10)), (ga 11, .inl (gc 11, 3, .inl a11)), (ga 23, .inl (gc 23, 3, .inl a23))]) [0, 1, 2, 3, 4] (by decide) rfl
    exact cc2_90_3 w1 w2 w3 (w5 + (0 : Int32)) _ _ _ h19 h29 h39 htr hSq hl hP hD hS
  have cc2_90_1 : ∀ (w1 : Int32) (w2 : Int32) (w3 : Int32) (w5 : Int32) (ls : Array Slot) (H : Heap) (locs : List Loc), w1 = ts a11 a23 3 → i012 w2 → (w2 = -1 → w3 = ts a11 a23 2) → (a11 2 = 0 ∧ a23 2 = 0) → SP = s_M_compareDigests_cc2_90_1 a8 a10 a11 a23 w1 w2 w3 w5 →  lv_has ls 7 [(0, .ref m0), (1, .int w1), (2, .int w2), (3, .int w3), (4, .int 2), (5, .int w5), (6, .int 1)] → va_P (dC, dI) classes [(m0, .inr (6, oM ga uM cn sn cm us wt oc ou ow)), (ga 8, .inl (gc 8, 24, .inl a8)), (ga 10, .inl (gc 10, 3, .inl a10)), (ga 11, .inl (gc 11, 3, .inl a11)), (ga 23, .inl (gc 23, 3, .inl a23))] H → va_D A [(m0, .inr (6, oM ga uM cn sn cm us wt oc ou ow)), (ga 8, .inl (gc 8, 24, .inl a8)), (ga 10, .inl (gc 10, 3, .inl a10)), (ga 11, .inl (gc 11, 3, .inl a11)), (ga 23, .inl (gc 23, 3, .inl a23))] → va_S A s.heap H locs → W p l e (headSpec (tbw y_M_compareDigests b_M_compareDigests 7 (some .boolean)) ({ frames := 1, cells := 0, slots := 0, locals := 24 })).room s m ([.ref m0] : List Value).toArray below meth c H locs 0 0 (MQ below (va_Qi (fun (r : Int32) (u9 : (Nat → Int32)) => match u9 with | a23n => (True) ∧ (r, a23n) = SP) (fun (u9 : (Nat → Int32)) t => match u9 with | a23n => va_P (dC, dI) classes [(m0, .inr (6, oM ga uM cn sn cm us wt oc ou ow)), (ga 8, .inl (gc 8, 24, .inl a8)), (ga 10, .inl (gc 10, 3, .inl a10)), (ga 11, .inl (gc 11, 3, .inl a11)), (ga 23, .inl (gc 23, 3, .inl a23n))] t.heap ∧ va_K (dC, dI) classes [(gc 8, .int), (gc 10, .int), (gc 11, .int), (gc 23, .boolean)] t ∧ va_D A [(m0, .inr (6, oM ga uM cn sn cm us wt oc ou ow)), (ga 8, .inl (gc 8, 24, .inl a8)), (ga 10, .inl (gc 10, 3, .inl a10)), (ga 11, .inl (gc 11, 3, .inl a11)), (ga 23, .inl (gc 23, 3, .inl a23n))]) A) ([.ref m0] : List Value).toArray s 0 0 A) (F0 m 90 ls []) := by
    intro w1 w2 w3 w5 ls H locs h19 h29 h39 htr hSq0 hl hP hD hS
    clear cb55_3 cc2_90_3
    refine lv_iload hx hb d_M_compareDigests_90 (lv_at hl 6 rfl) ?_
    refine lv_iconst (v := 3) hx hb d_M_compareDigests_92 (by decide) ?_
    refine lv_icmp_ge (tgt := 154) hx hb d_M_compareDigests_93 rfl (fun hc9 => by first | exact absurd hc9 (by decide) | exact absurd (by decide) hc9) (fun hc9 => ?_)
    refine lv_iload hx hb d_M_compareDigests_96 (lv_at hl 5 rfl) ?_
    refine lv_iload hx hb d_M_compareDigests_98 (lv_at hl 6 rfl) ?_
    refine lv_iload hx hb d_M_compareDigests_100 (lv_at hl 4 rfl) ?_
    refine lv_icmp_eq (tgt := 144) hx hb d_M_compareDigests_102 rfl (fun hc10 => by first | exact absurd hc10 (by decide) | exact absurd (by decide) hc10) (fun hc10 => ?_)
    refine lv_aload_n hx hb d_M_compareDigests_105 rfl (lv_at hl 0 rfl) ?_
    refine va_get (D := (dC, dI)) (ci := 6) (v := .ref (ga 11)) (C := "VotedTripleModel") (T := F_M) (N := 37) hx hb hw in_M hown hK hP 0 rfl rfl 11 (by decide) (hw _ k_735) (fun _ h9 => h9) rfl d_M_compareDigests_106 ?_
    refine lv_iload hx hb d_M_compareDigests_109 (lv_at hl 6 rfl) ?_
    refine va_iald hx hb hK hP 3 2 rfl rfl (by unfold vp_in; decide) d_M_compareDigests_111 ?_
    refine W.eq (g2 := F0 m 112 ls [.int (a11 1), .int w5]) rfl ?_
    refine lv_if_ne (tgt := 144) hx hb d_M_compareDigests_112 rfl (fun hc11 => ?_) (fun hc11 => ?_)
    · --  ¬ (a11 1) = 0
      refine lv_iconst (v := 0) hx hb d_M_compareDigests_144 (by decide) ?_
      refine lv_iadd hx hb d_M_compareDigests_145 ?_
      refine lv_istore hx hb d_M_compareDigests_146 hl (by decide) rfl (fun ls hl => ?_)
      replace hl : lv_has ls 7 [(5, .int (w5 + (0 : Int32))), (0, .ref m0), (1, .int w1), (2, .int w2), (3, .int w3), (4, .int 2), (6, .int 1)] := hl
      refine lv_iinc (k := 6) (v := 2) hx hb d_M_compareDigests_148 hl rfl rfl (by decide) rfl (fun ls hl => ?_)
      replace hl : lv_has ls 7 [(6, .int 2), (5, .int (w5 + (0 : Int32))), (0, .ref m0), (1, .int w1), (2, .int w2), (3, .int w3), (4, .int 2)] := hl
      refine lv_goto (tgt := 90) hx hb d_M_compareDigests_151 rfl ?_
      have hSq : SP = s_M_compareDigests_cc2_90_2 a23 w1 w2 w3 (w5 + (0 : Int32)) := by rw [hSq0, s_M_compareDigests_cc2_90_1]; try (rw [if_neg hc11]); all_goals rfl
      replace hl := lv_sub hl (l' := [(0, .ref m0), (1, .int w1), (2, .int w2), (3, .int w3), (4, .int 2), (5, .int (w5 + (0 : Int32))), (6, .int 2)]) [2, 3, 4, 5, 6, 1, 0] rfl
      replace hP := hP.sub (ws' := [(m0, .inr (6, oM ga uM cn sn cm us wt oc ou ow)), (ga 8, .inl (gc 8, 24, .inl a8)), (ga 10, .inl (gc 10, 3, .inl a10)), (ga 11, .inl (gc 11, 3, .inl a11)), (ga 23, .inl (gc 23, 3, .inl a23))]) [0, 1, 2, 3, 4] rfl
      replace hD := hD.sub (ws' := [(m0, .inr (6, oM ga uM cn sn cm us wt oc ou ow)), (ga 8, .inl (gc 8, 24, .inl a8)), (ga 10, .inl (gc 10, 3, .inl a10)), (ga 11, .inl (gc 11, 3, .inl a11)), (ga 23, .inl (gc 23, 3, .inl a23))]) [0, 1, 2, 3, 4] (by decide) rfl
      exact cc2_90_2 w1 w2 w3 (w5 + (0 : Int32)) _ _ _ h19 h29 h39 htr hSq hl hP hD hS
    · --  (a11 1) = 0
      refine lv_aload_n hx hb d_M_compareDigests_115 rfl (lv_at hl 0 rfl) ?_
      refine va_get (D := (dC, dI)) (ci := 6) (v := .ref (ga 23)) (C := "VotedTripleModel") (T := F_M) (N := 37) hx hb hw in_M hown hK hP 0 rfl rfl 23 (by decide) (hw _ k_747) (fun _ h9 => h9) rfl d_M_compareDigests_116 ?_
      refine lv_iload hx hb d_M_compareDigests_119 (lv_at hl 6 rfl) ?_
      refine va_zald hx hb hK hP 4 3 rfl rfl (by unfold vp_in; decide) d_M_compareDigests_121 ?_
      refine W.eq (g2 := F0 m 122 ls [.int (a23 1), .int w5]) rfl ?_
      refine lv_if_ne (tgt := 144) hx hb d_M_compareDigests_122 rfl (fun hc12 => ?_) (fun hc12 => ?_)
      · --  ¬ (a23 1) = 0
        refine lv_iconst (v := 0) hx hb d_M_compareDigests_144 (by decide) ?_
        refine lv_iadd hx hb d_M_compareDigests_145 ?_
        refine lv_istore hx hb d_M_compareDigests_146 hl (by decide) rfl (fun ls hl => ?_)
        replace hl : lv_has ls 7 [(5, .int (w5 + (0 : Int32))), (0, .ref m0), (1, .int w1), (2, .int w2), (3, .int w3), (4, .int 2), (6, .int 1)] := hl
        refine lv_iinc (k := 6) (v := 2) hx hb d_M_compareDigests_148 hl rfl rfl (by decide) rfl (fun ls hl => ?_)
        replace hl : lv_has ls 7 [(6, .int 2), (5, .int (w5 + (0 : Int32))), (0, .ref m0), (1, .int w1), (2, .int w2), (3, .int w3), (4, .int 2)] := hl
        refine lv_goto (tgt := 90) hx hb d_M_compareDigests_151 rfl ?_
        have hSq : SP = s_M_compareDigests_cc2_90_2 a23 w1 w2 w3 (w5 + (0 : Int32)) := by rw [hSq0, s_M_compareDigests_cc2_90_1]; try (rw [if_pos hc11]); try (rw [if_neg hc12]); all_goals rfl
        replace hl := lv_sub hl (l' := [(0, .ref m0), (1, .int w1), (2, .int w2), (3, .int w3), (4, .int 2), (5, .int (w5 + (0 : Int32))), (6, .int 2)]) [2, 3, 4, 5, 6, 1, 0] rfl
        replace hP := hP.sub (ws' := [(m0, .inr (6, oM ga uM cn sn cm us wt oc ou ow)), (ga 8, .inl (gc 8, 24, .inl a8)), (ga 10, .inl (gc 10, 3, .inl a10)), (ga 11, .inl (gc 11, 3, .inl a11)), (ga 23, .inl (gc 23, 3, .inl a23))]) [0, 1, 2, 3, 4] rfl
        replace hD := hD.sub (ws' := [(m0, .inr (6, oM ga uM cn sn cm us wt oc ou ow)), (ga 8, .inl (gc 8, 24, .inl a8)), (ga 10, .inl (gc 10, 3, .inl a10)), (ga 11, .inl (gc 11, 3, .inl a11)), (ga 23, .inl (gc 23, 3, .inl a23))]) [0, 1, 2, 3, 4] (by decide) rfl
        exact cc2_90_2 w1 w2 w3 (w5 + (0 : Int32)) _ _ _ h19 h29 h39 htr hSq hl hP hD hS
      · --  (a23 1) = 0
        refine lv_aload_n hx hb d_M_compareDigests_125 rfl (lv_at hl 0 rfl) ?_
        refine lv_iload hx hb d_M_compareDigests_126 (lv_at hl 6 rfl) ?_
        replace hPc := hP.sub (ws' := [(m0, .inr (6, oM ga uM cn sn cm us wt oc ou ow)), (ga 8, .inl (gc 8, 24, .inl a8)), (ga 10, .inl (gc 10, 3, .inl a10))]) [0, 1, 2] rfl
        replace hKc := hK.sub (tys' := [(gc 8, .int), (gc 10, .int)]) [0, 1] rfl
        refine vp_callSi (va_runV (C := "VotedTripleModel") (As := [.int 1]) (rest := [.int w5]) ⟨hx, hb, hml, hown, hw⟩ (c_M_digest l dC dI m0 ga gc uM cn sn cm us wt oc ou ow a8 a10 1 1 rfl (by decide)) (cwV 1 hw (gdV (k_931) (k_928) (k_930) (ks_35) (k_8)) rfl rfl rfl (by decide +kernel) ⟨Nat.le_of_ble_eq_true rfl, Nat.le_of_ble_eq_true rfl⟩) ⟨fun a U g mk q => ⟨q.1, q.2.1, va_K.moved (u := U) (U := U.calling g mk a) (Vm.Alike.refl U.vm) q.2.2⟩, va_recv hK hP rfl (q0 := 0) rfl, fun U hU hW => ⟨rfl, by rw [hU]; exact hPc, va_K.moved hW.alike hKc⟩⟩ rfl rfl hl.1 rfl (lv_room (Nat.le_of_ble_eq_true rfl)) d_M_compareDigests_128 ⟨Nat.le_of_ble_eq_true rfl, Nat.le_of_ble_eq_true rfl⟩).run (fun r13 hr14 => ?_)
        obtain ⟨hr14, hr14E⟩ := hr14
        refine lv_aload_n hx hb d_M_compareDigests_131 rfl (lv_at hl 0 rfl) ?_
        refine lv_iload hx hb d_M_compareDigests_132 (lv_at hl 4 rfl) ?_
        replace hPc := hP.sub (ws' := [(m0, .inr (6, oM ga uM cn sn cm us wt oc ou ow)), (ga 8, .inl (gc 8, 24, .inl a8)), (ga 10, .inl (gc 10, 3, .inl a10))]) [0, 1, 2] rfl
        replace hKc := hK.sub (tys' := [(gc 8, .int), (gc 10, .int)]) [0, 1] rfl
        refine vp_callSi (va_runV (C := "VotedTripleModel") (As := [.int 2]) (rest := [.int r13, .int w5]) ⟨hx, hb, hml, hown, hw⟩ (c_M_digest l dC dI m0 ga gc uM cn sn cm us wt oc ou ow a8 a10 2 2 rfl (by decide)) (cwV 1 hw (gdV (k_931) (k_928) (k_930) (ks_35) (k_8)) rfl rfl rfl (by decide +kernel) ⟨Nat.le_of_ble_eq_true rfl, Nat.le_of_ble_eq_true rfl⟩) ⟨fun a U g mk q => ⟨q.1, q.2.1, va_K.moved (u := U) (U := U.calling g mk a) (Vm.Alike.refl U.vm) q.2.2⟩, va_recv hK hP rfl (q0 := 0) rfl, fun U hU hW => ⟨rfl, by rw [hU]; exact hPc, va_K.moved hW.alike hKc⟩⟩ rfl rfl hl.1 rfl (lv_room (Nat.le_of_ble_eq_true rfl)) d_M_compareDigests_134 ⟨Nat.le_of_ble_eq_true rfl, Nat.le_of_ble_eq_true rfl⟩).run (fun r15 hr16 => ?_)
        obtain ⟨hr16, hr16E⟩ := hr16
        refine lv_icmp_ne (tgt := 144) hx hb d_M_compareDigests_137 rfl (fun hc17 => ?_) (fun hc17 => ?_)
        · --  ¬ r13 = r15
          refine lv_iconst (v := 0) hx hb d_M_compareDigests_144 (by decide) ?_
          refine lv_iadd hx hb d_M_compareDigests_145 ?_
          refine lv_istore hx hb d_M_compareDigests_146 hl (by decide) rfl (fun ls hl => ?_)
          replace hl : lv_has ls 7 [(5, .int (w5 + (0 : Int32))), (0, .ref m0), (1, .int w1), (2, .int w2), (3, .int w3), (4, .int 2), (6, .int 1)] := hl
          refine lv_iinc (k := 6) (v := 2) hx hb d_M_compareDigests_148 hl rfl rfl (by decide) rfl (fun ls hl => ?_)
          replace hl : lv_has ls 7 [(6, .int 2), (5, .int (w5 + (0 : Int32))), (0, .ref m0), (1, .int w1), (2, .int w2), (3, .int w3), (4, .int 2)] := hl
          refine lv_goto (tgt := 90) hx hb d_M_compareDigests_151 rfl ?_
          have hSq : SP = s_M_compareDigests_cc2_90_2 a23 w1 w2 w3 (w5 + (0 : Int32)) := by rw [hSq0, s_M_compareDigests_cc2_90_1]; try (rw [if_pos hc11]); try (rw [if_pos hc12]); try (rw [← hr14E, bnd_eq]); try (rw [← hr16E, bnd_eq]); try (rw [if_neg hc17]); all_goals rfl
          replace hl := lv_sub hl (l' := [(0, .ref m0), (1, .int w1), (2, .int w2), (3, .int w3), (4, .int 2), (5, .int (w5 + (0 : Int32))), (6, .int 2)]) [2, 3, 4, 5, 6, 1, 0] rfl
          replace hP := hP.sub (ws' := [(m0, .inr (6, oM ga uM cn sn cm us wt oc ou ow)), (ga 8, .inl (gc 8, 24, .inl a8)), (ga 10, .inl (gc 10, 3, .inl a10)), (ga 11, .inl (gc 11, 3, .inl a11)), (ga 23, .inl (gc 23, 3, .inl a23))]) [0, 1, 2, 3, 4] rfl
          replace hD := hD.sub (ws' := [(m0, .inr (6, oM ga uM cn sn cm us wt oc ou ow)), (ga 8, .inl (gc 8, 24, .inl a8)), (ga 10, .inl (gc 10, 3, .inl a10)), (ga 11, .inl (gc 11, 3, .inl a11)), (ga 23, .inl (gc 23, 3, .inl a23))]) [0, 1, 2, 3, 4] (by decide) rfl
          exact cc2_90_2 w1 w2 w3 (w5 + (0 : Int32)) _ _ _ h19 h29 h39 htr hSq hl hP hD hS
        · --  r13 = r15
          refine lv_iconst (v := 1) hx hb d_M_compareDigests_140 (by decide) ?_
          refine lv_goto (tgt := 145) hx hb d_M_compareDigests_141 rfl ?_
          refine lv_iadd hx hb d_M_compareDigests_145 ?_
          refine lv_istore hx hb d_M_compareDigests_146 hl (by decide) rfl (fun ls hl => ?_)
          replace hl : lv_has ls 7 [(5, .int (w5 + (1 : Int32))), (0, .ref m0), (1, .int w1), (2, .int w2), (3, .int w3), (4, .int 2), (6, .int 1)] := hl
          refine lv_iinc (k := 6) (v := 2) hx hb d_M_compareDigests_148 hl rfl rfl (by decide) rfl (fun ls hl => ?_)
          replace hl : lv_has ls 7 [(6, .int 2), (5, .int (w5 + (1 : Int32))), (0, .ref m0), (1, .int w1), (2, .int w2), (3, .int w3), (4, .int 2)] := hl
          refine lv_goto (tgt := 90) hx hb d_M_compareDigests_151 rfl ?_
          have hSq : SP = s_M_compareDigests_cc2_90_2 a23 w1 w2 w3 (w5 + (1 : Int32)) := by rw [hSq0, s_M_compareDigests_cc2_90_1]; try (rw [if_pos hc11]); try (rw [if_pos hc12]); try (rw [← hr14E, bnd_eq]); try (rw [← hr16E, bnd_eq]); try (rw [if_pos hc17]); all_goals rfl
          replace hl := lv_sub hl (l' := [(0, .ref m0), (1, .int w1), (2, .int w2), (3, .int w3), (4, .int 2), (5, .int (w5 + (1 : Int32))), (6, .int 2)]) [2, 3, 4, 5, 6, 1, 0] rfl
          replace hP := hP.sub (ws' := [(m0, .inr (6, oM ga uM cn sn cm us wt oc ou ow)), (ga 8, .inl (gc 8, 24, .inl a8)), (ga 10, .inl (gc 10, 3, .inl a10)), (ga 11, .inl (gc 11, 3, .inl a11)), (ga 23, .inl (gc 23, 3, .inl a23))]) [0, 1, 2, 3, 4] rfl
          replace hD := hD.sub (ws' := [(m0, .inr (6, oM ga uM cn sn cm us wt oc ou ow)), (ga 8, .inl (gc 8, 24, .inl a8)), (ga 10, .inl (gc 10, 3, .inl a10)), (ga 11, .inl (gc 11, 3, .inl a11)), (ga 23, .inl (gc 23, 3, .inl a23))]) [0, 1, 2, 3, 4] (by decide) rfl
          exact cc2_90_2 w1 w2 w3 (w5 + (1 : Int32)) _ _ _ h19 h29 h39 htr hSq hl hP hD hS
  have cc2_90_0 : ∀ (w1 : Int32) (w2 : Int32) (w3 : Int32) (w5 : Int32) (ls : Array Slot) (H : Heap) (locs : List Loc), w1 = ts a11 a23 3 → i012 w2 → (w2 = -1 → w3 = ts a11 a23 2) → (a11 2 = 0 ∧ a23 2 = 0) → SP = s_M_compareDigests_cc2_90_0 a8 a10 a11 a23 w1 w2 w3 w5 →  lv_has ls 7 [(0, .ref m0), (1, .int w1), (2, .int w2), (3, .int w3), (4, .int 2), (5, .int w5), (6, .int 0)] → va_P (dC, dI) classes [(m0, .inr (6, oM ga uM cn sn cm us wt oc ou ow)), (ga 8, .inl (gc 8, 24, .inl a8)), (ga 10, .inl (gc 10, 3, .inl a10)), (ga 11, .inl (gc 11, 3, .inl a11)), (ga 23, .inl (gc 23, 3, .inl a23))] H → va_D A [(m0, .inr (6, oM ga uM cn sn cm us wt oc ou ow)), (ga 8, .inl (gc 8, 24, .inl a8)), (ga 10, .inl (gc 10, 3, .inl a10)), (ga 11, .inl (gc 11, 3, .inl a11)), (ga 23, .inl (gc 23, 3, .inl a23))] → va_S A s.heap H locs → W p l e (headSpec (tbw y_M_compareDigests b_M_compareDigests 7 (some .boolean)) ({ frames := 1, cells := 0, slots := 0, locals := 24 })).room s m ([.ref m0] : List Value).toArray below meth c H locs 0 0 (MQ below (va_Qi (fun (r : Int32) (u9 : (Nat → Int32)) => match u9 with | a23n => (True) ∧ (r, a23n) = SP) (fun (u9 : (Nat → Int32)) t => match u9 with | a23n => va_P (dC, dI) classes [(m0, .inr (6, oM ga uM cn sn cm us wt oc ou ow)), (ga 8, .inl (gc 8, 24, .inl a8)), (ga 10, .inl (gc 10, 3, .inl a10)), (ga 11, .inl (gc 11, 3, .inl a11)), (ga 23, .inl (gc 23, 3, .inl a23n))] t.heap ∧ va_K (dC, dI) classes [(gc 8, .int), (gc 10, .int), (gc 11, .int), (gc 23, .boolean)] t ∧ va_D A [(m0, .inr (6, oM ga uM cn sn cm us wt oc ou ow)), (ga 8, .inl (gc 8, 24, .inl a8)), (ga 10, .inl (gc 10, 3, .inl a10)), (ga 11, .inl (gc 11, 3, .inl a11)), (ga 23, .inl (gc 23, 3, .inl a23n))]) A) ([.ref m0] : List Value).toArray s 0 0 A) (F0 m 90 ls []) := by
    intro w1 w2 w3 w5 ls H locs h19 h29 h39 htr hSq0 hl hP hD hS
    clear cb55_3 cc2_90_3 cc2_90_2
    refine lv_iload hx hb d_M_compareDigests_90 (lv_at hl 6 rfl) ?_
    refine lv_iconst (v := 3) hx hb d_M_compareDigests_92 (by decide) ?_
    refine lv_icmp_ge (tgt := 154) hx hb d_M_compareDigests_93 rfl (fun hc18 => by first | exact absurd hc18 (by decide) | exact absurd (by decide) hc18) (fun hc18 => ?_)
    refine lv_iload hx hb d_M_compareDigests_96 (lv_at hl 5 rfl) ?_
    refine lv_iload hx hb d_M_compareDigests_98 (lv_at hl 6 rfl) ?_
    refine lv_iload hx hb d_M_compareDigests_100 (lv_at hl 4 rfl) ?_
    refine lv_icmp_eq (tgt := 144) hx hb d_M_compareDigests_102 rfl (fun hc19 => by first | exact absurd hc19 (by decide) | exact absurd (by decide) hc19) (fun hc19 => ?_)
    refine lv_aload_n hx hb d_M_compareDigests_105 rfl (lv_at hl 0 rfl) ?_
    refine va_get (D := (dC, dI)) (ci := 6) (v := .ref (ga 11)) (C := "VotedTripleModel") (T := F_M) (N := 37) hx hb hw in_M hown hK hP 0 rfl rfl 11 (by decide) (hw _ k_735) (fun _ h9 => h9) rfl d_M_compareDigests_106 ?_
    refine lv_iload hx hb d_M_compareDigests_109 (lv_at hl 6 rfl) ?_
    refine va_iald hx hb hK hP 3 2 rfl rfl (by unfold vp_in; decide) d_M_compareDigests_111 ?_
    refine W.eq (g2 := F0 m 112 ls [.int (a11 0), .int w5]) rfl ?_
    refine lv_if_ne (tgt := 144) hx hb d_M_compareDigests_112 rfl (fun hc20 => ?_) (fun hc20 => ?_)
    · --  ¬ (a11 0) = 0
      refine lv_iconst (v := 0) hx hb d_M_compareDigests_144 (by decide) ?_
      refine lv_iadd hx hb d_M_compareDigests_145 ?_
      refine lv_istore hx hb d_M_compareDigests_146 hl (by decide) rfl (fun ls hl => ?_)
      replace hl : lv_has ls 7 [(5, .int (w5 + (0 : Int32))), (0, .ref m0), (1, .int w1), (2, .int w2), (3, .int w3), (4, .int 2), (6, .int 0)] := hl
      refine lv_iinc (k := 6) (v := 1) hx hb d_M_compareDigests_148 hl rfl rfl (by decide) rfl (fun ls hl => ?_)
      replace hl : lv_has ls 7 [(6, .int 1), (5, .int (w5 + (0 : Int32))), (0, .ref m0), (1, .int w1), (2, .int w2), (3, .int w3), (4, .int 2)] := hl
      refine lv_goto (tgt := 90) hx hb d_M_compareDigests_151 rfl ?_
      have hSq : SP = s_M_compareDigests_cc2_90_1 a8 a10 a11 a23 w1 w2 w3 (w5 + (0 : Int32)) := by rw [hSq0, s_M_compareDigests_cc2_90_0]; try (rw [if_neg hc20]); all_goals rfl
      replace hl := lv_sub hl (l' := [(0, .ref m0), (1, .int w1), (2, .int w2), (3, .int w3), (4, .int 2), (5, .int (w5 + (0 : Int32))), (6, .int 1)]) [2, 3, 4, 5, 6, 1, 0] rfl
      replace hP := hP.sub (ws' := [(m0, .inr (6, oM ga uM cn sn cm us wt oc ou ow)), (ga 8, .inl (gc 8, 24, .inl a8)), (ga 10, .inl (gc 10, 3, .inl a10)), (ga 11, .inl (gc 11, 3, .inl a11)), (ga 23, .inl (gc 23, 3, .inl a23))]) [0, 1, 2, 3, 4] rfl
      replace hD := hD.sub (ws' := [(m0, .inr (6, oM ga uM cn sn cm us wt oc ou ow)), (ga 8, .inl (gc 8, 24, .inl a8)), (ga 10, .inl (gc 10, 3, .inl a10)), (ga 11, .inl (gc 11, 3, .inl a11)), (ga 23, .inl (gc 23, 3, .inl a23))]) [0, 1, 2, 3, 4] (by decide) rfl
      exact cc2_90_1 w1 w2 w3 (w5 + (0 : Int32)) _ _ _ h19 h29 h39 htr hSq hl hP hD hS
    · --  (a11 0) = 0
      refine lv_aload_n hx hb d_M_compareDigests_115 rfl (lv_at hl 0 rfl) ?_
      refine va_get (D := (dC, dI)) (ci := 6) (v := .ref (ga 23)) (C := "VotedTripleModel") (T := F_M) (N := 37) hx hb hw in_M hown hK hP 0 rfl rfl 23 (by decide) (hw _ k_747) (fun _ h9 => h9) rfl d_M_compareDigests_116 ?_
      refine lv_iload hx hb d_M_compareDigests_119 (lv_at hl 6 rfl) ?_
      refine va_zald hx hb hK hP 4 3 rfl rfl (by unfold vp_in; decide) d_M_compareDigests_121 ?_
      refine W.eq (g2 := F0 m 122 ls [.int (a23 0), .int w5]) rfl ?_
      refine lv_if_ne (tgt := 144) hx hb d_M_compareDigests_122 rfl (fun hc21 => ?_) (fun hc21 => ?_)
      · --  ¬ (a23 0) = 0
        refine lv_iconst (v := 0) hx hb d_M_compareDigests_144 (by decide) ?_
        refine lv_iadd hx hb d_M_compareDigests_145 ?_
        refine lv_istore hx hb d_M_compareDigests_146 hl (by decide) rfl (fun ls hl => ?_)
        replace hl : lv_has ls 7 [(5, .int (w5 + (0 : Int32))), (0, .ref m0), (1, .int w1), (2, .int w2), (3, .int w3), (4, .int 2), (6, .int 0)] := hl
        refine lv_iinc (k := 6) (v := 1) hx hb d_M_compareDigests_148 hl rfl rfl (by decide) rfl (fun ls hl => ?_)
        replace hl : lv_has ls 7 [(6, .int 1), (5, .int (w5 + (0 : Int32))), (0, .ref m0), (1, .int w1), (2, .int w2), (3, .int w3), (4, .int 2)] := hl
        refine lv_goto (tgt := 90) hx hb d_M_compareDigests_151 rfl ?_
        have hSq : SP = s_M_compareDigests_cc2_90_1 a8 a10 a11 a23 w1 w2 w3 (w5 + (0 : Int32)) := by rw [hSq0, s_M_compareDigests_cc2_90_0]; try (rw [if_pos hc20]); try (rw [if_neg hc21]); all_goals rfl
        replace hl := lv_sub hl (l' := [(0, .ref m0), (1, .int w1), (2, .int w2), (3, .int w3), (4, .int 2), (5, .int (w5 + (0 : Int32))), (6, .int 1)]) [2, 3, 4, 5, 6, 1, 0] rfl
        replace hP := hP.sub (ws' := [(m0, .inr (6, oM ga uM cn sn cm us wt oc ou ow)), (ga 8, .inl (gc 8, 24, .inl a8)), (ga 10, .inl (gc 10, 3, .inl a10)), (ga 11, .inl (gc 11, 3, .inl a11)), (ga 23, .inl (gc 23, 3, .inl a23))]) [0, 1, 2, 3, 4] rfl
        replace hD := hD.sub (ws' := [(m0, .inr (6, oM ga uM cn sn cm us wt oc ou ow)), (ga 8, .inl (gc 8, 24, .inl a8)), (ga 10, .inl (gc 10, 3, .inl a10)), (ga 11, .inl (gc 11, 3, .inl a11)), (ga 23, .inl (gc 23, 3, .inl a23))]) [0, 1, 2, 3, 4] (by decide) rfl
        exact cc2_90_1 w1 w2 w3 (w5 + (0 : Int32)) _ _ _ h19 h29 h39 htr hSq hl hP hD hS
      · --  (a23 0) = 0
        refine lv_aload_n hx hb d_M_compareDigests_125 rfl (lv_at hl 0 rfl) ?_
        refine lv_iload hx hb d_M_compareDigests_126 (lv_at hl 6 rfl) ?_
        replace hPc := hP.sub (ws' := [(m0, .inr (6, oM ga uM cn sn cm us wt oc ou ow)), (ga 8, .inl (gc 8, 24, .inl a8)), (ga 10, .inl (gc 10, 3, .inl a10))]) [0, 1, 2] rfl
        replace hKc := hK.sub (tys' := [(gc 8, .int), (gc 10, .int)]) [0, 1] rfl
        refine vp_callSi (va_runV (C := "VotedTripleModel") (As := [.int 0]) (rest := [.int w5]) ⟨hx, hb, hml, hown, hw⟩ (c_M_digest l dC dI m0 ga gc uM cn sn cm us wt oc ou ow a8 a10 0 0 rfl (by decide)) (cwV 1 hw (gdV (k_931) (k_928) (k_930) (ks_35) (k_8)) rfl rfl rfl (by decide +kernel) ⟨Nat.le_of_ble_eq_true rfl, Nat.le_of_ble_eq_true rfl⟩) ⟨fun a U g mk q => ⟨q.1, q.2.1, va_K.moved (u := U) (U := U.calling g mk a) (Vm.Alike.refl U.vm) q.2.2⟩, va_recv hK hP rfl (q0 := 0) rfl, fun U hU hW => ⟨rfl, by rw [hU]; exact hPc, va_K.moved hW.alike hKc⟩⟩ rfl rfl hl.1 rfl (lv_room (Nat.le_of_ble_eq_true rfl)) d_M_compareDigests_128 ⟨Nat.le_of_ble_eq_true rfl, Nat.le_of_ble_eq_true rfl⟩).run (fun r22 hr23 => ?_)
        obtain ⟨hr23, hr23E⟩ := hr23
        refine lv_aload_n hx hb d_M_compareDigests_131 rfl (lv_at hl 0 rfl) ?_
        refine lv_iload hx hb d_M_compareDigests_132 (lv_at hl 4 rfl) ?_
        replace hPc := hP.sub (ws' := [(m0, .inr (6, oM ga uM cn sn cm us wt oc ou ow)), (ga 8, .inl (gc 8, 24, .inl a8)), (ga 10, .inl (gc 10, 3, .inl a10))]) [0, 1, 2] rfl
        replace hKc := hK.sub (tys' := [(gc 8, .int), (gc 10, .int)]) [0, 1] rfl
        refine vp_callSi (va_runV (C := "VotedTripleModel") (As := [.int 2]) (rest := [.int r22, .int w5]) ⟨hx, hb, hml, hown, hw⟩ (c_M_digest l dC dI m0 ga gc uM cn sn cm us wt oc ou ow a8 a10 2 2 rfl (by decide)) (cwV 1 hw (gdV (k_931) (k_928) (k_930) (ks_35) (k_8)) rfl rfl rfl (by decide +kernel) ⟨Nat.le_of_ble_eq_true rfl, Nat.le_of_ble_eq_true rfl⟩) ⟨fun a U g mk q => ⟨q.1, q.2.1, va_K.moved (u := U) (U := U.calling g mk a) (Vm.Alike.refl U.vm) q.2.2⟩, va_recv hK hP rfl (q0 := 0) rfl, fun U hU hW => ⟨rfl, by rw [hU]; exact hPc, va_K.moved hW.alike hKc⟩⟩ rfl rfl hl.1 rfl (lv_room (Nat.le_of_ble_eq_true rfl)) d_M_compareDigests_134 ⟨Nat.le_of_ble_eq_true rfl, Nat.le_of_ble_eq_true rfl⟩).run (fun r24 hr25 => ?_)
        obtain ⟨hr25, hr25E⟩ := hr25
        refine lv_icmp_ne (tgt := 144) hx hb d_M_compareDigests_137 rfl (fun hc26 => ?_) (fun hc26 => ?_)
        · --  ¬ r22 = r24
          refine lv_iconst (v := 0) hx hb d_M_compareDigests_144 (by decide) ?_
          refine lv_iadd hx hb d_M_compareDigests_145 ?_
          refine lv_istore hx hb d_M_compareDigests_146 hl (by decide) rfl (fun ls hl => ?_)
          replace hl : lv_has ls 7 [(5, .int (w5 + (0 : Int32))), (0, .ref m0), (1, .int w1), (2, .int w2), (3, .int w3), (4, .int 2), (6, .int 0)] := hl
          refine lv_iinc (k := 6) (v := 1) hx hb d_M_compareDigests_148 hl rfl rfl (by decide) rfl (fun ls hl => ?_)
          replace hl : lv_has ls 7 [(6, .int 1), (5, .int (w5 + (0 : Int32))), (0, .ref m0), (1, .int w1), (2, .int w2), (3, .int w3), (4, .int 2)] := hl
          refine lv_goto (tgt := 90) hx hb d_M_compareDigests_151 rfl ?_
          have hSq : SP = s_M_compareDigests_cc2_90_1 a8 a10 a11 a23 w1 w2 w3 (w5 + (0 : Int32)) := by rw [hSq0, s_M_compareDigests_cc2_90_0]; try (rw [if_pos hc20]); try (rw [if_pos hc21]); try (rw [← hr23E, bnd_eq]); try (rw [← hr25E, bnd_eq]); try (rw [if_neg hc26]); all_goals rfl
          replace hl := lv_sub hl (l' := [(0, .ref m0), (1, .int w1), (2, .int w2), (3, .int w3), (4, .int 2), (5, .int (w5 + (0 : Int32))), (6, .int 1)]) [2, 3, 4, 5, 6, 1, 0] rfl
          replace hP := hP.sub (ws' := [(m0, .inr (6, oM ga uM cn sn cm us wt oc ou ow)), (ga 8, .inl (gc 8, 24, .inl a8)), (ga 10, .inl (gc 10, 3, .inl a10)), (ga 11, .inl (gc 11, 3, .inl a11)), (ga 23, .inl (gc 23, 3, .inl a23))]) [0, 1, 2, 3, 4] rfl
          replace hD := hD.sub (ws' := [(m0, .inr (6, oM ga uM cn sn cm us wt oc ou ow)), (ga 8, .inl (gc 8, 24, .inl a8)), (ga 10, .inl (gc 10, 3, .inl a10)), (ga 11, .inl (gc 11, 3, .inl a11)), (ga 23, .inl (gc 23, 3, .inl a23))]) [0, 1, 2, 3, 4] (by decide) rfl
          exact cc2_90_1 w1 w2 w3 (w5 + (0 : Int32)) _ _ _ h19 h29 h39 htr hSq hl hP hD hS
        · --  r22 = r24
          refine lv_iconst (v := 1) hx hb d_M_compareDigests_140 (by decide) ?_
          refine lv_goto (tgt := 145) hx hb d_M_compareDigests_141 rfl ?_
          refine lv_iadd hx hb d_M_compareDigests_145 ?_
          refine lv_istore hx hb d_M_compareDigests_146 hl (by decide) rfl (fun ls hl => ?_)
          replace hl : lv_has ls 7 [(5, .int (w5 + (1 : Int32))), (0, .ref m0), (1, .int w1), (2, .int w2), (3, .int w3), (4, .int 2), (6, .int 0)] := hl
          refine lv_iinc (k := 6) (v := 1) hx hb d_M_compareDigests_148 hl rfl rfl (by decide) rfl (fun ls hl => ?_)
          replace hl : lv_has ls 7 [(6, .int 1), (5, .int (w5 + (1 : Int32))), (0, .ref m0), (1, .int w1), (2, .int w2), (3, .int w3), (4, .int 2)] := hl
          refine lv_goto (tgt := 90) hx hb d_M_compareDigests_151 rfl ?_
          have hSq : SP = s_M_compareDigests_cc2_90_1 a8 a10 a11 a23 w1 w2 w3 (w5 + (1 : Int32)) := by rw [hSq0, s_M_compareDigests_cc2_90_0]; try (rw [if_pos hc20]); try (rw [if_pos hc21]); try (rw [← hr23E, bnd_eq]); try (rw [← hr25E, bnd_eq]); try (rw [if_pos hc26]); all_goals rfl
          replace hl := lv_sub hl (l' := [(0, .ref m0), (1, .int w1), (2, .int w2), (3, .int w3), (4, .int 2), (5, .int (w5 + (1 : Int32))), (6, .int 1)]) [2, 3, 4, 5, 6, 1, 0] rfl
          replace hP := hP.sub (ws' := [(m0, .inr (6, oM ga uM cn sn cm us wt oc ou ow)), (ga 8, .inl (gc 8, 24, .inl a8)), (ga 10, .inl (gc 10, 3, .inl a10)), (ga 11, .inl (gc 11, 3, .inl a11)), (ga 23, .inl (gc 23, 3, .inl a23))]) [0, 1, 2, 3, 4] rfl
          replace hD := hD.sub (ws' := [(m0, .inr (6, oM ga uM cn sn cm us wt oc ou ow)), (ga 8, .inl (gc 8, 24, .inl a8)), (ga 10, .inl (gc 10, 3, .inl a10)), (ga 11, .inl (gc 11, 3, .inl a11)), (ga 23, .inl (gc 23, 3, .inl a23))]) [0, 1, 2, 3, 4] (by decide) rfl
          exact cc2_90_1 w1 w2 w3 (w5 + (1 : Int32)) _ _ _ h19 h29 h39 htr hSq hl hP hD hS
  have cb55_2 : ∀ (w1 : Int32) (w2 : Int32) (w3 : Int32) (ls : Array Slot) (H : Heap) (locs : List Loc), w1 = ts a11 a23 3 → i012 w2 → (w2 = -1 → w3 = ts a11 a23 2) → SP = s_M_compareDigests_cb55_2 a8 a10 a11 a23 w1 w2 w3 →  lv_has ls 7 [(0, .ref m0), (1, .int w1), (2, .int w2), (3, .int w3), (4, .int 2)] → va_P (dC, dI) classes [(m0, .inr (6, oM ga uM cn sn cm us wt oc ou ow)), (ga 8, .inl (gc 8, 24, .inl a8)), (ga 10, .inl (gc 10, 3, .inl a10)), (ga 11, .inl (gc 11, 3, .inl a11)), (ga 23, .inl (gc 23, 3, .inl a23))] H → va_D A [(m0, .inr (6, oM ga uM cn sn cm us wt oc ou ow)), (ga 8, .inl (gc 8, 24, .inl a8)), (ga 10, .inl (gc 10, 3, .inl a10)), (ga 11, .inl (gc 11, 3, .inl a11)), (ga 23, .inl (gc 23, 3, .inl a23))] → va_S A s.heap H locs → W p l e (headSpec (tbw y_M_compareDigests b_M_compareDigests 7 (some .boolean)) ({ frames := 1, cells := 0, slots := 0, locals := 24 })).room s m ([.ref m0] : List Value).toArray below meth c H locs 0 0 (MQ below (va_Qi (fun (r : Int32) (u9 : (Nat → Int32)) => match u9 with | a23n => (True) ∧ (r, a23n) = SP) (fun (u9 : (Nat → Int32)) t => match u9 with | a23n => va_P (dC, dI) classes [(m0, .inr (6, oM ga uM cn sn cm us wt oc ou ow)), (ga 8, .inl (gc 8, 24, .inl a8)), (ga 10, .inl (gc 10, 3, .inl a10)), (ga 11, .inl (gc 11, 3, .inl a11)), (ga 23, .inl (gc 23, 3, .inl a23n))] t.heap ∧ va_K (dC, dI) classes [(gc 8, .int), (gc 10, .int), (gc 11, .int), (gc 23, .boolean)] t ∧ va_D A [(m0, .inr (6, oM ga uM cn sn cm us wt oc ou ow)), (ga 8, .inl (gc 8, 24, .inl a8)), (ga 10, .inl (gc 10, 3, .inl a10)), (ga 11, .inl (gc 11, 3, .inl a11)), (ga 23, .inl (gc 23, 3, .inl a23n))]) A) ([.ref m0] : List Value).toArray s 0 0 A) (F0 m 55 ls []) := by
    intro w1 w2 w3 ls H locs h19 h29 h39 hSq0 hl hP hD hS
    clear cc2_90_3 cc2_90_2 cc2_90_1
    refine lv_iload hx hb d_M_compareDigests_55 (lv_at hl 4 rfl) ?_
    refine lv_iconst (v := 3) hx hb d_M_compareDigests_57 (by decide) ?_
    refine lv_icmp_ge (tgt := 174) hx hb d_M_compareDigests_58 rfl (fun hc27 => by first | exact absurd hc27 (by decide) | exact absurd (by decide) hc27) (fun hc27 => ?_)
    refine lv_aload_n hx hb d_M_compareDigests_61 rfl (lv_at hl 0 rfl) ?_
    refine va_get (D := (dC, dI)) (ci := 6) (v := .ref (ga 11)) (C := "VotedTripleModel") (T := F_M) (N := 37) hx hb hw in_M hown hK hP 0 rfl rfl 11 (by decide) (hw _ k_735) (fun _ h9 => h9) rfl d_M_compareDigests_62 ?_
    refine lv_iload hx hb d_M_compareDigests_65 (lv_at hl 4 rfl) ?_
    refine va_iald hx hb hK hP 3 2 rfl rfl (by unfold vp_in; decide) d_M_compareDigests_67 ?_
    refine W.eq (g2 := F0 m 68 ls [.int (a11 2)]) rfl ?_
    refine lv_if_ne (tgt := 168) hx hb d_M_compareDigests_68 rfl (fun hc28 => ?_) (fun hc28 => ?_)
    · --  ¬ (a11 2) = 0
      refine lv_iinc (k := 4) (v := 3) hx hb d_M_compareDigests_168 hl rfl rfl (by decide) rfl (fun ls hl => ?_)
      replace hl : lv_has ls 7 [(4, .int 3), (0, .ref m0), (1, .int w1), (2, .int w2), (3, .int w3)] := hl
      refine lv_goto (tgt := 55) hx hb d_M_compareDigests_171 rfl ?_
      have hSq : SP = s_M_compareDigests_cb55_3 a23 w1 w2 w3 := by rw [hSq0, s_M_compareDigests_cb55_2]; try (rw [if_neg hc28]); all_goals rfl
      replace hl := lv_sub hl (l' := [(0, .ref m0), (1, .int w1), (2, .int w2), (3, .int w3), (4, .int 3)]) [1, 2, 3, 4, 0] rfl
      replace hP := hP.sub (ws' := [(m0, .inr (6, oM ga uM cn sn cm us wt oc ou ow)), (ga 8, .inl (gc 8, 24, .inl a8)), (ga 10, .inl (gc 10, 3, .inl a10)), (ga 11, .inl (gc 11, 3, .inl a11)), (ga 23, .inl (gc 23, 3, .inl a23))]) [0, 1, 2, 3, 4] rfl
      replace hD := hD.sub (ws' := [(m0, .inr (6, oM ga uM cn sn cm us wt oc ou ow)), (ga 8, .inl (gc 8, 24, .inl a8)), (ga 10, .inl (gc 10, 3, .inl a10)), (ga 11, .inl (gc 11, 3, .inl a11)), (ga 23, .inl (gc 23, 3, .inl a23))]) [0, 1, 2, 3, 4] (by decide) rfl
      exact cb55_3 w1 w2 w3 _ _ _ h19 h29 (fun q => ts_0' (h39 q) (fun q => hc28 q.1)) hSq hl hP hD hS
    · --  (a11 2) = 0
      refine lv_aload_n hx hb d_M_compareDigests_71 rfl (lv_at hl 0 rfl) ?_
      refine va_get (D := (dC, dI)) (ci := 6) (v := .ref (ga 23)) (C := "VotedTripleModel") (T := F_M) (N := 37) hx hb hw in_M hown hK hP 0 rfl rfl 23 (by decide) (hw _ k_747) (fun _ h9 => h9) rfl d_M_compareDigests_72 ?_
      refine lv_iload hx hb d_M_compareDigests_75 (lv_at hl 4 rfl) ?_
      refine va_zald hx hb hK hP 4 3 rfl rfl (by unfold vp_in; decide) d_M_compareDigests_77 ?_
      refine W.eq (g2 := F0 m 78 ls [.int (a23 2)]) rfl ?_
      refine lv_if_eq (tgt := 84) hx hb d_M_compareDigests_78 rfl (fun hc29 => ?_) (fun hc29 => ?_)
      · --  (a23 2) = 0
        refine lv_iconst (v := 0) hx hb d_M_compareDigests_84 (by decide) ?_
        refine lv_istore hx hb d_M_compareDigests_85 hl (by decide) rfl (fun ls hl => ?_)
        replace hl : lv_has ls 7 [(5, .int 0), (0, .ref m0), (1, .int w1), (2, .int w2), (3, .int w3), (4, .int 2)] := hl
        refine lv_iconst (v := 0) hx hb d_M_compareDigests_87 (by decide) ?_
        refine lv_istore hx hb d_M_compareDigests_88 hl (by decide) rfl (fun ls hl => ?_)
        replace hl : lv_has ls 7 [(6, .int 0), (5, .int 0), (0, .ref m0), (1, .int w1), (2, .int w2), (3, .int w3), (4, .int 2)] := hl
        have hSq : SP = s_M_compareDigests_cc2_90_0 a8 a10 a11 a23 w1 w2 w3 0 := by rw [hSq0, s_M_compareDigests_cb55_2]; try (rw [if_pos hc28]); try (rw [if_pos hc29]); all_goals rfl
        replace hl := lv_sub hl (l' := [(0, .ref m0), (1, .int w1), (2, .int w2), (3, .int w3), (4, .int 2), (5, .int 0), (6, .int 0)]) [2, 3, 4, 5, 6, 1, 0] rfl
        replace hP := hP.sub (ws' := [(m0, .inr (6, oM ga uM cn sn cm us wt oc ou ow)), (ga 8, .inl (gc 8, 24, .inl a8)), (ga 10, .inl (gc 10, 3, .inl a10)), (ga 11, .inl (gc 11, 3, .inl a11)), (ga 23, .inl (gc 23, 3, .inl a23))]) [0, 1, 2, 3, 4] rfl
        replace hD := hD.sub (ws' := [(m0, .inr (6, oM ga uM cn sn cm us wt oc ou ow)), (ga 8, .inl (gc 8, 24, .inl a8)), (ga 10, .inl (gc 10, 3, .inl a10)), (ga 11, .inl (gc 11, 3, .inl a11)), (ga 23, .inl (gc 23, 3, .inl a23))]) [0, 1, 2, 3, 4] (by decide) rfl
        exact cc2_90_0 w1 w2 w3 0 _ _ _ h19 h29 h39 (⟨hc28, hc29⟩) hSq hl hP hD hS
      · --  ¬ (a23 2) = 0
        refine lv_goto (tgt := 168) hx hb d_M_compareDigests_81 rfl ?_
        refine lv_iinc (k := 4) (v := 3) hx hb d_M_compareDigests_168 hl rfl rfl (by decide) rfl (fun ls hl => ?_)
        replace hl : lv_has ls 7 [(4, .int 3), (0, .ref m0), (1, .int w1), (2, .int w2), (3, .int w3)] := hl
        refine lv_goto (tgt := 55) hx hb d_M_compareDigests_171 rfl ?_
        have hSq : SP = s_M_compareDigests_cb55_3 a23 w1 w2 w3 := by rw [hSq0, s_M_compareDigests_cb55_2]; try (rw [if_pos hc28]); try (rw [if_neg hc29]); all_goals rfl
        replace hl := lv_sub hl (l' := [(0, .ref m0), (1, .int w1), (2, .int w2), (3, .int w3), (4, .int 3)]) [1, 2, 3, 4, 0] rfl
        replace hP := hP.sub (ws' := [(m0, .inr (6, oM ga uM cn sn cm us wt oc ou ow)), (ga 8, .inl (gc 8, 24, .inl a8)), (ga 10, .inl (gc 10, 3, .inl a10)), (ga 11, .inl (gc 11, 3, .inl a11)), (ga 23, .inl (gc 23, 3, .inl a23))]) [0, 1, 2, 3, 4] rfl
        replace hD := hD.sub (ws' := [(m0, .inr (6, oM ga uM cn sn cm us wt oc ou ow)), (ga 8, .inl (gc 8, 24, .inl a8)), (ga 10, .inl (gc 10, 3, .inl a10)), (ga 11, .inl (gc 11, 3, .inl a11)), (ga 23, .inl (gc 23, 3, .inl a23))]) [0, 1, 2, 3, 4] (by decide) rfl
        exact cb55_3 w1 w2 w3 _ _ _ h19 h29 (fun q => ts_0' (h39 q) (fun q => hc29 q.2)) hSq hl hP hD hS
  have cc1_90_3 : ∀ (w1 : Int32) (w2 : Int32) (w3 : Int32) (w5 : Int32) (ls : Array Slot) (H : Heap) (locs : List Loc), w1 = ts a11 a23 3 → i012 w2 → (w2 = -1 → w3 = ts a11 a23 1) → (a11 1 = 0 ∧ a23 1 = 0) → SP = s_M_compareDigests_cc1_90_3 a8 a10 a11 a23 w1 w2 w3 w5 →  lv_has ls 7 [(0, .ref m0), (1, .int w1), (2, .int w2), (3, .int w3), (4, .int 1), (5, .int w5), (6, .int 3)] → va_P (dC, dI) classes [(m0, .inr (6, oM ga uM cn sn cm us wt oc ou ow)), (ga 8, .inl (gc 8, 24, .inl a8)), (ga 10, .inl (gc 10, 3, .inl a10)), (ga 11, .inl (gc 11, 3, .inl a11)), (ga 23, .inl (gc 23, 3, .inl a23))] H → va_D A [(m0, .inr (6, oM ga uM cn sn cm us wt oc ou ow)), (ga 8, .inl (gc 8, 24, .inl a8)), (ga 10, .inl (gc 10, 3, .inl a10)), (ga 11, .inl (gc 11, 3, .inl a11)), (ga 23, .inl (gc 23, 3, .inl a23))] → va_S A s.heap H locs → W p l e (headSpec (tbw y_M_compareDigests b_M_compareDigests 7 (some .boolean)) ({ frames := 1, cells := 0, slots := 0, locals := 24 })).room s m ([.ref m0] : List Value).toArray below meth c H locs 0 0 (MQ below (va_Qi (fun (r : Int32) (u9 : (Nat → Int32)) => match u9 with | a23n => (True) ∧ (r, a23n) = SP) (fun (u9 : (Nat → Int32)) t => match u9 with | a23n => va_P (dC, dI) classes [(m0, .inr (6, oM ga uM cn sn cm us wt oc ou ow)), (ga 8, .inl (gc 8, 24, .inl a8)), (ga 10, .inl (gc 10, 3, .inl a10)), (ga 11, .inl (gc 11, 3, .inl a11)), (ga 23, .inl (gc 23, 3, .inl a23n))] t.heap ∧ va_K (dC, dI) classes [(gc 8, .int), (gc 10, .int), (gc 11, .int), (gc 23, .boolean)] t ∧ va_D A [(m0, .inr (6, oM ga uM cn sn cm us wt oc ou ow)), (ga 8, .inl (gc 8, 24, .inl a8)), (ga 10, .inl (gc 10, 3, .inl a10)), (ga 11, .inl (gc 11, 3, .inl a11)), (ga 23, .inl (gc 23, 3, .inl a23n))]) A) ([.ref m0] : List Value).toArray s 0 0 A) (F0 m 90 ls []) := by
    intro w1 w2 w3 w5 ls H locs h19 h29 h39 htr hSq0 hl hP hD hS
    clear cb55_3 cc2_90_3 cc2_90_2 cc2_90_1 cc2_90_0
    refine lv_iload hx hb d_M_compareDigests_90 (lv_at hl 6 rfl) ?_
    refine lv_iconst (v := 3) hx hb d_M_compareDigests_92 (by decide) ?_
    refine lv_icmp_ge (tgt := 154) hx hb d_M_compareDigests_93 rfl (fun hc30 => ?_) (fun hc30 => by first | exact absurd (by decide) hc30 | exact absurd hc30 (by decide))
    refine lv_iload hx hb d_M_compareDigests_154 (lv_at hl 5 rfl) ?_
    refine lv_if_ne (tgt := 165) hx hb d_M_compareDigests_156 rfl (fun hc31 => ?_) (fun hc31 => ?_)
    · --  ¬ w5 = 0
      refine lv_iinc (k := 3) (v := w3 + 1) hx hb d_M_compareDigests_165 hl rfl rfl (by decide) rfl (fun ls hl => ?_)
      replace hl : lv_has ls 7 [(3, .int (w3 + 1)), (0, .ref m0), (1, .int w1), (2, .int w2), (4, .int 1), (5, .int w5), (6, .int 3)] := hl
      refine lv_iinc (k := 4) (v := 2) hx hb d_M_compareDigests_168 hl rfl rfl (by decide) rfl (fun ls hl => ?_)
      replace hl : lv_has ls 7 [(4, .int 2), (3, .int (w3 + 1)), (0, .ref m0), (1, .int w1), (2, .int w2), (5, .int w5), (6, .int 3)] := hl
      refine lv_goto (tgt := 55) hx hb d_M_compareDigests_171 rfl ?_
      have hSq : SP = s_M_compareDigests_cb55_2 a8 a10 a11 a23 w1 w2 (w3 + 1) := by rw [hSq0, s_M_compareDigests_cc1_90_3]; try (rw [if_neg hc31]); all_goals rfl
      replace hl := lv_sub hl (l' := [(0, .ref m0), (1, .int w1), (2, .int w2), (3, .int (w3 + 1)), (4, .int 2)]) [2, 3, 4, 1, 0] rfl
      replace hP := hP.sub (ws' := [(m0, .inr (6, oM ga uM cn sn cm us wt oc ou ow)), (ga 8, .inl (gc 8, 24, .inl a8)), (ga 10, .inl (gc 10, 3, .inl a10)), (ga 11, .inl (gc 11, 3, .inl a11)), (ga 23, .inl (gc 23, 3, .inl a23))]) [0, 1, 2, 3, 4] rfl
      replace hD := hD.sub (ws' := [(m0, .inr (6, oM ga uM cn sn cm us wt oc ou ow)), (ga 8, .inl (gc 8, 24, .inl a8)), (ga 10, .inl (gc 10, 3, .inl a10)), (ga 11, .inl (gc 11, 3, .inl a11)), (ga 23, .inl (gc 23, 3, .inl a23))]) [0, 1, 2, 3, 4] (by decide) rfl
      exact cb55_2 w1 w2 (w3 + 1) _ _ _ h19 h29 (fun q => ts_1 (h39 q) htr) hSq hl hP hD hS
    · --  w5 = 0
      refine lv_iload hx hb d_M_compareDigests_159 (lv_at hl 4 rfl) ?_
      refine lv_istore_n hx hb d_M_compareDigests_161 rfl hl (by decide) rfl (fun ls hl => ?_)
      replace hl : lv_has ls 7 [(2, .int 1), (0, .ref m0), (1, .int w1), (3, .int w3), (4, .int 1), (5, .int w5), (6, .int 3)] := hl
      refine lv_goto (tgt := 168) hx hb d_M_compareDigests_162 rfl ?_
      refine lv_iinc (k := 4) (v := 2) hx hb d_M_compareDigests_168 hl rfl rfl (by decide) rfl (fun ls hl => ?_)
      replace hl : lv_has ls 7 [(4, .int 2), (2, .int 1), (0, .ref m0), (1, .int w1), (3, .int w3), (5, .int w5), (6, .int 3)] := hl
      refine lv_goto (tgt := 55) hx hb d_M_compareDigests_171 rfl ?_
      have hSq : SP = s_M_compareDigests_cb55_2 a8 a10 a11 a23 w1 1 w3 := by rw [hSq0, s_M_compareDigests_cc1_90_3]; try (rw [if_pos hc31]); all_goals rfl
      replace hl := lv_sub hl (l' := [(0, .ref m0), (1, .int w1), (2, .int 1), (3, .int w3), (4, .int 2)]) [2, 3, 1, 4, 0] rfl
      replace hP := hP.sub (ws' := [(m0, .inr (6, oM ga uM cn sn cm us wt oc ou ow)), (ga 8, .inl (gc 8, 24, .inl a8)), (ga 10, .inl (gc 10, 3, .inl a10)), (ga 11, .inl (gc 11, 3, .inl a11)), (ga 23, .inl (gc 23, 3, .inl a23))]) [0, 1, 2, 3, 4] rfl
      replace hD := hD.sub (ws' := [(m0, .inr (6, oM ga uM cn sn cm us wt oc ou ow)), (ga 8, .inl (gc 8, 24, .inl a8)), (ga 10, .inl (gc 10, 3, .inl a10)), (ga 11, .inl (gc 11, 3, .inl a11)), (ga 23, .inl (gc 23, 3, .inl a23))]) [0, 1, 2, 3, 4] (by decide) rfl
      exact cb55_2 w1 1 w3 _ _ _ h19 (Or.inr (Or.inr (Or.inl rfl))) (fun q => absurd q (by decide)) hSq hl hP hD hS
  have cc1_90_2 : ∀ (w1 : Int32) (w2 : Int32) (w3 : Int32) (w5 : Int32) (ls : Array Slot) (H : Heap) (locs : List Loc), w1 = ts a11 a23 3 → i012 w2 → (w2 = -1 → w3 = ts a11 a23 1) → (a11 1 = 0 ∧ a23 1 = 0) → SP = s_M_compareDigests_cc1_90_2 a8 a10 a11 a23 w1 w2 w3 w5 →  lv_has ls 7 [(0, .ref m0), (1, .int w1), (2, .int w2), (3, .int w3), (4, .int 1), (5, .int w5), (6, .int 2)] → va_P (dC, dI) classes [(m0, .inr (6, oM ga uM cn sn cm us wt oc ou ow)), (ga 8, .inl (gc 8, 24, .inl a8)), (ga 10, .inl (gc 10, 3, .inl a10)), (ga 11, .inl (gc 11, 3, .inl a11)), (ga 23, .inl (gc 23, 3, .inl a23))] H → va_D A [(m0, .inr (6, oM ga uM cn sn cm us wt oc ou ow)), (ga 8, .inl (gc 8, 24, .inl a8)), (ga 10, .inl (gc 10, 3, .inl a10)), (ga 11, .inl (gc 11, 3, .inl a11)), (ga 23, .inl (gc 23, 3, .inl a23))] → va_S A s.heap H locs → W p l e (headSpec (tbw y_M_compareDigests b_M_compareDigests 7 (some .boolean)) ({ frames := 1, cells := 0, slots := 0, locals := 24 })).room s m ([.ref m0] : List Value).toArray below meth c H locs 0 0 (MQ below (va_Qi (fun (r : Int32) (u9 : (Nat → Int32)) => match u9 with | a23n => (True) ∧ (r, a23n) = SP) (fun (u9 : (Nat → Int32)) t => match u9 with | a23n => va_P (dC, dI) classes [(m0, .inr (6, oM ga uM cn sn cm us wt oc ou ow)), (ga 8, .inl (gc 8, 24, .inl a8)), (ga 10, .inl (gc 10, 3, .inl a10)), (ga 11, .inl (gc 11, 3, .inl a11)), (ga 23, .inl (gc 23, 3, .inl a23n))] t.heap ∧ va_K (dC, dI) classes [(gc 8, .int), (gc 10, .int), (gc 11, .int), (gc 23, .boolean)] t ∧ va_D A [(m0, .inr (6, oM ga uM cn sn cm us wt oc ou ow)), (ga 8, .inl (gc 8, 24, .inl a8)), (ga 10, .inl (gc 10, 3, .inl a10)), (ga 11, .inl (gc 11, 3, .inl a11)), (ga 23, .inl (gc 23, 3, .inl a23n))]) A) ([.ref m0] : List Value).toArray s 0 0 A) (F0 m 90 ls []) := by
    intro w1 w2 w3 w5 ls H locs h19 h29 h39 htr hSq0 hl hP hD hS
    clear cb55_3 cc2_90_3 cc2_90_2 cc2_90_1 cc2_90_0 cb55_2
    refine lv_iload hx hb d_M_compareDigests_90 (lv_at hl 6 rfl) ?_
    refine lv_iconst (v := 3) hx hb d_M_compareDigests_92 (by decide) ?_
    refine lv_icmp_ge (tgt := 154) hx hb d_M_compareDigests_93 rfl (fun hc32 => by first | exact absurd hc32 (by decide) | exact absurd (by decide) hc32) (fun hc32 => ?_)
    refine lv_iload hx hb d_M_compareDigests_96 (lv_at hl 5 rfl) ?_
    refine lv_iload hx hb d_M_compareDigests_98 (lv_at hl 6 rfl) ?_
    refine lv_iload hx hb d_M_compareDigests_100 (lv_at hl 4 rfl) ?_
    refine lv_icmp_eq (tgt := 144) hx hb d_M_compareDigests_102 rfl (fun hc33 => by first | exact absurd hc33 (by decide) | exact absurd (by decide) hc33) (fun hc33 => ?_)
    refine lv_aload_n hx hb d_M_compareDigests_105 rfl (lv_at hl 0 rfl) ?_
    refine va_get (D := (dC, dI)) (ci := 6) (v := .ref (ga 11)) (C := "VotedTripleModel") (T := F_M) (N := 37) hx hb hw in_M hown hK hP 0 rfl rfl 11 (by decide) (hw _ k_735) (fun _ h9 => h9) rfl d_M_compareDigests_106 ?_
    refine lv_iload hx hb d_M_compareDigests_109 (lv_at hl 6 rfl) ?_
    refine va_iald hx hb hK hP 3 2 rfl rfl (by unfold vp_in; decide) d_M_compareDigests_111 ?_
    refine W.eq (g2 := F0 m 112 ls [.int (a11 2), .int w5]) rfl ?_
    refine lv_if_ne (tgt := 144) hx hb d_M_compareDigests_112 rfl (fun hc34 => ?_) (fun hc34 => ?_)
    · --  ¬ (a11 2) = 0
      refine lv_iconst (v := 0) hx hb d_M_compareDigests_144 (by decide) ?_
      refine lv_iadd hx hb d_M_compareDigests_145 ?_
      refine lv_istore hx hb d_M_compareDigests_146 hl (by decide) rfl (fun ls hl => ?_)
      replace hl : lv_has ls 7 [(5, .int (w5 + (0 : Int32))), (0, .ref m0), (1, .int w1), (2, .int w2), (3, .int w3), (4, .int 1), (6, .int 2)] := hl
      refine lv_iinc (k := 6) (v := 3) hx hb d_M_compareDigests_148 hl rfl rfl (by decide) rfl (fun ls hl => ?_)
      replace hl : lv_has ls 7 [(6, .int 3), (5, .int (w5 + (0 : Int32))), (0, .ref m0), (1, .int w1), (2, .int w2), (3, .int w3), (4, .int 1)] := hl
      refine lv_goto (tgt := 90) hx hb d_M_compareDigests_151 rfl ?_
      have hSq : SP = s_M_compareDigests_cc1_90_3 a8 a10 a11 a23 w1 w2 w3 (w5 + (0 : Int32)) := by rw [hSq0, s_M_compareDigests_cc1_90_2]; try (rw [if_neg hc34]); all_goals rfl
      replace hl := lv_sub hl (l' := [(0, .ref m0), (1, .int w1), (2, .int w2), (3, .int w3), (4, .int 1), (5, .int (w5 + (0 : Int32))), (6, .int 3)]) [2, 3, 4, 5, 6, 1, 0] rfl
      replace hP := hP.sub (ws' := [(m0, .inr (6, oM ga uM cn sn cm us wt oc ou ow)), (ga 8, .inl (gc 8, 24, .inl a8)), (ga 10, .inl (gc 10, 3, .inl a10)), (ga 11, .inl (gc 11, 3, .inl a11)), (ga 23, .inl (gc 23, 3, .inl a23))]) [0, 1, 2, 3, 4] rfl
      replace hD := hD.sub (ws' := [(m0, .inr (6, oM ga uM cn sn cm us wt oc ou ow)), (ga 8, .inl (gc 8, 24, .inl a8)), (ga 10, .inl (gc 10, 3, .inl a10)), (ga 11, .inl (gc 11, 3, .inl a11)), (ga 23, .inl (gc 23, 3, .inl a23))]) [0, 1, 2, 3, 4] (by decide) rfl
      exact cc1_90_3 w1 w2 w3 (w5 + (0 : Int32)) _ _ _ h19 h29 h39 htr hSq hl hP hD hS
    · --  (a11 2) = 0
      refine lv_aload_n hx hb d_M_compareDigests_115 rfl (lv_at hl 0 rfl) ?_
      refine va_get (D := (dC, dI)) (ci := 6) (v := .ref (ga 23)) (C := "VotedTripleModel") (T := F_M) (N := 37) hx hb hw in_M hown hK hP 0 rfl rfl 23 (by decide) (hw _ k_747) (fun _ h9 => h9) rfl d_M_compareDigests_116 ?_
      refine lv_iload hx hb d_M_compareDigests_119 (lv_at hl 6 rfl) ?_
      refine va_zald hx hb hK hP 4 3 rfl rfl (by unfold vp_in; decide) d_M_compareDigests_121 ?_
      refine W.eq (g2 := F0 m 122 ls [.int (a23 2), .int w5]) rfl ?_
      refine lv_if_ne (tgt := 144) hx hb d_M_compareDigests_122 rfl (fun hc35 => ?_) (fun hc35 => ?_)
      · --  ¬ (a23 2) = 0
        refine lv_iconst (v := 0) hx hb d_M_compareDigests_144 (by decide) ?_
        refine lv_iadd hx hb d_M_compareDigests_145 ?_
        refine lv_istore hx hb d_M_compareDigests_146 hl (by decide) rfl (fun ls hl => ?_)
        replace hl : lv_has ls 7 [(5, .int (w5 + (0 : Int32))), (0, .ref m0), (1, .int w1), (2, .int w2), (3, .int w3), (4, .int 1), (6, .int 2)] := hl
        refine lv_iinc (k := 6) (v := 3) hx hb d_M_compareDigests_148 hl rfl rfl (by decide) rfl (fun ls hl => ?_)
        replace hl : lv_has ls 7 [(6, .int 3), (5, .int (w5 + (0 : Int32))), (0, .ref m0), (1, .int w1), (2, .int w2), (3, .int w3), (4, .int 1)] := hl
        refine lv_goto (tgt := 90) hx hb d_M_compareDigests_151 rfl ?_
        have hSq : SP = s_M_compareDigests_cc1_90_3 a8 a10 a11 a23 w1 w2 w3 (w5 + (0 : Int32)) := by rw [hSq0, s_M_compareDigests_cc1_90_2]; try (rw [if_pos hc34]); try (rw [if_neg hc35]); all_goals rfl
        replace hl := lv_sub hl (l' := [(0, .ref m0), (1, .int w1), (2, .int w2), (3, .int w3), (4, .int 1), (5, .int (w5 + (0 : Int32))), (6, .int 3)]) [2, 3, 4, 5, 6, 1, 0] rfl
        replace hP := hP.sub (ws' := [(m0, .inr (6, oM ga uM cn sn cm us wt oc ou ow)), (ga 8, .inl (gc 8, 24, .inl a8)), (ga 10, .inl (gc 10, 3, .inl a10)), (ga 11, .inl (gc 11, 3, .inl a11)), (ga 23, .inl (gc 23, 3, .inl a23))]) [0, 1, 2, 3, 4] rfl
        replace hD := hD.sub (ws' := [(m0, .inr (6, oM ga uM cn sn cm us wt oc ou ow)), (ga 8, .inl (gc 8, 24, .inl a8)), (ga 10, .inl (gc 10, 3, .inl a10)), (ga 11, .inl (gc 11, 3, .inl a11)), (ga 23, .inl (gc 23, 3, .inl a23))]) [0, 1, 2, 3, 4] (by decide) rfl
        exact cc1_90_3 w1 w2 w3 (w5 + (0 : Int32)) _ _ _ h19 h29 h39 htr hSq hl hP hD hS
      · --  (a23 2) = 0
        refine lv_aload_n hx hb d_M_compareDigests_125 rfl (lv_at hl 0 rfl) ?_
        refine lv_iload hx hb d_M_compareDigests_126 (lv_at hl 6 rfl) ?_
        replace hPc := hP.sub (ws' := [(m0, .inr (6, oM ga uM cn sn cm us wt oc ou ow)), (ga 8, .inl (gc 8, 24, .inl a8)), (ga 10, .inl (gc 10, 3, .inl a10))]) [0, 1, 2] rfl
        replace hKc := hK.sub (tys' := [(gc 8, .int), (gc 10, .int)]) [0, 1] rfl
        refine vp_callSi (va_runV (C := "VotedTripleModel") (As := [.int 2]) (rest := [.int w5]) ⟨hx, hb, hml, hown, hw⟩ (c_M_digest l dC dI m0 ga gc uM cn sn cm us wt oc ou ow a8 a10 2 2 rfl (by decide)) (cwV 1 hw (gdV (k_931) (k_928) (k_930) (ks_35) (k_8)) rfl rfl rfl (by decide +kernel) ⟨Nat.le_of_ble_eq_true rfl, Nat.le_of_ble_eq_true rfl⟩) ⟨fun a U g mk q => ⟨q.1, q.2.1, va_K.moved (u := U) (U := U.calling g mk a) (Vm.Alike.refl U.vm) q.2.2⟩, va_recv hK hP rfl (q0 := 0) rfl, fun U hU hW => ⟨rfl, by rw [hU]; exact hPc, va_K.moved hW.alike hKc⟩⟩ rfl rfl hl.1 rfl (lv_room (Nat.le_of_ble_eq_true rfl)) d_M_compareDigests_128 ⟨Nat.le_of_ble_eq_true rfl, Nat.le_of_ble_eq_true rfl⟩).run (fun r36 hr37 => ?_)
        obtain ⟨hr37, hr37E⟩ := hr37
        refine lv_aload_n hx hb d_M_compareDigests_131 rfl (lv_at hl 0 rfl) ?_
        refine lv_iload hx hb d_M_compareDigests_132 (lv_at hl 4 rfl) ?_
        replace hPc := hP.sub (ws' := [(m0, .inr (6, oM ga uM cn sn cm us wt oc ou ow)), (ga 8, .inl (gc 8, 24, .inl a8)), (ga 10, .inl (gc 10, 3, .inl a10))]) [0, 1, 2] rfl
        replace hKc := hK.sub (tys' := [(gc 8, .int), (gc 10, .int)]) [0, 1] rfl
        refine vp_callSi (va_runV (C := "VotedTripleModel") (As := [.int 1]) (rest := [.int r36, .int w5]) ⟨hx, hb, hml, hown, hw⟩ (c_M_digest l dC dI m0 ga gc uM cn sn cm us wt oc ou ow a8 a10 1 1 rfl (by decide)) (cwV 1 hw (gdV (k_931) (k_928) (k_930) (ks_35) (k_8)) rfl rfl rfl (by decide +kernel) ⟨Nat.le_of_ble_eq_true rfl, Nat.le_of_ble_eq_true rfl⟩) ⟨fun a U g mk q => ⟨q.1, q.2.1, va_K.moved (u := U) (U := U.calling g mk a) (Vm.Alike.refl U.vm) q.2.2⟩, va_recv hK hP rfl (q0 := 0) rfl, fun U hU hW => ⟨rfl, by rw [hU]; exact hPc, va_K.moved hW.alike hKc⟩⟩ rfl rfl hl.1 rfl (lv_room (Nat.le_of_ble_eq_true rfl)) d_M_compareDigests_134 ⟨Nat.le_of_ble_eq_true rfl, Nat.le_of_ble_eq_true rfl⟩).run (fun r38 hr39 => ?_)
        obtain ⟨hr39, hr39E⟩ := hr39
        refine lv_icmp_ne (tgt := 144) hx hb d_M_compareDigests_137 rfl (fun hc40 => ?_) (fun hc40 => ?_)
        · --  ¬ r36 = r38
          refine lv_iconst (v := 0) hx hb d_M_compareDigests_144 (by decide) ?_
          refine lv_iadd hx hb d_M_compareDigests_145 ?_
          refine lv_istore hx hb d_M_compareDigests_146 hl (by decide) rfl (fun ls hl => ?_)
          replace hl : lv_has ls 7 [(5, .int (w5 + (0 : Int32))), (0, .ref m0), (1, .int w1), (2, .int w2), (3, .int w3), (4, .int 1), (6, .int 2)] := hl
          refine lv_iinc (k := 6) (v := 3) hx hb d_M_compareDigests_148 hl rfl rfl (by decide) rfl (fun ls hl => ?_)
          replace hl : lv_has ls 7 [(6, .int 3), (5, .int (w5 + (0 : Int32))), (0, .ref m0), (1, .int w1), (2, .int w2), (3, .int w3), (4, .int 1)] := hl
          refine lv_goto (tgt := 90) hx hb d_M_compareDigests_151 rfl ?_
          have hSq : SP = s_M_compareDigests_cc1_90_3 a8 a10 a11 a23 w1 w2 w3 (w5 + (0 : Int32)) := by rw [hSq0, s_M_compareDigests_cc1_90_2]; try (rw [if_pos hc34]); try (rw [if_pos hc35]); try (rw [← hr37E, bnd_eq]); try (rw [← hr39E, bnd_eq]); try (rw [if_neg hc40]); all_goals rfl
          replace hl := lv_sub hl (l' := [(0, .ref m0), (1, .int w1), (2, .int w2), (3, .int w3), (4, .int 1), (5, .int (w5 + (0 : Int32))), (6, .int 3)]) [2, 3, 4, 5, 6, 1, 0] rfl
          replace hP := hP.sub (ws' := [(m0, .inr (6, oM ga uM cn sn cm us wt oc ou ow)), (ga 8, .inl (gc 8, 24, .inl a8)), (ga 10, .inl (gc 10, 3, .inl a10)), (ga 11, .inl (gc 11, 3, .inl a11)), (ga 23, .inl (gc 23, 3, .inl a23))]) [0, 1, 2, 3, 4] rfl
          replace hD := hD.sub (ws' := [(m0, .inr (6, oM ga uM cn sn cm us wt oc ou ow)), (ga 8, .inl (gc 8, 24, .inl a8)), (ga 10, .inl (gc 10, 3, .inl a10)), (ga 11, .inl (gc 11, 3, .inl a11)), (ga 23, .inl (gc 23, 3, .inl a23))]) [0, 1, 2, 3, 4] (by decide) rfl
          exact cc1_90_3 w1 w2 w3 (w5 + (0 : Int32)) _ _ _ h19 h29 h39 htr hSq hl hP hD hS
        · --  r36 = r38
          refine lv_iconst (v := 1) hx hb d_M_compareDigests_140 (by decide) ?_
          refine lv_goto (tgt := 145) hx hb d_M_compareDigests_141 rfl ?_
          refine lv_iadd hx hb d_M_compareDigests_145 ?_
          refine lv_istore hx hb d_M_compareDigests_146 hl (by decide) rfl (fun ls hl => ?_)
          replace hl : lv_has ls 7 [(5, .int (w5 + (1 : Int32))), (0, .ref m0), (1, .int w1), (2, .int w2), (3, .int w3), (4, .int 1), (6, .int 2)] := hl
          refine lv_iinc (k := 6) (v := 3) hx hb d_M_compareDigests_148 hl rfl rfl (by decide) rfl (fun ls hl => ?_)
          replace hl : lv_has ls 7 [(6, .int 3), (5, .int (w5 + (1 : Int32))), (0, .ref m0), (1, .int w1), (2, .int w2), (3, .int w3), (4, .int 1)] := hl
          refine lv_goto (tgt := 90) hx hb d_M_compareDigests_151 rfl ?_
          have hSq : SP = s_M_compareDigests_cc1_90_3 a8 a10 a11 a23 w1 w2 w3 (w5 + (1 : Int32)) := by rw [hSq0, s_M_compareDigests_cc1_90_2]; try (rw [if_pos hc34]); try (rw [if_pos hc35]); try (rw [← hr37E, bnd_eq]); try (rw [← hr39E, bnd_eq]); try (rw [if_pos hc40]); all_goals rfl
          replace hl := lv_sub hl (l' := [(0, .ref m0), (1, .int w1), (2, .int w2), (3, .int w3), (4, .int 1), (5, .int (w5 + (1 : Int32))), (6, .int 3)]) [2, 3, 4, 5, 6, 1, 0] rfl
          replace hP := hP.sub (ws' := [(m0, .inr (6, oM ga uM cn sn cm us wt oc ou ow)), (ga 8, .inl (gc 8, 24, .inl a8)), (ga 10, .inl (gc 10, 3, .inl a10)), (ga 11, .inl (gc 11, 3, .inl a11)), (ga 23, .inl (gc 23, 3, .inl a23))]) [0, 1, 2, 3, 4] rfl
          replace hD := hD.sub (ws' := [(m0, .inr (6, oM ga uM cn sn cm us wt oc ou ow)), (ga 8, .inl (gc 8, 24, .inl a8)), (ga 10, .inl (gc 10, 3, .inl a10)), (ga 11, .inl (gc 11, 3, .inl a11)), (ga 23, .inl (gc 23, 3, .inl a23))]) [0, 1, 2, 3, 4] (by decide) rfl
          exact cc1_90_3 w1 w2 w3 (w5 + (1 : Int32)) _ _ _ h19 h29 h39 htr hSq hl hP hD hS
  have cc1_90_1 : ∀ (w1 : Int32) (w2 : Int32) (w3 : Int32) (w5 : Int32) (ls : Array Slot) (H : Heap) (locs : List Loc), w1 = ts a11 a23 3 → i012 w2 → (w2 = -1 → w3 = ts a11 a23 1) → (a11 1 = 0 ∧ a23 1 = 0) → SP = s_M_compareDigests_cc1_90_1 a8 a10 a11 a23 w1 w2 w3 w5 →  lv_has ls 7 [(0, .ref m0), (1, .int w1), (2, .int w2), (3, .int w3), (4, .int 1), (5, .int w5), (6, .int 1)] → va_P (dC, dI) classes [(m0, .inr (6, oM ga uM cn sn cm us wt oc ou ow)), (ga 8, .inl (gc 8, 24, .inl a8)), (ga 10, .inl (gc 10, 3, .inl a10)), (ga 11, .inl (gc 11, 3, .inl a11)), (ga 23, .inl (gc 23, 3, .inl a23))] H → va_D A [(m0, .inr (6, oM ga uM cn sn cm us wt oc ou ow)), (ga 8, .inl (gc 8, 24, .inl a8)), (ga 10, .inl (gc 10, 3, .inl a10)), (ga 11, .inl (gc 11, 3, .inl a11)), (ga 23, .inl (gc 23, 3, .inl a23))] → va_S A s.heap H locs → W p l e (headSpec (tbw y_M_compareDigests b_M_compareDigests 7 (some .boolean)) ({ frames := 1, cells := 0, slots := 0, locals := 24 })).room s m ([.ref m0] : List Value).toArray below meth c H locs 0 0 (MQ below (va_Qi (fun (r : Int32) (u9 : (Nat → Int32)) => match u9 with | a23n => (True) ∧ (r, a23n) = SP) (fun (u9 : (Nat → Int32)) t => match u9 with | a23n => va_P (dC, dI) classes [(m0, .inr (6, oM ga uM cn sn cm us wt oc ou ow)), (ga 8, .inl (gc 8, 24, .inl a8)), (ga 10, .inl (gc 10, 3, .inl a10)), (ga 11, .inl (gc 11, 3, .inl a11)), (ga 23, .inl (gc 23, 3, .inl a23n))] t.heap ∧ va_K (dC, dI) classes [(gc 8, .int), (gc 10, .int), (gc 11, .int), (gc 23, .boolean)] t ∧ va_D A [(m0, .inr (6, oM ga uM cn sn cm us wt oc ou ow)), (ga 8, .inl (gc 8, 24, .inl a8)), (ga 10, .inl (gc 10, 3, .inl a10)), (ga 11, .inl (gc 11, 3, .inl a11)), (ga 23, .inl (gc 23, 3, .inl a23n))]) A) ([.ref m0] : List Value).toArray s 0 0 A) (F0 m 90 ls []) := by
    intro w1 w2 w3 w5 ls H locs h19 h29 h39 htr hSq0 hl hP hD hS
    clear cb55_3 cc2_90_3 cc2_90_2 cc2_90_1 cc2_90_0 cb55_2 cc1_90_3
    refine lv_iload hx hb d_M_compareDigests_90 (lv_at hl 6 rfl) ?_
    refine lv_iconst (v := 3) hx hb d_M_compareDigests_92 (by decide) ?_
    refine lv_icmp_ge (tgt := 154) hx hb d_M_compareDigests_93 rfl (fun hc41 => by first | exact absurd hc41 (by decide) | exact absurd (by decide) hc41) (fun hc41 => ?_)
    refine lv_iload hx hb d_M_compareDigests_96 (lv_at hl 5 rfl) ?_
    refine lv_iload hx hb d_M_compareDigests_98 (lv_at hl 6 rfl) ?_
    refine lv_iload hx hb d_M_compareDigests_100 (lv_at hl 4 rfl) ?_
    refine lv_icmp_eq (tgt := 144) hx hb d_M_compareDigests_102 rfl (fun hc42 => ?_) (fun hc42 => by first | exact absurd (rfl) hc42 | exact absurd hc42 (rfl))
    refine lv_iconst (v := 0) hx hb d_M_compareDigests_144 (by decide) ?_
    refine lv_iadd hx hb d_M_compareDigests_145 ?_
    refine lv_istore hx hb d_M_compareDigests_146 hl (by decide) rfl (fun ls hl => ?_)
    replace hl : lv_has ls 7 [(5, .int (w5 + (0 : Int32))), (0, .ref m0), (1, .int w1), (2, .int w2), (3, .int w3), (4, .int 1), (6, .int 1)] := hl
    refine lv_iinc (k := 6) (v := 2) hx hb d_M_compareDigests_148 hl rfl rfl (by decide) rfl (fun ls hl => ?_)
    replace hl : lv_has ls 7 [(6, .int 2), (5, .int (w5 + (0 : Int32))), (0, .ref m0), (1, .int w1), (2, .int w2), (3, .int w3), (4, .int 1)] := hl
    refine lv_goto (tgt := 90) hx hb d_M_compareDigests_151 rfl ?_
    have hSq : SP = s_M_compareDigests_cc1_90_2 a8 a10 a11 a23 w1 w2 w3 (w5 + (0 : Int32)) := by rw [hSq0, s_M_compareDigests_cc1_90_1]; all_goals rfl
    replace hl := lv_sub hl (l' := [(0, .ref m0), (1, .int w1), (2, .int w2), (3, .int w3), (4, .int 1), (5, .int (w5 + (0 : Int32))), (6, .int 2)]) [2, 3, 4, 5, 6, 1, 0] rfl
    replace hP := hP.sub (ws' := [(m0, .inr (6, oM ga uM cn sn cm us wt oc ou ow)), (ga 8, .inl (gc 8, 24, .inl a8)), (ga 10, .inl (gc 10, 3, .inl a10)), (ga 11, .inl (gc 11, 3, .inl a11)), (ga 23, .inl (gc 23, 3, .inl a23))]) [0, 1, 2, 3, 4] rfl
    replace hD := hD.sub (ws' := [(m0, .inr (6, oM ga uM cn sn cm us wt oc ou ow)), (ga 8, .inl (gc 8, 24, .inl a8)), (ga 10, .inl (gc 10, 3, .inl a10)), (ga 11, .inl (gc 11, 3, .inl a11)), (ga 23, .inl (gc 23, 3, .inl a23))]) [0, 1, 2, 3, 4] (by decide) rfl
    exact cc1_90_2 w1 w2 w3 (w5 + (0 : Int32)) _ _ _ h19 h29 h39 htr hSq hl hP hD hS
  have cc1_90_0 : ∀ (w1 : Int32) (w2 : Int32) (w3 : Int32) (w5 : Int32) (ls : Array Slot) (H : Heap) (locs : List Loc), w1 = ts a11 a23 3 → i012 w2 → (w2 = -1 → w3 = ts a11 a23 1) → (a11 1 = 0 ∧ a23 1 = 0) → SP = s_M_compareDigests_cc1_90_0 a8 a10 a11 a23 w1 w2 w3 w5 →  lv_has ls 7 [(0, .ref m0), (1, .int w1), (2, .int w2), (3, .int w3), (4, .int 1), (5, .int w5), (6, .int 0)] → va_P (dC, dI) classes [(m0, .inr (6, oM ga uM cn sn cm us wt oc ou ow)), (ga 8, .inl (gc 8, 24, .inl a8)), (ga 10, .inl (gc 10, 3, .inl a10)), (ga 11, .inl (gc 11, 3, .inl a11)), (ga 23, .inl (gc 23, 3, .inl a23))] H → va_D A [(m0, .inr (6, oM ga uM cn sn cm us wt oc ou ow)), (ga 8, .inl (gc 8, 24, .inl a8)), (ga 10, .inl (gc 10, 3, .inl a10)), (ga 11, .inl (gc 11, 3, .inl a11)), (ga 23, .inl (gc 23, 3, .inl a23))] → va_S A s.heap H locs → W p l e (headSpec (tbw y_M_compareDigests b_M_compareDigests 7 (some .boolean)) ({ frames := 1, cells := 0, slots := 0, locals := 24 })).room s m ([.ref m0] : List Value).toArray below meth c H locs 0 0 (MQ below (va_Qi (fun (r : Int32) (u9 : (Nat → Int32)) => match u9 with | a23n => (True) ∧ (r, a23n) = SP) (fun (u9 : (Nat → Int32)) t => match u9 with | a23n => va_P (dC, dI) classes [(m0, .inr (6, oM ga uM cn sn cm us wt oc ou ow)), (ga 8, .inl (gc 8, 24, .inl a8)), (ga 10, .inl (gc 10, 3, .inl a10)), (ga 11, .inl (gc 11, 3, .inl a11)), (ga 23, .inl (gc 23, 3, .inl a23n))] t.heap ∧ va_K (dC, dI) classes [(gc 8, .int), (gc 10, .int), (gc 11, .int), (gc 23, .boolean)] t ∧ va_D A [(m0, .inr (6, oM ga uM cn sn cm us wt oc ou ow)), (ga 8, .inl (gc 8, 24, .inl a8)), (ga 10, .inl (gc 10, 3, .inl a10)), (ga 11, .inl (gc 11, 3, .inl a11)), (ga 23, .inl (gc 23, 3, .inl a23n))]) A) ([.ref m0] : List Value).toArray s 0 0 A) (F0 m 90 ls []) := by
    intro w1 w2 w3 w5 ls H locs h19 h29 h39 htr hSq0 hl hP hD hS
    clear cb55_3 cc2_90_3 cc2_90_2 cc2_90_1 cc2_90_0 cb55_2 cc1_90_3 cc1_90_2
    refine lv_iload hx hb d_M_compareDigests_90 (lv_at hl 6 rfl) ?_
    refine lv_iconst (v := 3) hx hb d_M_compareDigests_92 (by decide) ?_
    refine lv_icmp_ge (tgt := 154) hx hb d_M_compareDigests_93 rfl (fun hc43 => by first | exact absurd hc43 (by decide) | exact absurd (by decide) hc43) (fun hc43 => ?_)
    refine lv_iload hx hb d_M_compareDigests_96 (lv_at hl 5 rfl) ?_
    refine lv_iload hx hb d_M_compareDigests_98 (lv_at hl 6 rfl) ?_
    refine lv_iload hx hb d_M_compareDigests_100 (lv_at hl 4 rfl) ?_
    refine lv_icmp_eq (tgt := 144) hx hb d_M_compareDigests_102 rfl (fun hc44 => by first | exact absurd hc44 (by decide) | exact absurd (by decide) hc44) (fun hc44 => ?_)
    refine lv_aload_n hx hb d_M_compareDigests_105 rfl (lv_at hl 0 rfl) ?_
    refine va_get (D := (dC, dI)) (ci := 6) (v := .ref (ga 11)) (C := "VotedTripleModel") (T := F_M) (N := 37) hx hb hw in_M hown hK hP 0 rfl rfl 11 (by decide) (hw _ k_735) (fun _ h9 => h9) rfl d_M_compareDigests_106 ?_
    refine lv_iload hx hb d_M_compareDigests_109 (lv_at hl 6 rfl) ?_
    refine va_iald hx hb hK hP 3 2 rfl rfl (by unfold vp_in; decide) d_M_compareDigests_111 ?_
    refine W.eq (g2 := F0 m 112 ls [.int (a11 0), .int w5]) rfl ?_
    refine lv_if_ne (tgt := 144) hx hb d_M_compareDigests_112 rfl (fun hc45 => ?_) (fun hc45 => ?_)
    · --  ¬ (a11 0) = 0
      refine lv_iconst (v := 0) hx hb d_M_compareDigests_144 (by decide) ?_
      refine lv_iadd hx hb d_M_compareDigests_145 ?_
      refine lv_istore hx hb d_M_compareDigests_146 hl (by decide) rfl (fun ls hl => ?_)
      replace hl : lv_has ls 7 [(5, .int (w5 + (0 : Int32))), (0, .ref m0), (1, .int w1), (2, .int w2), (3, .int w3), (4, .int 1), (6, .int 0)] := hl
      refine lv_iinc (k := 6) (v := 1) hx hb d_M_compareDigests_148 hl rfl rfl (by decide) rfl (fun ls hl => ?_)
      replace hl : lv_has ls 7 [(6, .int 1), (5, .int (w5 + (0 : Int32))), (0, .ref m0), (1, .int w1), (2, .int w2), (3, .int w3), (4, .int 1)] := hl
      refine lv_goto (tgt := 90) hx hb d_M_compareDigests_151 rfl ?_
      have hSq : SP = s_M_compareDigests_cc1_90_1 a8 a10 a11 a23 w1 w2 w3 (w5 + (0 : Int32)) := by rw [hSq0, s_M_compareDigests_cc1_90_0]; try (rw [if_neg hc45]); all_goals rfl
      replace hl := lv_sub hl (l' := [(0, .ref m0), (1, .int w1), (2, .int w2), (3, .int w3), (4, .int 1), (5, .int (w5 + (0 : Int32))), (6, .int 1)]) [2, 3, 4, 5, 6, 1, 0] rfl
      replace hP := hP.sub (ws' := [(m0, .inr (6, oM ga uM cn sn cm us wt oc ou ow)), (ga 8, .inl (gc 8, 24, .inl a8)), (ga 10, .inl (gc 10, 3, .inl a10)), (ga 11, .inl (gc 11, 3, .inl a11)), (ga 23, .inl (gc 23, 3, .inl a23))]) [0, 1, 2, 3, 4] rfl
      replace hD := hD.sub (ws' := [(m0, .inr (6, oM ga uM cn sn cm us wt oc ou ow)), (ga 8, .inl (gc 8, 24, .inl a8)), (ga 10, .inl (gc 10, 3, .inl a10)), (ga 11, .inl (gc 11, 3, .inl a11)), (ga 23, .inl (gc 23, 3, .inl a23))]) [0, 1, 2, 3, 4] (by decide) rfl
      exact cc1_90_1 w1 w2 w3 (w5 + (0 : Int32)) _ _ _ h19 h29 h39 htr hSq hl hP hD hS
    · --  (a11 0) = 0
      refine lv_aload_n hx hb d_M_compareDigests_115 rfl (lv_at hl 0 rfl) ?_
      refine va_get (D := (dC, dI)) (ci := 6) (v := .ref (ga 23)) (C := "VotedTripleModel") (T := F_M) (N := 37) hx hb hw in_M hown hK hP 0 rfl rfl 23 (by decide) (hw _ k_747) (fun _ h9 => h9) rfl d_M_compareDigests_116 ?_
      refine lv_iload hx hb d_M_compareDigests_119 (lv_at hl 6 rfl) ?_
      refine va_zald hx hb hK hP 4 3 rfl rfl (by unfold vp_in; decide) d_M_compareDigests_121 ?_
      refine W.eq (g2 := F0 m 122 ls [.int (a23 0), .int w5]) rfl ?_
      refine lv_if_ne (tgt := 144) hx hb d_M_compareDigests_122 rfl (fun hc46 => ?_) (fun hc46 => ?_)
      · --  ¬ (a23 0) = 0
        refine lv_iconst (v := 0) hx hb d_M_compareDigests_144 (by decide) ?_
        refine lv_iadd hx hb d_M_compareDigests_145 ?_
        refine lv_istore hx hb d_M_compareDigests_146 hl (by decide) rfl (fun ls hl => ?_)
        replace hl : lv_has ls 7 [(5, .int (w5 + (0 : Int32))), (0, .ref m0), (1, .int w1), (2, .int w2), (3, .int w3), (4, .int 1), (6, .int 0)] := hl
        refine lv_iinc (k := 6) (v := 1) hx hb d_M_compareDigests_148 hl rfl rfl (by decide) rfl (fun ls hl => ?_)
        replace hl : lv_has ls 7 [(6, .int 1), (5, .int (w5 + (0 : Int32))), (0, .ref m0), (1, .int w1), (2, .int w2), (3, .int w3), (4, .int 1)] := hl
        refine lv_goto (tgt := 90) hx hb d_M_compareDigests_151 rfl ?_
        have hSq : SP = s_M_compareDigests_cc1_90_1 a8 a10 a11 a23 w1 w2 w3 (w5 + (0 : Int32)) := by rw [hSq0, s_M_compareDigests_cc1_90_0]; try (rw [if_pos hc45]); try (rw [if_neg hc46]); all_goals rfl
        replace hl := lv_sub hl (l' := [(0, .ref m0), (1, .int w1), (2, .int w2), (3, .int w3), (4, .int 1), (5, .int (w5 + (0 : Int32))), (6, .int 1)]) [2, 3, 4, 5, 6, 1, 0] rfl
        replace hP := hP.sub (ws' := [(m0, .inr (6, oM ga uM cn sn cm us wt oc ou ow)), (ga 8, .inl (gc 8, 24, .inl a8)), (ga 10, .inl (gc 10, 3, .inl a10)), (ga 11, .inl (gc 11, 3, .inl a11)), (ga 23, .inl (gc 23, 3, .inl a23))]) [0, 1, 2, 3, 4] rfl
        replace hD := hD.sub (ws' := [(m0, .inr (6, oM ga uM cn sn cm us wt oc ou ow)), (ga 8, .inl (gc 8, 24, .inl a8)), (ga 10, .inl (gc 10, 3, .inl a10)), (ga 11, .inl (gc 11, 3, .inl a11)), (ga 23, .inl (gc 23, 3, .inl a23))]) [0, 1, 2, 3, 4] (by decide) rfl
        exact cc1_90_1 w1 w2 w3 (w5 + (0 : Int32)) _ _ _ h19 h29 h39 htr hSq hl hP hD hS
      · --  (a23 0) = 0
        refine lv_aload_n hx hb d_M_compareDigests_125 rfl (lv_at hl 0 rfl) ?_
        refine lv_iload hx hb d_M_compareDigests_126 (lv_at hl 6 rfl) ?_
        replace hPc := hP.sub (ws' := [(m0, .inr (6, oM ga uM cn sn cm us wt oc ou ow)), (ga 8, .inl (gc 8, 24, .inl a8)), (ga 10, .inl (gc 10, 3, .inl a10))]) [0, 1, 2] rfl
        replace hKc := hK.sub (tys' := [(gc 8, .int), (gc 10, .int)]) [0, 1] rfl
        refine vp_callSi (va_runV (C := "VotedTripleModel") (As := [.int 0]) (rest := [.int w5]) ⟨hx, hb, hml, hown, hw⟩ (c_M_digest l dC dI m0 ga gc uM cn sn cm us wt oc ou ow a8 a10 0 0 rfl (by decide)) (cwV 1 hw (gdV (k_931) (k_928) (k_930) (ks_35) (k_8)) rfl rfl rfl (by decide +kernel) ⟨Nat.le_of_ble_eq_true rfl, Nat.le_of_ble_eq_true rfl⟩) ⟨fun a U g mk q => ⟨q.1, q.2.1, va_K.moved (u := U) (U := U.calling g mk a) (Vm.Alike.refl U.vm) q.2.2⟩, va_recv hK hP rfl (q0 := 0) rfl, fun U hU hW => ⟨rfl, by rw [hU]; exact hPc, va_K.moved hW.alike hKc⟩⟩ rfl rfl hl.1 rfl (lv_room (Nat.le_of_ble_eq_true rfl)) d_M_compareDigests_128 ⟨Nat.le_of_ble_eq_true rfl, Nat.le_of_ble_eq_true rfl⟩).run (fun r47 hr48 => ?_)
        obtain ⟨hr48, hr48E⟩ := hr48
        refine lv_aload_n hx hb d_M_compareDigests_131 rfl (lv_at hl 0 rfl) ?_
        refine lv_iload hx hb d_M_compareDigests_132 (lv_at hl 4 rfl) ?_
        replace hPc := hP.sub (ws' := [(m0, .inr (6, oM ga uM cn sn cm us wt oc ou ow)), (ga 8, .inl (gc 8, 24, .inl a8)), (ga 10, .inl (gc 10, 3, .inl a10))]) [0, 1, 2] rfl
        replace hKc := hK.sub (tys' := [(gc 8, .int), (gc 10, .int)]) [0, 1] rfl
        refine vp_callSi (va_runV (C := "VotedTripleModel") (As := [.int 1]) (rest := [.int r47, .int w5]) ⟨hx, hb, hml, hown, hw⟩ (c_M_digest l dC dI m0 ga gc uM cn sn cm us wt oc ou ow a8 a10 1 1 rfl (by decide)) (cwV 1 hw (gdV (k_931) (k_928) (k_930) (ks_35) (k_8)) rfl rfl rfl (by decide +kernel) ⟨Nat.le_of_ble_eq_true rfl, Nat.le_of_ble_eq_true rfl⟩) ⟨fun a U g mk q => ⟨q.1, q.2.1, va_K.moved (u := U) (U := U.calling g mk a) (Vm.Alike.refl U.vm) q.2.2⟩, va_recv hK hP rfl (q0 := 0) rfl, fun U hU hW => ⟨rfl, by rw [hU]; exact hPc, va_K.moved hW.alike hKc⟩⟩ rfl rfl hl.1 rfl (lv_room (Nat.le_of_ble_eq_true rfl)) d_M_compareDigests_134 ⟨Nat.le_of_ble_eq_true rfl, Nat.le_of_ble_eq_true rfl⟩).run (fun r49 hr50 => ?_)
        obtain ⟨hr50, hr50E⟩ := hr50
        refine lv_icmp_ne (tgt := 144) hx hb d_M_compareDigests_137 rfl (fun hc51 => ?_) (fun hc51 => ?_)
        · --  ¬ r47 = r49
          refine lv_iconst (v := 0) hx hb d_M_compareDigests_144 (by decide) ?_
          refine lv_iadd hx hb d_M_compareDigests_145 ?_
          refine lv_istore hx hb d_M_compareDigests_146 hl (by decide) rfl (fun ls hl => ?_)
          replace hl : lv_has ls 7 [(5, .int (w5 + (0 : Int32))), (0, .ref m0), (1, .int w1), (2, .int w2), (3, .int w3), (4, .int 1), (6, .int 0)] := hl
          refine lv_iinc (k := 6) (v := 1) hx hb d_M_compareDigests_148 hl rfl rfl (by decide) rfl (fun ls hl => ?_)
          replace hl : lv_has ls 7 [(6, .int 1), (5, .int (w5 + (0 : Int32))), (0, .ref m0), (1, .int w1), (2, .int w2), (3, .int w3), (4, .int 1)] := hl
          refine lv_goto (tgt := 90) hx hb d_M_compareDigests_151 rfl ?_
          have hSq : SP = s_M_compareDigests_cc1_90_1 a8 a10 a11 a23 w1 w2 w3 (w5 + (0 : Int32)) := by rw [hSq0, s_M_compareDigests_cc1_90_0]; try (rw [if_pos hc45]); try (rw [if_pos hc46]); try (rw [← hr48E, bnd_eq]); try (rw [← hr50E, bnd_eq]); try (rw [if_neg hc51]); all_goals rfl
          replace hl := lv_sub hl (l' := [(0, .ref m0), (1, .int w1), (2, .int w2), (3, .int w3), (4, .int 1), (5, .int (w5 + (0 : Int32))), (6, .int 1)]) [2, 3, 4, 5, 6, 1, 0] rfl
          replace hP := hP.sub (ws' := [(m0, .inr (6, oM ga uM cn sn cm us wt oc ou ow)), (ga 8, .inl (gc 8, 24, .inl a8)), (ga 10, .inl (gc 10, 3, .inl a10)), (ga 11, .inl (gc 11, 3, .inl a11)), (ga 23, .inl (gc 23, 3, .inl a23))]) [0, 1, 2, 3, 4] rfl
          replace hD := hD.sub (ws' := [(m0, .inr (6, oM ga uM cn sn cm us wt oc ou ow)), (ga 8, .inl (gc 8, 24, .inl a8)), (ga 10, .inl (gc 10, 3, .inl a10)), (ga 11, .inl (gc 11, 3, .inl a11)), (ga 23, .inl (gc 23, 3, .inl a23))]) [0, 1, 2, 3, 4] (by decide) rfl
          exact cc1_90_1 w1 w2 w3 (w5 + (0 : Int32)) _ _ _ h19 h29 h39 htr hSq hl hP hD hS
        · --  r47 = r49
          refine lv_iconst (v := 1) hx hb d_M_compareDigests_140 (by decide) ?_
          refine lv_goto (tgt := 145) hx hb d_M_compareDigests_141 rfl ?_
          refine lv_iadd hx hb d_M_compareDigests_145 ?_
          refine lv_istore hx hb d_M_compareDigests_146 hl (by decide) rfl (fun ls hl => ?_)
          replace hl : lv_has ls 7 [(5, .int (w5 + (1 : Int32))), (0, .ref m0), (1, .int w1), (2, .int w2), (3, .int w3), (4, .int 1), (6, .int 0)] := hl
          refine lv_iinc (k := 6) (v := 1) hx hb d_M_compareDigests_148 hl rfl rfl (by decide) rfl (fun ls hl => ?_)
          replace hl : lv_has ls 7 [(6, .int 1), (5, .int (w5 + (1 : Int32))), (0, .ref m0), (1, .int w1), (2, .int w2), (3, .int w3), (4, .int 1)] := hl
          refine lv_goto (tgt := 90) hx hb d_M_compareDigests_151 rfl ?_
          have hSq : SP = s_M_compareDigests_cc1_90_1 a8 a10 a11 a23 w1 w2 w3 (w5 + (1 : Int32)) := by rw [hSq0, s_M_compareDigests_cc1_90_0]; try (rw [if_pos hc45]); try (rw [if_pos hc46]); try (rw [← hr48E, bnd_eq]); try (rw [← hr50E, bnd_eq]); try (rw [if_pos hc51]); all_goals rfl
          replace hl := lv_sub hl (l' := [(0, .ref m0), (1, .int w1), (2, .int w2), (3, .int w3), (4, .int 1), (5, .int (w5 + (1 : Int32))), (6, .int 1)]) [2, 3, 4, 5, 6, 1, 0] rfl
          replace hP := hP.sub (ws' := [(m0, .inr (6, oM ga uM cn sn cm us wt oc ou ow)), (ga 8, .inl (gc 8, 24, .inl a8)), (ga 10, .inl (gc 10, 3, .inl a10)), (ga 11, .inl (gc 11, 3, .inl a11)), (ga 23, .inl (gc 23, 3, .inl a23))]) [0, 1, 2, 3, 4] rfl
          replace hD := hD.sub (ws' := [(m0, .inr (6, oM ga uM cn sn cm us wt oc ou ow)), (ga 8, .inl (gc 8, 24, .inl a8)), (ga 10, .inl (gc 10, 3, .inl a10)), (ga 11, .inl (gc 11, 3, .inl a11)), (ga 23, .inl (gc 23, 3, .inl a23))]) [0, 1, 2, 3, 4] (by decide) rfl
          exact cc1_90_1 w1 w2 w3 (w5 + (1 : Int32)) _ _ _ h19 h29 h39 htr hSq hl hP hD hS
  have cb55_1 : ∀ (w1 : Int32) (w2 : Int32) (w3 : Int32) (ls : Array Slot) (H : Heap) (locs : List Loc), w1 = ts a11 a23 3 → i012 w2 → (w2 = -1 → w3 = ts a11 a23 1) → SP = s_M_compareDigests_cb55_1 a8 a10 a11 a23 w1 w2 w3 →  lv_has ls 7 [(0, .ref m0), (1, .int w1), (2, .int w2), (3, .int w3), (4, .int 1)] → va_P (dC, dI) classes [(m0, .inr (6, oM ga uM cn sn cm us wt oc ou ow)), (ga 8, .inl (gc 8, 24, .inl a8)), (ga 10, .inl (gc 10, 3, .inl a10)), (ga 11, .inl (gc 11, 3, .inl a11)), (ga 23, .inl (gc 23, 3, .inl a23))] H → va_D A [(m0, .inr (6, oM ga uM cn sn cm us wt oc ou ow)), (ga 8, .inl (gc 8, 24, .inl a8)), (ga 10, .inl (gc 10, 3, .inl a10)), (ga 11, .inl (gc 11, 3, .inl a11)), (ga 23, .inl (gc 23, 3, .inl a23))] → va_S A s.heap H locs → W p l e (headSpec (tbw y_M_compareDigests b_M_compareDigests 7 (some .boolean)) ({ frames := 1, cells := 0, slots := 0, locals := 24 })).room s m ([.ref m0] : List Value).toArray below meth c H locs 0 0 (MQ below (va_Qi (fun (r : Int32) (u9 : (Nat → Int32)) => match u9 with | a23n => (True) ∧ (r, a23n) = SP) (fun (u9 : (Nat → Int32)) t => match u9 with | a23n => va_P (dC, dI) classes [(m0, .inr (6, oM ga uM cn sn cm us wt oc ou ow)), (ga 8, .inl (gc 8, 24, .inl a8)), (ga 10, .inl (gc 10, 3, .inl a10)), (ga 11, .inl (gc 11, 3, .inl a11)), (ga 23, .inl (gc 23, 3, .inl a23n))] t.heap ∧ va_K (dC, dI) classes [(gc 8, .int), (gc 10, .int), (gc 11, .int), (gc 23, .boolean)] t ∧ va_D A [(m0, .inr (6, oM ga uM cn sn cm us wt oc ou ow)), (ga 8, .inl (gc 8, 24, .inl a8)), (ga 10, .inl (gc 10, 3, .inl a10)), (ga 11, .inl (gc 11, 3, .inl a11)), (ga 23, .inl (gc 23, 3, .inl a23n))]) A) ([.ref m0] : List Value).toArray s 0 0 A) (F0 m 55 ls []) := by
    intro w1 w2 w3 ls H locs h19 h29 h39 hSq0 hl hP hD hS
    clear cb55_3 cc2_90_3 cc2_90_2 cc2_90_1 cc2_90_0 cc1_90_3 cc1_90_2 cc1_90_1
    refine lv_iload hx hb d_M_compareDigests_55 (lv_at hl 4 rfl) ?_
    refine lv_iconst (v := 3) hx hb d_M_compareDigests_57 (by decide) ?_
    refine lv_icmp_ge (tgt := 174) hx hb d_M_compareDigests_58 rfl (fun hc52 => by first | exact absurd hc52 (by decide) | exact absurd (by decide) hc52) (fun hc52 => ?_)
    refine lv_aload_n hx hb d_M_compareDigests_61 rfl (lv_at hl 0 rfl) ?_
    refine va_get (D := (dC, dI)) (ci := 6) (v := .ref (ga 11)) (C := "VotedTripleModel") (T := F_M) (N := 37) hx hb hw in_M hown hK hP 0 rfl rfl 11 (by decide) (hw _ k_735) (fun _ h9 => h9) rfl d_M_compareDigests_62 ?_
    refine lv_iload hx hb d_M_compareDigests_65 (lv_at hl 4 rfl) ?_
    refine va_iald hx hb hK hP 3 2 rfl rfl (by unfold vp_in; decide) d_M_compareDigests_67 ?_
    refine W.eq (g2 := F0 m 68 ls [.int (a11 1)]) rfl ?_
    refine lv_if_ne (tgt := 168) hx hb d_M_compareDigests_68 rfl (fun hc53 => ?_) (fun hc53 => ?_)
    · --  ¬ (a11 1) = 0
      refine lv_iinc (k := 4) (v := 2) hx hb d_M_compareDigests_168 hl rfl rfl (by decide) rfl (fun ls hl => ?_)
      replace hl : lv_has ls 7 [(4, .int 2), (0, .ref m0), (1, .int w1), (2, .int w2), (3, .int w3)] := hl
      refine lv_goto (tgt := 55) hx hb d_M_compareDigests_171 rfl ?_
      have hSq : SP = s_M_compareDigests_cb55_2 a8 a10 a11 a23 w1 w2 w3 := by rw [hSq0, s_M_compareDigests_cb55_1]; try (rw [if_neg hc53]); all_goals rfl
      replace hl := lv_sub hl (l' := [(0, .ref m0), (1, .int w1), (2, .int w2), (3, .int w3), (4, .int 2)]) [1, 2, 3, 4, 0] rfl
      replace hP := hP.sub (ws' := [(m0, .inr (6, oM ga uM cn sn cm us wt oc ou ow)), (ga 8, .inl (gc 8, 24, .inl a8)), (ga 10, .inl (gc 10, 3, .inl a10)), (ga 11, .inl (gc 11, 3, .inl a11)), (ga 23, .inl (gc 23, 3, .inl a23))]) [0, 1, 2, 3, 4] rfl
      replace hD := hD.sub (ws' := [(m0, .inr (6, oM ga uM cn sn cm us wt oc ou ow)), (ga 8, .inl (gc 8, 24, .inl a8)), (ga 10, .inl (gc 10, 3, .inl a10)), (ga 11, .inl (gc 11, 3, .inl a11)), (ga 23, .inl (gc 23, 3, .inl a23))]) [0, 1, 2, 3, 4] (by decide) rfl
      exact cb55_2 w1 w2 w3 _ _ _ h19 h29 (fun q => ts_0' (h39 q) (fun q => hc53 q.1)) hSq hl hP hD hS
    · --  (a11 1) = 0
      refine lv_aload_n hx hb d_M_compareDigests_71 rfl (lv_at hl 0 rfl) ?_
      refine va_get (D := (dC, dI)) (ci := 6) (v := .ref (ga 23)) (C := "VotedTripleModel") (T := F_M) (N := 37) hx hb hw in_M hown hK hP 0 rfl rfl 23 (by decide) (hw _ k_747) (fun _ h9 => h9) rfl d_M_compareDigests_72 ?_
      refine lv_iload hx hb d_M_compareDigests_75 (lv_at hl 4 rfl) ?_
      refine va_zald hx hb hK hP 4 3 rfl rfl (by unfold vp_in; decide) d_M_compareDigests_77 ?_
      refine W.eq (g2 := F0 m 78 ls [.int (a23 1)]) rfl ?_
      refine lv_if_eq (tgt := 84) hx hb d_M_compareDigests_78 rfl (fun hc54 => ?_) (fun hc54 => ?_)
      · --  (a23 1) = 0
        refine lv_iconst (v := 0) hx hb d_M_compareDigests_84 (by decide) ?_
        refine lv_istore hx hb d_M_compareDigests_85 hl (by decide) rfl (fun ls hl => ?_)
        replace hl : lv_has ls 7 [(5, .int 0), (0, .ref m0), (1, .int w1), (2, .int w2), (3, .int w3), (4, .int 1)] := hl
        refine lv_iconst (v := 0) hx hb d_M_compareDigests_87 (by decide) ?_
        refine lv_istore hx hb d_M_compareDigests_88 hl (by decide) rfl (fun ls hl => ?_)
        replace hl : lv_has ls 7 [(6, .int 0), (5, .int 0), (0, .ref m0), (1, .int w1), (2, .int w2), (3, .int w3), (4, .int 1)] := hl
        have hSq : SP = s_M_compareDigests_cc1_90_0 a8 a10 a11 a23 w1 w2 w3 0 := by rw [hSq0, s_M_compareDigests_cb55_1]; try (rw [if_pos hc53]); try (rw [if_pos hc54]); all_goals rfl
        replace hl := lv_sub hl (l' := [(0, .ref m0), (1, .int w1), (2, .int w2), (3, .int w3), (4, .int 1), (5, .int 0), (6, .int 0)]) [2, 3, 4, 5, 6, 1, 0] rfl
        replace hP := hP.sub (ws' := [(m0, .inr (6, oM ga uM cn sn cm us wt oc ou ow)), (ga 8, .inl (gc 8, 24, .inl a8)), (ga 10, .inl (gc 10, 3, .inl a10)), (ga 11, .inl (gc 11, 3, .inl a11)), (ga 23, .inl (gc 23, 3, .inl a23))]) [0, 1, 2, 3, 4] rfl
        replace hD := hD.sub (ws' := [(m0, .inr (6, oM ga uM cn sn cm us wt oc ou ow)), (ga 8, .inl (gc 8, 24, .inl a8)), (ga 10, .inl (gc 10, 3, .inl a10)), (ga 11, .inl (gc 11, 3, .inl a11)), (ga 23, .inl (gc 23, 3, .inl a23))]) [0, 1, 2, 3, 4] (by decide) rfl
        exact cc1_90_0 w1 w2 w3 0 _ _ _ h19 h29 h39 (⟨hc53, hc54⟩) hSq hl hP hD hS
      · --  ¬ (a23 1) = 0
        refine lv_goto (tgt := 168) hx hb d_M_compareDigests_81 rfl ?_
        refine lv_iinc (k := 4) (v := 2) hx hb d_M_compareDigests_168 hl rfl rfl (by decide) rfl (fun ls hl => ?_)
        replace hl : lv_has ls 7 [(4, .int 2), (0, .ref m0), (1, .int w1), (2, .int w2), (3, .int w3)] := hl
        refine lv_goto (tgt := 55) hx hb d_M_compareDigests_171 rfl ?_
        have hSq : SP = s_M_compareDigests_cb55_2 a8 a10 a11 a23 w1 w2 w3 := by rw [hSq0, s_M_compareDigests_cb55_1]; try (rw [if_pos hc53]); try (rw [if_neg hc54]); all_goals rfl
        replace hl := lv_sub hl (l' := [(0, .ref m0), (1, .int w1), (2, .int w2), (3, .int w3), (4, .int 2)]) [1, 2, 3, 4, 0] rfl
        replace hP := hP.sub (ws' := [(m0, .inr (6, oM ga uM cn sn cm us wt oc ou ow)), (ga 8, .inl (gc 8, 24, .inl a8)), (ga 10, .inl (gc 10, 3, .inl a10)), (ga 11, .inl (gc 11, 3, .inl a11)), (ga 23, .inl (gc 23, 3, .inl a23))]) [0, 1, 2, 3, 4] rfl
        replace hD := hD.sub (ws' := [(m0, .inr (6, oM ga uM cn sn cm us wt oc ou ow)), (ga 8, .inl (gc 8, 24, .inl a8)), (ga 10, .inl (gc 10, 3, .inl a10)), (ga 11, .inl (gc 11, 3, .inl a11)), (ga 23, .inl (gc 23, 3, .inl a23))]) [0, 1, 2, 3, 4] (by decide) rfl
        exact cb55_2 w1 w2 w3 _ _ _ h19 h29 (fun q => ts_0' (h39 q) (fun q => hc54 q.2)) hSq hl hP hD hS
  have cc0_90_3 : ∀ (w1 : Int32) (w2 : Int32) (w3 : Int32) (w5 : Int32) (ls : Array Slot) (H : Heap) (locs : List Loc), w1 = ts a11 a23 3 → i012 w2 → (w2 = -1 → w3 = ts a11 a23 0) → (a11 0 = 0 ∧ a23 0 = 0) → SP = s_M_compareDigests_cc0_90_3 a8 a10 a11 a23 w1 w2 w3 w5 →  lv_has ls 7 [(0, .ref m0), (1, .int w1), (2, .int w2), (3, .int w3), (4, .int 0), (5, .int w5), (6, .int 3)] → va_P (dC, dI) classes [(m0, .inr (6, oM ga uM cn sn cm us wt oc ou ow)), (ga 8, .inl (gc 8, 24, .inl a8)), (ga 10, .inl (gc 10, 3, .inl a10)), (ga 11, .inl (gc 11, 3, .inl a11)), (ga 23, .inl (gc 23, 3, .inl a23))] H → va_D A [(m0, .inr (6, oM ga uM cn sn cm us wt oc ou ow)), (ga 8, .inl (gc 8, 24, .inl a8)), (ga 10, .inl (gc 10, 3, .inl a10)), (ga 11, .inl (gc 11, 3, .inl a11)), (ga 23, .inl (gc 23, 3, .inl a23))] → va_S A s.heap H locs → W p l e (headSpec (tbw y_M_compareDigests b_M_compareDigests 7 (some .boolean)) ({ frames := 1, cells := 0, slots := 0, locals := 24 })).room s m ([.ref m0] : List Value).toArray below meth c H locs 0 0 (MQ below (va_Qi (fun (r : Int32) (u9 : (Nat → Int32)) => match u9 with | a23n => (True) ∧ (r, a23n) = SP) (fun (u9 : (Nat → Int32)) t => match u9 with | a23n => va_P (dC, dI) classes [(m0, .inr (6, oM ga uM cn sn cm us wt oc ou ow)), (ga 8, .inl (gc 8, 24, .inl a8)), (ga 10, .inl (gc 10, 3, .inl a10)), (ga 11, .inl (gc 11, 3, .inl a11)), (ga 23, .inl (gc 23, 3, .inl a23n))] t.heap ∧ va_K (dC, dI) classes [(gc 8, .int), (gc 10, .int), (gc 11, .int), (gc 23, .boolean)] t ∧ va_D A [(m0, .inr (6, oM ga uM cn sn cm us wt oc ou ow)), (ga 8, .inl (gc 8, 24, .inl a8)), (ga 10, .inl (gc 10, 3, .inl a10)), (ga 11, .inl (gc 11, 3, .inl a11)), (ga 23, .inl (gc 23, 3, .inl a23n))]) A) ([.ref m0] : List Value).toArray s 0 0 A) (F0 m 90 ls []) := by
    intro w1 w2 w3 w5 ls H locs h19 h29 h39 htr hSq0 hl hP hD hS
    clear cb55_3 cc2_90_3 cc2_90_2 cc2_90_1 cc2_90_0 cb55_2 cc1_90_3 cc1_90_2 cc1_90_1 cc1_90_0
    refine lv_iload hx hb d_M_compareDigests_90 (lv_at hl 6 rfl) ?_
    refine lv_iconst (v := 3) hx hb d_M_compareDigests_92 (by decide) ?_
    refine lv_icmp_ge (tgt := 154) hx hb d_M_compareDigests_93 rfl (fun hc55 => ?_) (fun hc55 => by first | exact absurd (by decide) hc55 | exact absurd hc55 (by decide))
    refine lv_iload hx hb d_M_compareDigests_154 (lv_at hl 5 rfl) ?_
    refine lv_if_ne (tgt := 165) hx hb d_M_compareDigests_156 rfl (fun hc56 => ?_) (fun hc56 => ?_)
    · --  ¬ w5 = 0
      refine lv_iinc (k := 3) (v := w3 + 1) hx hb d_M_compareDigests_165 hl rfl rfl (by decide) rfl (fun ls hl => ?_)
      replace hl : lv_has ls 7 [(3, .int (w3 + 1)), (0, .ref m0), (1, .int w1), (2, .int w2), (4, .int 0), (5, .int w5), (6, .int 3)] := hl
      refine lv_iinc (k := 4) (v := 1) hx hb d_M_compareDigests_168 hl rfl rfl (by decide) rfl (fun ls hl => ?_)
      replace hl : lv_has ls 7 [(4, .int 1), (3, .int (w3 + 1)), (0, .ref m0), (1, .int w1), (2, .int w2), (5, .int w5), (6, .int 3)] := hl
      refine lv_goto (tgt := 55) hx hb d_M_compareDigests_171 rfl ?_
      have hSq : SP = s_M_compareDigests_cb55_1 a8 a10 a11 a23 w1 w2 (w3 + 1) := by rw [hSq0, s_M_compareDigests_cc0_90_3]; try (rw [if_neg hc56]); all_goals rfl
      replace hl := lv_sub hl (l' := [(0, .ref m0), (1, .int w1), (2, .int w2), (3, .int (w3 + 1)), (4, .int 1)]) [2, 3, 4, 1, 0] rfl
      replace hP := hP.sub (ws' := [(m0, .inr (6, oM ga uM cn sn cm us wt oc ou ow)), (ga 8, .inl (gc 8, 24, .inl a8)), (ga 10, .inl (gc 10, 3, .inl a10)), (ga 11, .inl (gc 11, 3, .inl a11)), (ga 23, .inl (gc 23, 3, .inl a23))]) [0, 1, 2, 3, 4] rfl
      replace hD := hD.sub (ws' := [(m0, .inr (6, oM ga uM cn sn cm us wt oc ou ow)), (ga 8, .inl (gc 8, 24, .inl a8)), (ga 10, .inl (gc 10, 3, .inl a10)), (ga 11, .inl (gc 11, 3, .inl a11)), (ga 23, .inl (gc 23, 3, .inl a23))]) [0, 1, 2, 3, 4] (by decide) rfl
      exact cb55_1 w1 w2 (w3 + 1) _ _ _ h19 h29 (fun q => ts_1 (h39 q) htr) hSq hl hP hD hS
    · --  w5 = 0
      refine lv_iload hx hb d_M_compareDigests_159 (lv_at hl 4 rfl) ?_
      refine lv_istore_n hx hb d_M_compareDigests_161 rfl hl (by decide) rfl (fun ls hl => ?_)
      replace hl : lv_has ls 7 [(2, .int 0), (0, .ref m0), (1, .int w1), (3, .int w3), (4, .int 0), (5, .int w5), (6, .int 3)] := hl
      refine lv_goto (tgt := 168) hx hb d_M_compareDigests_162 rfl ?_
      refine lv_iinc (k := 4) (v := 1) hx hb d_M_compareDigests_168 hl rfl rfl (by decide) rfl (fun ls hl => ?_)
      replace hl : lv_has ls 7 [(4, .int 1), (2, .int 0), (0, .ref m0), (1, .int w1), (3, .int w3), (5, .int w5), (6, .int 3)] := hl
      refine lv_goto (tgt := 55) hx hb d_M_compareDigests_171 rfl ?_
      have hSq : SP = s_M_compareDigests_cb55_1 a8 a10 a11 a23 w1 0 w3 := by rw [hSq0, s_M_compareDigests_cc0_90_3]; try (rw [if_pos hc56]); all_goals rfl
      replace hl := lv_sub hl (l' := [(0, .ref m0), (1, .int w1), (2, .int 0), (3, .int w3), (4, .int 1)]) [2, 3, 1, 4, 0] rfl
      replace hP := hP.sub (ws' := [(m0, .inr (6, oM ga uM cn sn cm us wt oc ou ow)), (ga 8, .inl (gc 8, 24, .inl a8)), (ga 10, .inl (gc 10, 3, .inl a10)), (ga 11, .inl (gc 11, 3, .inl a11)), (ga 23, .inl (gc 23, 3, .inl a23))]) [0, 1, 2, 3, 4] rfl
      replace hD := hD.sub (ws' := [(m0, .inr (6, oM ga uM cn sn cm us wt oc ou ow)), (ga 8, .inl (gc 8, 24, .inl a8)), (ga 10, .inl (gc 10, 3, .inl a10)), (ga 11, .inl (gc 11, 3, .inl a11)), (ga 23, .inl (gc 23, 3, .inl a23))]) [0, 1, 2, 3, 4] (by decide) rfl
      exact cb55_1 w1 0 w3 _ _ _ h19 (Or.inr (Or.inl rfl)) (fun q => absurd q (by decide)) hSq hl hP hD hS
  have cc0_90_2 : ∀ (w1 : Int32) (w2 : Int32) (w3 : Int32) (w5 : Int32) (ls : Array Slot) (H : Heap) (locs : List Loc), w1 = ts a11 a23 3 → i012 w2 → (w2 = -1 → w3 = ts a11 a23 0) → (a11 0 = 0 ∧ a23 0 = 0) → SP = s_M_compareDigests_cc0_90_2 a8 a10 a11 a23 w1 w2 w3 w5 →  lv_has ls 7 [(0, .ref m0), (1, .int w1), (2, .int w2), (3, .int w3), (4, .int 0), (5, .int w5), (6, .int 2)] → va_P (dC, dI) classes [(m0, .inr (6, oM ga uM cn sn cm us wt oc ou ow)), (ga 8, .inl (gc 8, 24, .inl a8)), (ga 10, .inl (gc 10, 3, .inl a10)), (ga 11, .inl (gc 11, 3, .inl a11)), (ga 23, .inl (gc 23, 3, .inl a23))] H → va_D A [(m0, .inr (6, oM ga uM cn sn cm us wt oc ou ow)), (ga 8, .inl (gc 8, 24, .inl a8)), (ga 10, .inl (gc 10, 3, .inl a10)), (ga 11, .inl (gc 11, 3, .inl a11)), (ga 23, .inl (gc 23, 3, .inl a23))] → va_S A s.heap H locs → W p l e (headSpec (tbw y_M_compareDigests b_M_compareDigests 7 (some .boolean)) ({ frames := 1, cells := 0, slots := 0, locals := 24 })).room s m ([.ref m0] : List Value).toArray below meth c H locs 0 0 (MQ below (va_Qi (fun (r : Int32) (u9 : (Nat → Int32)) => match u9 with | a23n => (True) ∧ (r, a23n) = SP) (fun (u9 : (Nat → Int32)) t => match u9 with | a23n => va_P (dC, dI) classes [(m0, .inr (6, oM ga uM cn sn cm us wt oc ou ow)), (ga 8, .inl (gc 8, 24, .inl a8)), (ga 10, .inl (gc 10, 3, .inl a10)), (ga 11, .inl (gc 11, 3, .inl a11)), (ga 23, .inl (gc 23, 3, .inl a23n))] t.heap ∧ va_K (dC, dI) classes [(gc 8, .int), (gc 10, .int), (gc 11, .int), (gc 23, .boolean)] t ∧ va_D A [(m0, .inr (6, oM ga uM cn sn cm us wt oc ou ow)), (ga 8, .inl (gc 8, 24, .inl a8)), (ga 10, .inl (gc 10, 3, .inl a10)), (ga 11, .inl (gc 11, 3, .inl a11)), (ga 23, .inl (gc 23, 3, .inl a23n))]) A) ([.ref m0] : List Value).toArray s 0 0 A) (F0 m 90 ls []) := by
    intro w1 w2 w3 w5 ls H locs h19 h29 h39 htr hSq0 hl hP hD hS
    clear cb55_3 cc2_90_3 cc2_90_2 cc2_90_1 cc2_90_0 cb55_2 cc1_90_3 cc1_90_2 cc1_90_1 cc1_90_0 cb55_1
    refine lv_iload hx hb d_M_compareDigests_90 (lv_at hl 6 rfl) ?_
    refine lv_iconst (v := 3) hx hb d_M_compareDigests_92 (by decide) ?_
    refine lv_icmp_ge (tgt := 154) hx hb d_M_compareDigests_93 rfl (fun hc57 => by first | exact absurd hc57 (by decide) | exact absurd (by decide) hc57) (fun hc57 => ?_)
    refine lv_iload hx hb d_M_compareDigests_96 (lv_at hl 5 rfl) ?_
    refine lv_iload hx hb d_M_compareDigests_98 (lv_at hl 6 rfl) ?_
    refine lv_iload hx hb d_M_compareDigests_100 (lv_at hl 4 rfl) ?_
    refine lv_icmp_eq (tgt := 144) hx hb d_M_compareDigests_102 rfl (fun hc58 => by first | exact absurd hc58 (by decide) | exact absurd (by decide) hc58) (fun hc58 => ?_)
    refine lv_aload_n hx hb d_M_compareDigests_105 rfl (lv_at hl 0 rfl) ?_
    refine va_get (D := (dC, dI)) (ci := 6) (v := .ref (ga 11)) (C := "VotedTripleModel") (T := F_M) (N := 37) hx hb hw in_M hown hK hP 0 rfl rfl 11 (by decide) (hw _ k_735) (fun _ h9 => h9) rfl d_M_compareDigests_106 ?_
    refine lv_iload hx hb d_M_compareDigests_109 (lv_at hl 6 rfl) ?_
    refine va_iald hx hb hK hP 3 2 rfl rfl (by unfold vp_in; decide) d_M_compareDigests_111 ?_
    refine W.eq (g2 := F0 m 112 ls [.int (a11 2), .int w5]) rfl ?_
    refine lv_if_ne (tgt := 144) hx hb d_M_compareDigests_112 rfl (fun hc59 => ?_) (fun hc59 => ?_)
    · --  ¬ (a11 2) = 0
      refine lv_iconst (v := 0) hx hb d_M_compareDigests_144 (by decide) ?_
      refine lv_iadd hx hb d_M_compareDigests_145 ?_
      refine lv_istore hx hb d_M_compareDigests_146 hl (by decide) rfl (fun ls hl => ?_)
      replace hl : lv_has ls 7 [(5, .int (w5 + (0 : Int32))), (0, .ref m0), (1, .int w1), (2, .int w2), (3, .int w3), (4, .int 0), (6, .int 2)] := hl
      refine lv_iinc (k := 6) (v := 3) hx hb d_M_compareDigests_148 hl rfl rfl (by decide) rfl (fun ls hl => ?_)
      replace hl : lv_has ls 7 [(6, .int 3), (5, .int (w5 + (0 : Int32))), (0, .ref m0), (1, .int w1), (2, .int w2), (3, .int w3), (4, .int 0)] := hl
      refine lv_goto (tgt := 90) hx hb d_M_compareDigests_151 rfl ?_
      have hSq : SP = s_M_compareDigests_cc0_90_3 a8 a10 a11 a23 w1 w2 w3 (w5 + (0 : Int32)) := by rw [hSq0, s_M_compareDigests_cc0_90_2]; try (rw [if_neg hc59]); all_goals rfl
      replace hl := lv_sub hl (l' := [(0, .ref m0), (1, .int w1), (2, .int w2), (3, .int w3), (4, .int 0), (5, .int (w5 + (0 : Int32))), (6, .int 3)]) [2, 3, 4, 5, 6, 1, 0] rfl
      replace hP := hP.sub (ws' := [(m0, .inr (6, oM ga uM cn sn cm us wt oc ou ow)), (ga 8, .inl (gc 8, 24, .inl a8)), (ga 10, .inl (gc 10, 3, .inl a10)), (ga 11, .inl (gc 11, 3, .inl a11)), (ga 23, .inl (gc 23, 3, .inl a23))]) [0, 1, 2, 3, 4] rfl
      replace hD := hD.sub (ws' := [(m0, .inr (6, oM ga uM cn sn cm us wt oc ou ow)), (ga 8, .inl (gc 8, 24, .inl a8)), (ga 10, .inl (gc 10, 3, .inl a10)), (ga 11, .inl (gc 11, 3, .inl a11)), (ga 23, .inl (gc 23, 3, .inl a23))]) [0, 1, 2, 3, 4] (by decide) rfl
      exact cc0_90_3 w1 w2 w3 (w5 + (0 : Int32)) _ _ _ h19 h29 h39 htr hSq hl hP hD hS
    · --  (a11 2) = 0
      refine lv_aload_n hx hb d_M_compareDigests_115 rfl (lv_at hl 0 rfl) ?_
      refine va_get (D := (dC, dI)) (ci := 6) (v := .ref (ga 23)) (C := "VotedTripleModel") (T := F_M) (N := 37) hx hb hw in_M hown hK hP 0 rfl rfl 23 (by decide) (hw _ k_747) (fun _ h9 => h9) rfl d_M_compareDigests_116 ?_
      refine lv_iload hx hb d_M_compareDigests_119 (lv_at hl 6 rfl) ?_
      refine va_zald hx hb hK hP 4 3 rfl rfl (by unfold vp_in; decide) d_M_compareDigests_121 ?_
      refine W.eq (g2 := F0 m 122 ls [.int (a23 2), .int w5]) rfl ?_
      refine lv_if_ne (tgt := 144) hx hb d_M_compareDigests_122 rfl (fun hc60 => ?_) (fun hc60 => ?_)
      · --  ¬ (a23 2) = 0
        refine lv_iconst (v := 0) hx hb d_M_compareDigests_144 (by decide) ?_
        refine lv_iadd hx hb d_M_compareDigests_145 ?_
        refine lv_istore hx hb d_M_compareDigests_146 hl (by decide) rfl (fun ls hl => ?_)
        replace hl : lv_has ls 7 [(5, .int (w5 + (0 : Int32))), (0, .ref m0), (1, .int w1), (2, .int w2), (3, .int w3), (4, .int 0), (6, .int 2)] := hl
        refine lv_iinc (k := 6) (v := 3) hx hb d_M_compareDigests_148 hl rfl rfl (by decide) rfl (fun ls hl => ?_)
        replace hl : lv_has ls 7 [(6, .int 3), (5, .int (w5 + (0 : Int32))), (0, .ref m0), (1, .int w1), (2, .int w2), (3, .int w3), (4, .int 0)] := hl
        refine lv_goto (tgt := 90) hx hb d_M_compareDigests_151 rfl ?_
        have hSq : SP = s_M_compareDigests_cc0_90_3 a8 a10 a11 a23 w1 w2 w3 (w5 + (0 : Int32)) := by rw [hSq0, s_M_compareDigests_cc0_90_2]; try (rw [if_pos hc59]); try (rw [if_neg hc60]); all_goals rfl
        replace hl := lv_sub hl (l' := [(0, .ref m0), (1, .int w1), (2, .int w2), (3, .int w3), (4, .int 0), (5, .int (w5 + (0 : Int32))), (6, .int 3)]) [2, 3, 4, 5, 6, 1, 0] rfl
        replace hP := hP.sub (ws' := [(m0, .inr (6, oM ga uM cn sn cm us wt oc ou ow)), (ga 8, .inl (gc 8, 24, .inl a8)), (ga 10, .inl (gc 10, 3, .inl a10)), (ga 11, .inl (gc 11, 3, .inl a11)), (ga 23, .inl (gc 23, 3, .inl a23))]) [0, 1, 2, 3, 4] rfl
        replace hD := hD.sub (ws' := [(m0, .inr (6, oM ga uM cn sn cm us wt oc ou ow)), (ga 8, .inl (gc 8, 24, .inl a8)), (ga 10, .inl (gc 10, 3, .inl a10)), (ga 11, .inl (gc 11, 3, .inl a11)), (ga 23, .inl (gc 23, 3, .inl a23))]) [0, 1, 2, 3, 4] (by decide) rfl
        exact cc0_90_3 w1 w2 w3 (w5 + (0 : Int32)) _ _ _ h19 h29 h39 htr hSq hl hP hD hS
      · --  (a23 2) = 0
        refine lv_aload_n hx hb d_M_compareDigests_125 rfl (lv_at hl 0 rfl) ?_
        refine lv_iload hx hb d_M_compareDigests_126 (lv_at hl 6 rfl) ?_
        replace hPc := hP.sub (ws' := [(m0, .inr (6, oM ga uM cn sn cm us wt oc ou ow)), (ga 8, .inl (gc 8, 24, .inl a8)), (ga 10, .inl (gc 10, 3, .inl a10))]) [0, 1, 2] rfl
        replace hKc := hK.sub (tys' := [(gc 8, .int), (gc 10, .int)]) [0, 1] rfl
        refine vp_callSi (va_runV (C := "VotedTripleModel") (As := [.int 2]) (rest := [.int w5]) ⟨hx, hb, hml, hown, hw⟩ (c_M_digest l dC dI m0 ga gc uM cn sn cm us wt oc ou ow a8 a10 2 2 rfl (by decide)) (cwV 1 hw (gdV (k_931) (k_928) (k_930) (ks_35) (k_8)) rfl rfl rfl (by decide +kernel) ⟨Nat.le_of_ble_eq_true rfl, Nat.le_of_ble_eq_true rfl⟩) ⟨fun a U g mk q => ⟨q.1, q.2.1, va_K.moved (u := U) (U := U.calling g mk a) (Vm.Alike.refl U.vm) q.2.2⟩, va_recv hK hP rfl (q0 := 0) rfl, fun U hU hW => ⟨rfl, by rw [hU]; exact hPc, va_K.moved hW.alike hKc⟩⟩ rfl rfl hl.1 rfl (lv_room (Nat.le_of_ble_eq_true rfl)) d_M_compareDigests_128 ⟨Nat.le_of_ble_eq_true rfl, Nat.le_of_ble_eq_true rfl⟩).run (fun r61 hr62 => ?_)
        obtain ⟨hr62, hr62E⟩ := hr62
        refine lv_aload_n hx hb d_M_compareDigests_131 rfl (lv_at hl 0 rfl) ?_
        refine lv_iload hx hb d_M_compareDigests_132 (lv_at hl 4 rfl) ?_
        replace hPc := hP.sub (ws' := [(m0, .inr (6, oM ga uM cn sn cm us wt oc ou ow)), (ga 8, .inl (gc 8, 24, .inl a8)), (ga 10, .inl (gc 10, 3, .inl a10))]) [0, 1, 2] rfl
        replace hKc := hK.sub (tys' := [(gc 8, .int), (gc 10, .int)]) [0, 1] rfl
        refine vp_callSi (va_runV (C := "VotedTripleModel") (As := [.int 0]) (rest := [.int r61, .int w5]) ⟨hx, hb, hml, hown, hw⟩ (c_M_digest l dC dI m0 ga gc uM cn sn cm us wt oc ou ow a8 a10 0 0 rfl (by decide)) (cwV 1 hw (gdV (k_931) (k_928) (k_930) (ks_35) (k_8)) rfl rfl rfl (by decide +kernel) ⟨Nat.le_of_ble_eq_true rfl, Nat.le_of_ble_eq_true rfl⟩) ⟨fun a U g mk q => ⟨q.1, q.2.1, va_K.moved (u := U) (U := U.calling g mk a) (Vm.Alike.refl U.vm) q.2.2⟩, va_recv hK hP rfl (q0 := 0) rfl, fun U hU hW => ⟨rfl, by rw [hU]; exact hPc, va_K.moved hW.alike hKc⟩⟩ rfl rfl hl.1 rfl (lv_room (Nat.le_of_ble_eq_true rfl)) d_M_compareDigests_134 ⟨Nat.le_of_ble_eq_true rfl, Nat.le_of_ble_eq_true rfl⟩).run (fun r63 hr64 => ?_)
        obtain ⟨hr64, hr64E⟩ := hr64
        refine lv_icmp_ne (tgt := 144) hx hb d_M_compareDigests_137 rfl (fun hc65 => ?_) (fun hc65 => ?_)
        · --  ¬ r61 = r63
          refine lv_iconst (v := 0) hx hb d_M_compareDigests_144 (by decide) ?_
          refine lv_iadd hx hb d_M_compareDigests_145 ?_
          refine lv_istore hx hb d_M_compareDigests_146 hl (by decide) rfl (fun ls hl => ?_)
          replace hl : lv_has ls 7 [(5, .int (w5 + (0 : Int32))), (0, .ref m0), (1, .int w1), (2, .int w2), (3, .int w3), (4, .int 0), (6, .int 2)] := hl
          refine lv_iinc (k := 6) (v := 3) hx hb d_M_compareDigests_148 hl rfl rfl (by decide) rfl (fun ls hl => ?_)
          replace hl : lv_has ls 7 [(6, .int 3), (5, .int (w5 + (0 : Int32))), (0, .ref m0), (1, .int w1), (2, .int w2), (3, .int w3), (4, .int 0)] := hl
          refine lv_goto (tgt := 90) hx hb d_M_compareDigests_151 rfl ?_
          have hSq : SP = s_M_compareDigests_cc0_90_3 a8 a10 a11 a23 w1 w2 w3 (w5 + (0 : Int32)) := by rw [hSq0, s_M_compareDigests_cc0_90_2]; try (rw [if_pos hc59]); try (rw [if_pos hc60]); try (rw [← hr62E, bnd_eq]); try (rw [← hr64E, bnd_eq]); try (rw [if_neg hc65]); all_goals rfl
          replace hl := lv_sub hl (l' := [(0, .ref m0), (1, .int w1), (2, .int w2), (3, .int w3), (4, .int 0), (5, .int (w5 + (0 : Int32))), (6, .int 3)]) [2, 3, 4, 5, 6, 1, 0] rfl
          replace hP := hP.sub (ws' := [(m0, .inr (6, oM ga uM cn sn cm us wt oc ou ow)), (ga 8, .inl (gc 8, 24, .inl a8)), (ga 10, .inl (gc 10, 3, .inl a10)), (ga 11, .inl (gc 11, 3, .inl a11)), (ga 23, .inl (gc 23, 3, .inl a23))]) [0, 1, 2, 3, 4] rfl
          replace hD := hD.sub (ws' := [(m0, .inr (6, oM ga uM cn sn cm us wt oc ou ow)), (ga 8, .inl (gc 8, 24, .inl a8)), (ga 10, .inl (gc 10, 3, .inl a10)), (ga 11, .inl (gc 11, 3, .inl a11)), (ga 23, .inl (gc 23, 3, .inl a23))]) [0, 1, 2, 3, 4] (by decide) rfl
          exact cc0_90_3 w1 w2 w3 (w5 + (0 : Int32)) _ _ _ h19 h29 h39 htr hSq hl hP hD hS
        · --  r61 = r63
          refine lv_iconst (v := 1) hx hb d_M_compareDigests_140 (by decide) ?_
          refine lv_goto (tgt := 145) hx hb d_M_compareDigests_141 rfl ?_
          refine lv_iadd hx hb d_M_compareDigests_145 ?_
          refine lv_istore hx hb d_M_compareDigests_146 hl (by decide) rfl (fun ls hl => ?_)
          replace hl : lv_has ls 7 [(5, .int (w5 + (1 : Int32))), (0, .ref m0), (1, .int w1), (2, .int w2), (3, .int w3), (4, .int 0), (6, .int 2)] := hl
          refine lv_iinc (k := 6) (v := 3) hx hb d_M_compareDigests_148 hl rfl rfl (by decide) rfl (fun ls hl => ?_)
          replace hl : lv_has ls 7 [(6, .int 3), (5, .int (w5 + (1 : Int32))), (0, .ref m0), (1, .int w1), (2, .int w2), (3, .int w3), (4, .int 0)] := hl
          refine lv_goto (tgt := 90) hx hb d_M_compareDigests_151 rfl ?_
          have hSq : SP = s_M_compareDigests_cc0_90_3 a8 a10 a11 a23 w1 w2 w3 (w5 + (1 : Int32)) := by rw [hSq0, s_M_compareDigests_cc0_90_2]; try (rw [if_pos hc59]); try (rw [if_pos hc60]); try (rw [← hr62E, bnd_eq]); try (rw [← hr64E, bnd_eq]); try (rw [if_pos hc65]); all_goals rfl
          replace hl := lv_sub hl (l' := [(0, .ref m0), (1, .int w1), (2, .int w2), (3, .int w3), (4, .int 0), (5, .int (w5 + (1 : Int32))), (6, .int 3)]) [2, 3, 4, 5, 6, 1, 0] rfl
          replace hP := hP.sub (ws' := [(m0, .inr (6, oM ga uM cn sn cm us wt oc ou ow)), (ga 8, .inl (gc 8, 24, .inl a8)), (ga 10, .inl (gc 10, 3, .inl a10)), (ga 11, .inl (gc 11, 3, .inl a11)), (ga 23, .inl (gc 23, 3, .inl a23))]) [0, 1, 2, 3, 4] rfl
          replace hD := hD.sub (ws' := [(m0, .inr (6, oM ga uM cn sn cm us wt oc ou ow)), (ga 8, .inl (gc 8, 24, .inl a8)), (ga 10, .inl (gc 10, 3, .inl a10)), (ga 11, .inl (gc 11, 3, .inl a11)), (ga 23, .inl (gc 23, 3, .inl a23))]) [0, 1, 2, 3, 4] (by decide) rfl
          exact cc0_90_3 w1 w2 w3 (w5 + (1 : Int32)) _ _ _ h19 h29 h39 htr hSq hl hP hD hS
  have cc0_90_1 : ∀ (w1 : Int32) (w2 : Int32) (w3 : Int32) (w5 : Int32) (ls : Array Slot) (H : Heap) (locs : List Loc), w1 = ts a11 a23 3 → i012 w2 → (w2 = -1 → w3 = ts a11 a23 0) → (a11 0 = 0 ∧ a23 0 = 0) → SP = s_M_compareDigests_cc0_90_1 a8 a10 a11 a23 w1 w2 w3 w5 →  lv_has ls 7 [(0, .ref m0), (1, .int w1), (2, .int w2), (3, .int w3), (4, .int 0), (5, .int w5), (6, .int 1)] → va_P (dC, dI) classes [(m0, .inr (6, oM ga uM cn sn cm us wt oc ou ow)), (ga 8, .inl (gc 8, 24, .inl a8)), (ga 10, .inl (gc 10, 3, .inl a10)), (ga 11, .inl (gc 11, 3, .inl a11)), (ga 23, .inl (gc 23, 3, .inl a23))] H → va_D A [(m0, .inr (6, oM ga uM cn sn cm us wt oc ou ow)), (ga 8, .inl (gc 8, 24, .inl a8)), (ga 10, .inl (gc 10, 3, .inl a10)), (ga 11, .inl (gc 11, 3, .inl a11)), (ga 23, .inl (gc 23, 3, .inl a23))] → va_S A s.heap H locs → W p l e (headSpec (tbw y_M_compareDigests b_M_compareDigests 7 (some .boolean)) ({ frames := 1, cells := 0, slots := 0, locals := 24 })).room s m ([.ref m0] : List Value).toArray below meth c H locs 0 0 (MQ below (va_Qi (fun (r : Int32) (u9 : (Nat → Int32)) => match u9 with | a23n => (True) ∧ (r, a23n) = SP) (fun (u9 : (Nat → Int32)) t => match u9 with | a23n => va_P (dC, dI) classes [(m0, .inr (6, oM ga uM cn sn cm us wt oc ou ow)), (ga 8, .inl (gc 8, 24, .inl a8)), (ga 10, .inl (gc 10, 3, .inl a10)), (ga 11, .inl (gc 11, 3, .inl a11)), (ga 23, .inl (gc 23, 3, .inl a23n))] t.heap ∧ va_K (dC, dI) classes [(gc 8, .int), (gc 10, .int), (gc 11, .int), (gc 23, .boolean)] t ∧ va_D A [(m0, .inr (6, oM ga uM cn sn cm us wt oc ou ow)), (ga 8, .inl (gc 8, 24, .inl a8)), (ga 10, .inl (gc 10, 3, .inl a10)), (ga 11, .inl (gc 11, 3, .inl a11)), (ga 23, .inl (gc 23, 3, .inl a23n))]) A) ([.ref m0] : List Value).toArray s 0 0 A) (F0 m 90 ls []) := by
    intro w1 w2 w3 w5 ls H locs h19 h29 h39 htr hSq0 hl hP hD hS
    clear cb55_3 cc2_90_3 cc2_90_2 cc2_90_1 cc2_90_0 cb55_2 cc1_90_3 cc1_90_2 cc1_90_1 cc1_90_0 cb55_1 cc0_90_3
    refine lv_iload hx hb d_M_compareDigests_90 (lv_at hl 6 rfl) ?_
    refine lv_iconst (v := 3) hx hb d_M_compareDigests_92 (by decide) ?_
    refine lv_icmp_ge (tgt := 154) hx hb d_M_compareDigests_93 rfl (fun hc66 => by first | exact absurd hc66 (by decide) | exact absurd (by decide) hc66) (fun hc66 => ?_)
    refine lv_iload hx hb d_M_compareDigests_96 (lv_at hl 5 rfl) ?_
    refine lv_iload hx hb d_M_compareDigests_98 (lv_at hl 6 rfl) ?_
    refine lv_iload hx hb d_M_compareDigests_100 (lv_at hl 4 rfl) ?_
    refine lv_icmp_eq (tgt := 144) hx hb d_M_compareDigests_102 rfl (fun hc67 => by first | exact absurd hc67 (by decide) | exact absurd (by decide) hc67) (fun hc67 => ?_)
    refine lv_aload_n hx hb d_M_compareDigests_105 rfl (lv_at hl 0 rfl) ?_
    refine va_get (D := (dC, dI)) (ci := 6) (v := .ref (ga 11)) (C := "VotedTripleModel") (T := F_M) (N := 37) hx hb hw in_M hown hK hP 0 rfl rfl 11 (by decide) (hw _ k_735) (fun _ h9 => h9) rfl d_M_compareDigests_106 ?_
    refine lv_iload hx hb d_M_compareDigests_109 (lv_at hl 6 rfl) ?_
    refine va_iald hx hb hK hP 3 2 rfl rfl (by unfold vp_in; decide) d_M_compareDigests_111 ?_
    refine W.eq (g2 := F0 m 112 ls [.int (a11 1), .int w5]) rfl ?_
    refine lv_if_ne (tgt := 144) hx hb d_M_compareDigests_112 rfl (fun hc68 => ?_) (fun hc68 => ?_)
    · --  ¬ (a11 1) = 0
      refine lv_iconst (v := 0) hx hb d_M_compareDigests_144 (by decide) ?_
      refine lv_iadd hx hb d_M_compareDigests_145 ?_
      refine lv_istore hx hb d_M_compareDigests_146 hl (by decide) rfl (fun ls hl => ?_)
      replace hl : lv_has ls 7 [(5, .int (w5 + (0 : Int32))), (0, .ref m0), (1, .int w1), (2, .int w2), (3, .int w3), (4, .int 0), (6, .int 1)] := hl
      refine lv_iinc (k := 6) (v := 2) hx hb d_M_compareDigests_148 hl rfl rfl (by decide) rfl (fun ls hl => ?_)
      replace hl : lv_has ls 7 [(6, .int 2), (5, .int (w5 + (0 : Int32))), (0, .ref m0), (1, .int w1), (2, .int w2), (3, .int w3), (4, .int 0)] := hl
      refine lv_goto (tgt := 90) hx hb d_M_compareDigests_151 rfl ?_
      have hSq : SP = s_M_compareDigests_cc0_90_2 a8 a10 a11 a23 w1 w2 w3 (w5 + (0 : Int32)) := by rw [hSq0, s_M_compareDigests_cc0_90_1]; try (rw [if_neg hc68]); all_goals rfl
      replace hl := lv_sub hl (l' := [(0, .ref m0), (1, .int w1), (2, .int w2), (3, .int w3), (4, .int 0), (5, .int (w5 + (0 : Int32))), (6, .int 2)]) [2, 3, 4, 5, 6, 1, 0] rfl
      replace hP := hP.sub (ws' := [(m0, .inr (6, oM ga uM cn sn cm us wt oc ou ow)), (ga 8, .inl (gc 8, 24, .inl a8)), (ga 10, .inl (gc 10, 3, .inl a10)), (ga 11, .inl (gc 11, 3, .inl a11)), (ga 23, .inl (gc 23, 3, .inl a23))]) [0, 1, 2, 3, 4] rfl
      replace hD := hD.sub (ws' := [(m0, .inr (6, oM ga uM cn sn cm us wt oc ou ow)), (ga 8, .inl (gc 8, 24, .inl a8)), (ga 10, .inl (gc 10, 3, .inl a10)), (ga 11, .inl (gc 11, 3, .inl a11)), (ga 23, .inl (gc 23, 3, .inl a23))]) [0, 1, 2, 3, 4] (by decide) rfl
      exact cc0_90_2 w1 w2 w3 (w5 + (0 : Int32)) _ _ _ h19 h29 h39 htr hSq hl hP hD hS
    · --  (a11 1) = 0
      refine lv_aload_n hx hb d_M_compareDigests_115 rfl (lv_at hl 0 rfl) ?_
      refine va_get (D := (dC, dI)) (ci := 6) (v := .ref (ga 23)) (C := "VotedTripleModel") (T := F_M) (N := 37) hx hb hw in_M hown hK hP 0 rfl rfl 23 (by decide) (hw _ k_747) (fun _ h9 => h9) rfl d_M_compareDigests_116 ?_
      refine lv_iload hx hb d_M_compareDigests_119 (lv_at hl 6 rfl) ?_
      refine va_zald hx hb hK hP 4 3 rfl rfl (by unfold vp_in; decide) d_M_compareDigests_121 ?_
      refine W.eq (g2 := F0 m 122 ls [.int (a23 1), .int w5]) rfl ?_
      refine lv_if_ne (tgt := 144) hx hb d_M_compareDigests_122 rfl (fun hc69 => ?_) (fun hc69 => ?_)
      · --  ¬ (a23 1) = 0
        refine lv_iconst (v := 0) hx hb d_M_compareDigests_144 (by decide) ?_
        refine lv_iadd hx hb d_M_compareDigests_145 ?_
        refine lv_istore hx hb d_M_compareDigests_146 hl (by decide) rfl (fun ls hl => ?_)
        replace hl : lv_has ls 7 [(5, .int (w5 + (0 : Int32))), (0, .ref m0), (1, .int w1), (2, .int w2), (3, .int w3), (4, .int 0), (6, .int 1)] := hl
        refine lv_iinc (k := 6) (v := 2) hx hb d_M_compareDigests_148 hl rfl rfl (by decide) rfl (fun ls hl => ?_)
        replace hl : lv_has ls 7 [(6, .int 2), (5, .int (w5 + (0 : Int32))), (0, .ref m0), (1, .int w1), (2, .int w2), (3, .int w3), (4, .int 0)] := hl
        refine lv_goto (tgt := 90) hx hb d_M_compareDigests_151 rfl ?_
        have hSq : SP = s_M_compareDigests_cc0_90_2 a8 a10 a11 a23 w1 w2 w3 (w5 + (0 : Int32)) := by rw [hSq0, s_M_compareDigests_cc0_90_1]; try (rw [if_pos hc68]); try (rw [if_neg hc69]); all_goals rfl
        replace hl := lv_sub hl (l' := [(0, .ref m0), (1, .int w1), (2, .int w2), (3, .int w3), (4, .int 0), (5, .int (w5 + (0 : Int32))), (6, .int 2)]) [2, 3, 4, 5, 6, 1, 0] rfl
        replace hP := hP.sub (ws' := [(m0, .inr (6, oM ga uM cn sn cm us wt oc ou ow)), (ga 8, .inl (gc 8, 24, .inl a8)), (ga 10, .inl (gc 10, 3, .inl a10)), (ga 11, .inl (gc 11, 3, .inl a11)), (ga 23, .inl (gc 23, 3, .inl a23))]) [0, 1, 2, 3, 4] rfl
        replace hD := hD.sub (ws' := [(m0, .inr (6, oM ga uM cn sn cm us wt oc ou ow)), (ga 8, .inl (gc 8, 24, .inl a8)), (ga 10, .inl (gc 10, 3, .inl a10)), (ga 11, .inl (gc 11, 3, .inl a11)), (ga 23, .inl (gc 23, 3, .inl a23))]) [0, 1, 2, 3, 4] (by decide) rfl
        exact cc0_90_2 w1 w2 w3 (w5 + (0 : Int32)) _ _ _ h19 h29 h39 htr hSq hl hP hD hS
      · --  (a23 1) = 0
        refine lv_aload_n hx hb d_M_compareDigests_125 rfl (lv_at hl 0 rfl) ?_
        refine lv_iload hx hb d_M_compareDigests_126 (lv_at hl 6 rfl) ?_
        replace hPc := hP.sub (ws' := [(m0, .inr (6, oM ga uM cn sn cm us wt oc ou ow)), (ga 8, .inl (gc 8, 24, .inl a8)), (ga 10, .inl (gc 10, 3, .inl a10))]) [0, 1, 2] rfl
        replace hKc := hK.sub (tys' := [(gc 8, .int), (gc 10, .int)]) [0, 1] rfl
        refine vp_callSi (va_runV (C := "VotedTripleModel") (As := [.int 1]) (rest := [.int w5]) ⟨hx, hb, hml, hown, hw⟩ (c_M_digest l dC dI m0 ga gc uM cn sn cm us wt oc ou ow a8 a10 1 1 rfl (by decide)) (cwV 1 hw (gdV (k_931) (k_928) (k_930) (ks_35) (k_8)) rfl rfl rfl (by decide +kernel) ⟨Nat.le_of_ble_eq_true rfl, Nat.le_of_ble_eq_true rfl⟩) ⟨fun a U g mk q => ⟨q.1, q.2.1, va_K.moved (u := U) (U := U.calling g mk a) (Vm.Alike.refl U.vm) q.2.2⟩, va_recv hK hP rfl (q0 := 0) rfl, fun U hU hW => ⟨rfl, by rw [hU]; exact hPc, va_K.moved hW.alike hKc⟩⟩ rfl rfl hl.1 rfl (lv_room (Nat.le_of_ble_eq_true rfl)) d_M_compareDigests_128 ⟨Nat.le_of_ble_eq_true rfl, Nat.le_of_ble_eq_true rfl⟩).run (fun r70 hr71 => ?_)
        obtain ⟨hr71, hr71E⟩ := hr71
        refine lv_aload_n hx hb d_M_compareDigests_131 rfl (lv_at hl 0 rfl) ?_
        refine lv_iload hx hb d_M_compareDigests_132 (lv_at hl 4 rfl) ?_
        replace hPc := hP.sub (ws' := [(m0, .inr (6, oM ga uM cn sn cm us wt oc ou ow)), (ga 8, .inl (gc 8, 24, .inl a8)), (ga 10, .inl (gc 10, 3, .inl a10))]) [0, 1, 2] rfl
        replace hKc := hK.sub (tys' := [(gc 8, .int), (gc 10, .int)]) [0, 1] rfl
        refine vp_callSi (va_runV (C := "VotedTripleModel") (As := [.int 0]) (rest := [.int r70, .int w5]) ⟨hx, hb, hml, hown, hw⟩ (c_M_digest l dC dI m0 ga gc uM cn sn cm us wt oc ou ow a8 a10 0 0 rfl (by decide)) (cwV 1 hw (gdV (k_931) (k_928) (k_930) (ks_35) (k_8)) rfl rfl rfl (by decide +kernel) ⟨Nat.le_of_ble_eq_true rfl, Nat.le_of_ble_eq_true rfl⟩) ⟨fun a U g mk q => ⟨q.1, q.2.1, va_K.moved (u := U) (U := U.calling g mk a) (Vm.Alike.refl U.vm) q.2.2⟩, va_recv hK hP rfl (q0 := 0) rfl, fun U hU hW => ⟨rfl, by rw [hU]; exact hPc, va_K.moved hW.alike hKc⟩⟩ rfl rfl hl.1 rfl (lv_room (Nat.le_of_ble_eq_true rfl)) d_M_compareDigests_134 ⟨Nat.le_of_ble_eq_true rfl, Nat.le_of_ble_eq_true rfl⟩).run (fun r72 hr73 => ?_)
        obtain ⟨hr73, hr73E⟩ := hr73
        refine lv_icmp_ne (tgt := 144) hx hb d_M_compareDigests_137 rfl (fun hc74 => ?_) (fun hc74 => ?_)
        · --  ¬ r70 = r72
          refine lv_iconst (v := 0) hx hb d_M_compareDigests_144 (by decide) ?_
          refine lv_iadd hx hb d_M_compareDigests_145 ?_
          refine lv_istore hx hb d_M_compareDigests_146 hl (by decide) rfl (fun ls hl => ?_)
          replace hl : lv_has ls 7 [(5, .int (w5 + (0 : Int32))), (0, .ref m0), (1, .int w1), (2, .int w2), (3, .int w3), (4, .int 0), (6, .int 1)] := hl
          refine lv_iinc (k := 6) (v := 2) hx hb d_M_compareDigests_148 hl rfl rfl (by decide) rfl (fun ls hl => ?_)
          replace hl : lv_has ls 7 [(6, .int 2), (5, .int (w5 + (0 : Int32))), (0, .ref m0), (1, .int w1), (2, .int w2), (3, .int w3), (4, .int 0)] := hl
          refine lv_goto (tgt := 90) hx hb d_M_compareDigests_151 rfl ?_
          have hSq : SP = s_M_compareDigests_cc0_90_2 a8 a10 a11 a23 w1 w2 w3 (w5 + (0 : Int32)) := by rw [hSq0, s_M_compareDigests_cc0_90_1]; try (rw [if_pos hc68]); try (rw [if_pos hc69]); try (rw [← hr71E, bnd_eq]); try (rw [← hr73E, bnd_eq]); try (rw [if_neg hc74]); all_goals rfl
          replace hl := lv_sub hl (l' := [(0, .ref m0), (1, .int w1), (2, .int w2), (3, .int w3), (4, .int 0), (5, .int (w5 + (0 : Int32))), (6, .int 2)]) [2, 3, 4, 5, 6, 1, 0] rfl
          replace hP := hP.sub (ws' := [(m0, .inr (6, oM ga uM cn sn cm us wt oc ou ow)), (ga 8, .inl (gc 8, 24, .inl a8)), (ga 10, .inl (gc 10, 3, .inl a10)), (ga 11, .inl (gc 11, 3, .inl a11)), (ga 23, .inl (gc 23, 3, .inl a23))]) [0, 1, 2, 3, 4] rfl
          replace hD := hD.sub (ws' := [(m0, .inr (6, oM ga uM cn sn cm us wt oc ou ow)), (ga 8, .inl (gc 8, 24, .inl a8)), (ga 10, .inl (gc 10, 3, .inl a10)), (ga 11, .inl (gc 11, 3, .inl a11)), (ga 23, .inl (gc 23, 3, .inl a23))]) [0, 1, 2, 3, 4] (by decide) rfl
          exact cc0_90_2 w1 w2 w3 (w5 + (0 : Int32)) _ _ _ h19 h29 h39 htr hSq hl hP hD hS
        · --  r70 = r72
          refine lv_iconst (v := 1) hx hb d_M_compareDigests_140 (by decide) ?_
          refine lv_goto (tgt := 145) hx hb d_M_compareDigests_141 rfl ?_
          refine lv_iadd hx hb d_M_compareDigests_145 ?_
          refine lv_istore hx hb d_M_compareDigests_146 hl (by decide) rfl (fun ls hl => ?_)
          replace hl : lv_has ls 7 [(5, .int (w5 + (1 : Int32))), (0, .ref m0), (1, .int w1), (2, .int w2), (3, .int w3), (4, .int 0), (6, .int 1)] := hl
          refine lv_iinc (k := 6) (v := 2) hx hb d_M_compareDigests_148 hl rfl rfl (by decide) rfl (fun ls hl => ?_)
          replace hl : lv_has ls 7 [(6, .int 2), (5, .int (w5 + (1 : Int32))), (0, .ref m0), (1, .int w1), (2, .int w2), (3, .int w3), (4, .int 0)] := hl
          refine lv_goto (tgt := 90) hx hb d_M_compareDigests_151 rfl ?_
          have hSq : SP = s_M_compareDigests_cc0_90_2 a8 a10 a11 a23 w1 w2 w3 (w5 + (1 : Int32)) := by rw [hSq0, s_M_compareDigests_cc0_90_1]; try (rw [if_pos hc68]); try (rw [if_pos hc69]); try (rw [← hr71E, bnd_eq]); try (rw [← hr73E, bnd_eq]); try (rw [if_pos hc74]); all_goals rfl
          replace hl := lv_sub hl (l' := [(0, .ref m0), (1, .int w1), (2, .int w2), (3, .int w3), (4, .int 0), (5, .int (w5 + (1 : Int32))), (6, .int 2)]) [2, 3, 4, 5, 6, 1, 0] rfl
          replace hP := hP.sub (ws' := [(m0, .inr (6, oM ga uM cn sn cm us wt oc ou ow)), (ga 8, .inl (gc 8, 24, .inl a8)), (ga 10, .inl (gc 10, 3, .inl a10)), (ga 11, .inl (gc 11, 3, .inl a11)), (ga 23, .inl (gc 23, 3, .inl a23))]) [0, 1, 2, 3, 4] rfl
          replace hD := hD.sub (ws' := [(m0, .inr (6, oM ga uM cn sn cm us wt oc ou ow)), (ga 8, .inl (gc 8, 24, .inl a8)), (ga 10, .inl (gc 10, 3, .inl a10)), (ga 11, .inl (gc 11, 3, .inl a11)), (ga 23, .inl (gc 23, 3, .inl a23))]) [0, 1, 2, 3, 4] (by decide) rfl
          exact cc0_90_2 w1 w2 w3 (w5 + (1 : Int32)) _ _ _ h19 h29 h39 htr hSq hl hP hD hS
  have cc0_90_0 : ∀ (w1 : Int32) (w2 : Int32) (w3 : Int32) (w5 : Int32) (ls : Array Slot) (H : Heap) (locs : List Loc), w1 = ts a11 a23 3 → i012 w2 → (w2 = -1 → w3 = ts a11 a23 0) → (a11 0 = 0 ∧ a23 0 = 0) → SP = s_M_compareDigests_cc0_90_0 a8 a10 a11 a23 w1 w2 w3 w5 →  lv_has ls 7 [(0, .ref m0), (1, .int w1), (2, .int w2), (3, .int w3), (4, .int 0), (5, .int w5), (6, .int 0)] → va_P (dC, dI) classes [(m0, .inr (6, oM ga uM cn sn cm us wt oc ou ow)), (ga 8, .inl (gc 8, 24, .inl a8)), (ga 10, .inl (gc 10, 3, .inl a10)), (ga 11, .inl (gc 11, 3, .inl a11)), (ga 23, .inl (gc 23, 3, .inl a23))] H → va_D A [(m0, .inr (6, oM ga uM cn sn cm us wt oc ou ow)), (ga 8, .inl (gc 8, 24, .inl a8)), (ga 10, .inl (gc 10, 3, .inl a10)), (ga 11, .inl (gc 11, 3, .inl a11)), (ga 23, .inl (gc 23, 3, .inl a23))] → va_S A s.heap H locs → W p l e (headSpec (tbw y_M_compareDigests b_M_compareDigests 7 (some .boolean)) ({ frames := 1, cells := 0, slots := 0, locals := 24 })).room s m ([.ref m0] : List Value).toArray below meth c H locs 0 0 (MQ below (va_Qi (fun (r : Int32) (u9 : (Nat → Int32)) => match u9 with | a23n => (True) ∧ (r, a23n) = SP) (fun (u9 : (Nat → Int32)) t => match u9 with | a23n => va_P (dC, dI) classes [(m0, .inr (6, oM ga uM cn sn cm us wt oc ou ow)), (ga 8, .inl (gc 8, 24, .inl a8)), (ga 10, .inl (gc 10, 3, .inl a10)), (ga 11, .inl (gc 11, 3, .inl a11)), (ga 23, .inl (gc 23, 3, .inl a23n))] t.heap ∧ va_K (dC, dI) classes [(gc 8, .int), (gc 10, .int), (gc 11, .int), (gc 23, .boolean)] t ∧ va_D A [(m0, .inr (6, oM ga uM cn sn cm us wt oc ou ow)), (ga 8, .inl (gc 8, 24, .inl a8)), (ga 10, .inl (gc 10, 3, .inl a10)), (ga 11, .inl (gc 11, 3, .inl a11)), (ga 23, .inl (gc 23, 3, .inl a23n))]) A) ([.ref m0] : List Value).toArray s 0 0 A) (F0 m 90 ls []) := by
    intro w1 w2 w3 w5 ls H locs h19 h29 h39 htr hSq0 hl hP hD hS
    clear cb55_3 cc2_90_3 cc2_90_2 cc2_90_1 cc2_90_0 cb55_2 cc1_90_3 cc1_90_2 cc1_90_1 cc1_90_0 cb55_1 cc0_90_3 cc0_90_2
    refine lv_iload hx hb d_M_compareDigests_90 (lv_at hl 6 rfl) ?_
    refine lv_iconst (v := 3) hx hb d_M_compareDigests_92 (by decide) ?_
    refine lv_icmp_ge (tgt := 154) hx hb d_M_compareDigests_93 rfl (fun hc75 => by first | exact absurd hc75 (by decide) | exact absurd (by decide) hc75) (fun hc75 => ?_)
    refine lv_iload hx hb d_M_compareDigests_96 (lv_at hl 5 rfl) ?_
    refine lv_iload hx hb d_M_compareDigests_98 (lv_at hl 6 rfl) ?_
    refine lv_iload hx hb d_M_compareDigests_100 (lv_at hl 4 rfl) ?_
    refine lv_icmp_eq (tgt := 144) hx hb d_M_compareDigests_102 rfl (fun hc76 => ?_) (fun hc76 => by first | exact absurd (rfl) hc76 | exact absurd hc76 (rfl))
    refine lv_iconst (v := 0) hx hb d_M_compareDigests_144 (by decide) ?_
    refine lv_iadd hx hb d_M_compareDigests_145 ?_
    refine lv_istore hx hb d_M_compareDigests_146 hl (by decide) rfl (fun ls hl => ?_)
    replace hl : lv_has ls 7 [(5, .int (w5 + (0 : Int32))), (0, .ref m0), (1, .int w1), (2, .int w2), (3, .int w3), (4, .int 0), (6, .int 0)] := hl
    refine lv_iinc (k := 6) (v := 1) hx hb d_M_compareDigests_148 hl rfl rfl (by decide) rfl (fun ls hl => ?_)
    replace hl : lv_has ls 7 [(6, .int 1), (5, .int (w5 + (0 : Int32))), (0, .ref m0), (1, .int w1), (2, .int w2), (3, .int w3), (4, .int 0)] := hl
    refine lv_goto (tgt := 90) hx hb d_M_compareDigests_151 rfl ?_
    have hSq : SP = s_M_compareDigests_cc0_90_1 a8 a10 a11 a23 w1 w2 w3 (w5 + (0 : Int32)) := by rw [hSq0, s_M_compareDigests_cc0_90_0]; all_goals rfl
    replace hl := lv_sub hl (l' := [(0, .ref m0), (1, .int w1), (2, .int w2), (3, .int w3), (4, .int 0), (5, .int (w5 + (0 : Int32))), (6, .int 1)]) [2, 3, 4, 5, 6, 1, 0] rfl
    replace hP := hP.sub (ws' := [(m0, .inr (6, oM ga uM cn sn cm us wt oc ou ow)), (ga 8, .inl (gc 8, 24, .inl a8)), (ga 10, .inl (gc 10, 3, .inl a10)), (ga 11, .inl (gc 11, 3, .inl a11)), (ga 23, .inl (gc 23, 3, .inl a23))]) [0, 1, 2, 3, 4] rfl
    replace hD := hD.sub (ws' := [(m0, .inr (6, oM ga uM cn sn cm us wt oc ou ow)), (ga 8, .inl (gc 8, 24, .inl a8)), (ga 10, .inl (gc 10, 3, .inl a10)), (ga 11, .inl (gc 11, 3, .inl a11)), (ga 23, .inl (gc 23, 3, .inl a23))]) [0, 1, 2, 3, 4] (by decide) rfl
    exact cc0_90_1 w1 w2 w3 (w5 + (0 : Int32)) _ _ _ h19 h29 h39 htr hSq hl hP hD hS
  have cb55_0 : ∀ (w1 : Int32) (w2 : Int32) (w3 : Int32) (ls : Array Slot) (H : Heap) (locs : List Loc), w1 = ts a11 a23 3 → i012 w2 → (w2 = -1 → w3 = ts a11 a23 0) → SP = s_M_compareDigests_cb55_0 a8 a10 a11 a23 w1 w2 w3 →  lv_has ls 7 [(0, .ref m0), (1, .int w1), (2, .int w2), (3, .int w3), (4, .int 0)] → va_P (dC, dI) classes [(m0, .inr (6, oM ga uM cn sn cm us wt oc ou ow)), (ga 8, .inl (gc 8, 24, .inl a8)), (ga 10, .inl (gc 10, 3, .inl a10)), (ga 11, .inl (gc 11, 3, .inl a11)), (ga 23, .inl (gc 23, 3, .inl a23))] H → va_D A [(m0, .inr (6, oM ga uM cn sn cm us wt oc ou ow)), (ga 8, .inl (gc 8, 24, .inl a8)), (ga 10, .inl (gc 10, 3, .inl a10)), (ga 11, .inl (gc 11, 3, .inl a11)), (ga 23, .inl (gc 23, 3, .inl a23))] → va_S A s.heap H locs → W p l e (headSpec (tbw y_M_compareDigests b_M_compareDigests 7 (some .boolean)) ({ frames := 1, cells := 0, slots := 0, locals := 24 })).room s m ([.ref m0] : List Value).toArray below meth c H locs 0 0 (MQ below (va_Qi (fun (r : Int32) (u9 : (Nat → Int32)) => match u9 with | a23n => (True) ∧ (r, a23n) = SP) (fun (u9 : (Nat → Int32)) t => match u9 with | a23n => va_P (dC, dI) classes [(m0, .inr (6, oM ga uM cn sn cm us wt oc ou ow)), (ga 8, .inl (gc 8, 24, .inl a8)), (ga 10, .inl (gc 10, 3, .inl a10)), (ga 11, .inl (gc 11, 3, .inl a11)), (ga 23, .inl (gc 23, 3, .inl a23n))] t.heap ∧ va_K (dC, dI) classes [(gc 8, .int), (gc 10, .int), (gc 11, .int), (gc 23, .boolean)] t ∧ va_D A [(m0, .inr (6, oM ga uM cn sn cm us wt oc ou ow)), (ga 8, .inl (gc 8, 24, .inl a8)), (ga 10, .inl (gc 10, 3, .inl a10)), (ga 11, .inl (gc 11, 3, .inl a11)), (ga 23, .inl (gc 23, 3, .inl a23n))]) A) ([.ref m0] : List Value).toArray s 0 0 A) (F0 m 55 ls []) := by
    intro w1 w2 w3 ls H locs h19 h29 h39 hSq0 hl hP hD hS
    clear cb55_3 cc2_90_3 cc2_90_2 cc2_90_1 cc2_90_0 cb55_2 cc1_90_3 cc1_90_2 cc1_90_1 cc1_90_0 cc0_90_3 cc0_90_2 cc0_90_1
    refine lv_iload hx hb d_M_compareDigests_55 (lv_at hl 4 rfl) ?_
    refine lv_iconst (v := 3) hx hb d_M_compareDigests_57 (by decide) ?_
    refine lv_icmp_ge (tgt := 174) hx hb d_M_compareDigests_58 rfl (fun hc77 => by first | exact absurd hc77 (by decide) | exact absurd (by decide) hc77) (fun hc77 => ?_)
    refine lv_aload_n hx hb d_M_compareDigests_61 rfl (lv_at hl 0 rfl) ?_
    refine va_get (D := (dC, dI)) (ci := 6) (v := .ref (ga 11)) (C := "VotedTripleModel") (T := F_M) (N := 37) hx hb hw in_M hown hK hP 0 rfl rfl 11 (by decide) (hw _ k_735) (fun _ h9 => h9) rfl d_M_compareDigests_62 ?_
    refine lv_iload hx hb d_M_compareDigests_65 (lv_at hl 4 rfl) ?_
    refine va_iald hx hb hK hP 3 2 rfl rfl (by unfold vp_in; decide) d_M_compareDigests_67 ?_
    refine W.eq (g2 := F0 m 68 ls [.int (a11 0)]) rfl ?_
    refine lv_if_ne (tgt := 168) hx hb d_M_compareDigests_68 rfl (fun hc78 => ?_) (fun hc78 => ?_)
    · --  ¬ (a11 0) = 0
      refine lv_iinc (k := 4) (v := 1) hx hb d_M_compareDigests_168 hl rfl rfl (by decide) rfl (fun ls hl => ?_)
      replace hl : lv_has ls 7 [(4, .int 1), (0, .ref m0), (1, .int w1), (2, .int w2), (3, .int w3)] := hl
      refine lv_goto (tgt := 55) hx hb d_M_compareDigests_171 rfl ?_
      have hSq : SP = s_M_compareDigests_cb55_1 a8 a10 a11 a23 w1 w2 w3 := by rw [hSq0, s_M_compareDigests_cb55_0]; try (rw [if_neg hc78]); all_goals rfl
      replace hl := lv_sub hl (l' := [(0, .ref m0), (1, .int w1), (2, .int w2), (3, .int w3), (4, .int 1)]) [1, 2, 3, 4, 0] rfl
      replace hP := hP.sub (ws' := [(m0, .inr (6, oM ga uM cn sn cm us wt oc ou ow)), (ga 8, .inl (gc 8, 24, .inl a8)), (ga 10, .inl (gc 10, 3, .inl a10)), (ga 11, .inl (gc 11, 3, .inl a11)), (ga 23, .inl (gc 23, 3, .inl a23))]) [0, 1, 2, 3, 4] rfl
      replace hD := hD.sub (ws' := [(m0, .inr (6, oM ga uM cn sn cm us wt oc ou ow)), (ga 8, .inl (gc 8, 24, .inl a8)), (ga 10, .inl (gc 10, 3, .inl a10)), (ga 11, .inl (gc 11, 3, .inl a11)), (ga 23, .inl (gc 23, 3, .inl a23))]) [0, 1, 2, 3, 4] (by decide) rfl
      exact cb55_1 w1 w2 w3 _ _ _ h19 h29 (fun q => ts_0' (h39 q) (fun q => hc78 q.1)) hSq hl hP hD hS
    · --  (a11 0) = 0
      refine lv_aload_n hx hb d_M_compareDigests_71 rfl (lv_at hl 0 rfl) ?_
      refine va_get (D := (dC, dI)) (ci := 6) (v := .ref (ga 23)) (C := "VotedTripleModel") (T := F_M) (N := 37) hx hb hw in_M hown hK hP 0 rfl rfl 23 (by decide) (hw _ k_747) (fun _ h9 => h9) rfl d_M_compareDigests_72 ?_
      refine lv_iload hx hb d_M_compareDigests_75 (lv_at hl 4 rfl) ?_
      refine va_zald hx hb hK hP 4 3 rfl rfl (by unfold vp_in; decide) d_M_compareDigests_77 ?_
      refine W.eq (g2 := F0 m 78 ls [.int (a23 0)]) rfl ?_
      refine lv_if_eq (tgt := 84) hx hb d_M_compareDigests_78 rfl (fun hc79 => ?_) (fun hc79 => ?_)
      · --  (a23 0) = 0
        refine lv_iconst (v := 0) hx hb d_M_compareDigests_84 (by decide) ?_
        refine lv_istore hx hb d_M_compareDigests_85 hl (by decide) rfl (fun ls hl => ?_)
        replace hl : lv_has ls 7 [(5, .int 0), (0, .ref m0), (1, .int w1), (2, .int w2), (3, .int w3), (4, .int 0)] := hl
        refine lv_iconst (v := 0) hx hb d_M_compareDigests_87 (by decide) ?_
        refine lv_istore hx hb d_M_compareDigests_88 hl (by decide) rfl (fun ls hl => ?_)
        replace hl : lv_has ls 7 [(6, .int 0), (5, .int 0), (0, .ref m0), (1, .int w1), (2, .int w2), (3, .int w3), (4, .int 0)] := hl
        have hSq : SP = s_M_compareDigests_cc0_90_0 a8 a10 a11 a23 w1 w2 w3 0 := by rw [hSq0, s_M_compareDigests_cb55_0]; try (rw [if_pos hc78]); try (rw [if_pos hc79]); all_goals rfl
        replace hl := lv_sub hl (l' := [(0, .ref m0), (1, .int w1), (2, .int w2), (3, .int w3), (4, .int 0), (5, .int 0), (6, .int 0)]) [2, 3, 4, 5, 6, 1, 0] rfl
        replace hP := hP.sub (ws' := [(m0, .inr (6, oM ga uM cn sn cm us wt oc ou ow)), (ga 8, .inl (gc 8, 24, .inl a8)), (ga 10, .inl (gc 10, 3, .inl a10)), (ga 11, .inl (gc 11, 3, .inl a11)), (ga 23, .inl (gc 23, 3, .inl a23))]) [0, 1, 2, 3, 4] rfl
        replace hD := hD.sub (ws' := [(m0, .inr (6, oM ga uM cn sn cm us wt oc ou ow)), (ga 8, .inl (gc 8, 24, .inl a8)), (ga 10, .inl (gc 10, 3, .inl a10)), (ga 11, .inl (gc 11, 3, .inl a11)), (ga 23, .inl (gc 23, 3, .inl a23))]) [0, 1, 2, 3, 4] (by decide) rfl
        exact cc0_90_0 w1 w2 w3 0 _ _ _ h19 h29 h39 (⟨hc78, hc79⟩) hSq hl hP hD hS
      · --  ¬ (a23 0) = 0
        refine lv_goto (tgt := 168) hx hb d_M_compareDigests_81 rfl ?_
        refine lv_iinc (k := 4) (v := 1) hx hb d_M_compareDigests_168 hl rfl rfl (by decide) rfl (fun ls hl => ?_)
        replace hl : lv_has ls 7 [(4, .int 1), (0, .ref m0), (1, .int w1), (2, .int w2), (3, .int w3)] := hl
        refine lv_goto (tgt := 55) hx hb d_M_compareDigests_171 rfl ?_
        have hSq : SP = s_M_compareDigests_cb55_1 a8 a10 a11 a23 w1 w2 w3 := by rw [hSq0, s_M_compareDigests_cb55_0]; try (rw [if_pos hc78]); try (rw [if_neg hc79]); all_goals rfl
        replace hl := lv_sub hl (l' := [(0, .ref m0), (1, .int w1), (2, .int w2), (3, .int w3), (4, .int 1)]) [1, 2, 3, 4, 0] rfl
        replace hP := hP.sub (ws' := [(m0, .inr (6, oM ga uM cn sn cm us wt oc ou ow)), (ga 8, .inl (gc 8, 24, .inl a8)), (ga 10, .inl (gc 10, 3, .inl a10)), (ga 11, .inl (gc 11, 3, .inl a11)), (ga 23, .inl (gc 23, 3, .inl a23))]) [0, 1, 2, 3, 4] rfl
        replace hD := hD.sub (ws' := [(m0, .inr (6, oM ga uM cn sn cm us wt oc ou ow)), (ga 8, .inl (gc 8, 24, .inl a8)), (ga 10, .inl (gc 10, 3, .inl a10)), (ga 11, .inl (gc 11, 3, .inl a11)), (ga 23, .inl (gc 23, 3, .inl a23))]) [0, 1, 2, 3, 4] (by decide) rfl
        exact cb55_1 w1 w2 w3 _ _ _ h19 h29 (fun q => ts_0' (h39 q) (fun q => hc79 q.2)) hSq hl hP hD hS
  have ca4_3 : ∀ (w1 : Int32) (ls : Array Slot) (H : Heap) (locs : List Loc), w1 = ts a11 a23 3 → SP = s_M_compareDigests_ca4_3 a8 a10 a11 a23 w1 →  lv_has ls 7 [(0, .ref m0), (1, .int w1), (2, .int 3)] → va_P (dC, dI) classes [(m0, .inr (6, oM ga uM cn sn cm us wt oc ou ow)), (ga 8, .inl (gc 8, 24, .inl a8)), (ga 10, .inl (gc 10, 3, .inl a10)), (ga 11, .inl (gc 11, 3, .inl a11)), (ga 23, .inl (gc 23, 3, .inl a23))] H → va_D A [(m0, .inr (6, oM ga uM cn sn cm us wt oc ou ow)), (ga 8, .inl (gc 8, 24, .inl a8)), (ga 10, .inl (gc 10, 3, .inl a10)), (ga 11, .inl (gc 11, 3, .inl a11)), (ga 23, .inl (gc 23, 3, .inl a23))] → va_S A s.heap H locs → W p l e (headSpec (tbw y_M_compareDigests b_M_compareDigests 7 (some .boolean)) ({ frames := 1, cells := 0, slots := 0, locals := 24 })).room s m ([.ref m0] : List Value).toArray below meth c H locs 0 0 (MQ below (va_Qi (fun (r : Int32) (u9 : (Nat → Int32)) => match u9 with | a23n => (True) ∧ (r, a23n) = SP) (fun (u9 : (Nat → Int32)) t => match u9 with | a23n => va_P (dC, dI) classes [(m0, .inr (6, oM ga uM cn sn cm us wt oc ou ow)), (ga 8, .inl (gc 8, 24, .inl a8)), (ga 10, .inl (gc 10, 3, .inl a10)), (ga 11, .inl (gc 11, 3, .inl a11)), (ga 23, .inl (gc 23, 3, .inl a23n))] t.heap ∧ va_K (dC, dI) classes [(gc 8, .int), (gc 10, .int), (gc 11, .int), (gc 23, .boolean)] t ∧ va_D A [(m0, .inr (6, oM ga uM cn sn cm us wt oc ou ow)), (ga 8, .inl (gc 8, 24, .inl a8)), (ga 10, .inl (gc 10, 3, .inl a10)), (ga 11, .inl (gc 11, 3, .inl a11)), (ga 23, .inl (gc 23, 3, .inl a23n))]) A) ([.ref m0] : List Value).toArray s 0 0 A) (F0 m 4 ls []) := by
    intro w1 ls H locs h19 hSq0 hl hP hD hS
    clear cb55_3 cc2_90_3 cc2_90_2 cc2_90_1 cc2_90_0 cb55_2 cc1_90_3 cc1_90_2 cc1_90_1 cc1_90_0 cb55_1 cc0_90_3 cc0_90_2 cc0_90_1 cc0_90_0
    refine lv_iload_n hx hb d_M_compareDigests_4 rfl (lv_at hl 2 rfl) ?_
    refine lv_iconst (v := 3) hx hb d_M_compareDigests_5 (by decide) ?_
    refine lv_icmp_ge (tgt := 41) hx hb d_M_compareDigests_6 rfl (fun hc80 => ?_) (fun hc80 => by first | exact absurd (by decide) hc80 | exact absurd hc80 (by decide))
    refine lv_iload_n hx hb d_M_compareDigests_41 rfl (lv_at hl 1 rfl) ?_
    refine lv_iconst (v := 2) hx hb d_M_compareDigests_42 (by decide) ?_
    refine lv_icmp_ge (tgt := 48) hx hb d_M_compareDigests_43 rfl (fun hc81 => ?_) (fun hc81 => ?_)
    · --  2 ≤ w1
      refine lv_iconst (v := (-1)) hx hb d_M_compareDigests_48 (by decide) ?_
      refine lv_istore_n hx hb d_M_compareDigests_49 rfl hl (by decide) rfl (fun ls hl => ?_)
      replace hl : lv_has ls 7 [(2, .int (-1)), (0, .ref m0), (1, .int w1)] := hl
      refine lv_iconst (v := 0) hx hb d_M_compareDigests_50 (by decide) ?_
      refine lv_istore_n hx hb d_M_compareDigests_51 rfl hl (by decide) rfl (fun ls hl => ?_)
      replace hl : lv_has ls 7 [(3, .int 0), (2, .int (-1)), (0, .ref m0), (1, .int w1)] := hl
      refine lv_iconst (v := 0) hx hb d_M_compareDigests_52 (by decide) ?_
      refine lv_istore hx hb d_M_compareDigests_53 hl (by decide) rfl (fun ls hl => ?_)
      replace hl : lv_has ls 7 [(4, .int 0), (3, .int 0), (2, .int (-1)), (0, .ref m0), (1, .int w1)] := hl
      have hSq : SP = s_M_compareDigests_cb55_0 a8 a10 a11 a23 w1 (-1) 0 := by rw [hSq0, s_M_compareDigests_ca4_3]; try (rw [if_pos hc81]); all_goals rfl
      replace hl := lv_sub hl (l' := [(0, .ref m0), (1, .int w1), (2, .int (-1)), (3, .int 0), (4, .int 0)]) [3, 4, 2, 1, 0] rfl
      replace hP := hP.sub (ws' := [(m0, .inr (6, oM ga uM cn sn cm us wt oc ou ow)), (ga 8, .inl (gc 8, 24, .inl a8)), (ga 10, .inl (gc 10, 3, .inl a10)), (ga 11, .inl (gc 11, 3, .inl a11)), (ga 23, .inl (gc 23, 3, .inl a23))]) [0, 1, 2, 3, 4] rfl
      replace hD := hD.sub (ws' := [(m0, .inr (6, oM ga uM cn sn cm us wt oc ou ow)), (ga 8, .inl (gc 8, 24, .inl a8)), (ga 10, .inl (gc 10, 3, .inl a10)), (ga 11, .inl (gc 11, 3, .inl a11)), (ga 23, .inl (gc 23, 3, .inl a23))]) [0, 1, 2, 3, 4] (by decide) rfl
      exact cb55_0 w1 (-1) 0 _ _ _ h19 (Or.inl rfl) (fun _ => rfl) hSq hl hP hD hS
    · --  ¬ 2 ≤ w1
      refine lv_iconst (v := 1) hx hb d_M_compareDigests_46 (by decide) ?_
      have hP9 := hP.sub (ws' := [(m0, .inr (6, oM ga uM cn sn cm us wt oc ou ow)), (ga 8, .inl (gc 8, 24, .inl a8)), (ga 10, .inl (gc 10, 3, .inl a10)), (ga 11, .inl (gc 11, 3, .inl a11)), (ga 23, .inl (gc 23, 3, .inl a23))]) [0, 1, 2, 3, 4] rfl
      have hD9 := hD.sub (ws' := [(m0, .inr (6, oM ga uM cn sn cm us wt oc ou ow)), (ga 8, .inl (gc 8, 24, .inl a8)), (ga 10, .inl (gc 10, 3, .inl a10)), (ga 11, .inl (gc 11, 3, .inl a11)), (ga 23, .inl (gc 23, 3, .inl a23))]) [0, 1, 2, 3, 4] (by decide) rfl
      have hK9 := hK.sub (tys' := [(gc 8, .int), (gc 10, .int), (gc 11, .int), (gc 23, .boolean)]) [0, 1, 2, 3] rfl
      refine W.widen (k := 0) (n := 0) (Nat.le_of_ble_eq_true rfl) (Nat.le_of_ble_eq_true rfl) ?_
      exact W.zret (v := 1) (ty := .boolean) hx hb hr rfl (fun t ht hW => ⟨⟨_, (a23), rfl, ⟨trivial, (by rw [hSq0, s_M_compareDigests_ca4_3]; try (rw [if_neg hc81]); all_goals rfl)⟩, by rw [ht]; exact hP9, va_K.moved hW.alike hK9, hD9⟩, hS.F ht⟩) hS.2.2 d_M_compareDigests_47
  have ca4_2 : ∀ (w1 : Int32) (ls : Array Slot) (H : Heap) (locs : List Loc), w1 = ts a11 a23 2 → SP = s_M_compareDigests_ca4_2 a8 a10 a11 a23 w1 →  lv_has ls 7 [(0, .ref m0), (1, .int w1), (2, .int 2)] → va_P (dC, dI) classes [(m0, .inr (6, oM ga uM cn sn cm us wt oc ou ow)), (ga 8, .inl (gc 8, 24, .inl a8)), (ga 10, .inl (gc 10, 3, .inl a10)), (ga 11, .inl (gc 11, 3, .inl a11)), (ga 23, .inl (gc 23, 3, .inl a23))] H → va_D A [(m0, .inr (6, oM ga uM cn sn cm us wt oc ou ow)), (ga 8, .inl (gc 8, 24, .inl a8)), (ga 10, .inl (gc 10, 3, .inl a10)), (ga 11, .inl (gc 11, 3, .inl a11)), (ga 23, .inl (gc 23, 3, .inl a23))] → va_S A s.heap H locs → W p l e (headSpec (tbw y_M_compareDigests b_M_compareDigests 7 (some .boolean)) ({ frames := 1, cells := 0, slots := 0, locals := 24 })).room s m ([.ref m0] : List Value).toArray below meth c H locs 0 0 (MQ below (va_Qi (fun (r : Int32) (u9 : (Nat → Int32)) => match u9 with | a23n => (True) ∧ (r, a23n) = SP) (fun (u9 : (Nat → Int32)) t => match u9 with | a23n => va_P (dC, dI) classes [(m0, .inr (6, oM ga uM cn sn cm us wt oc ou ow)), (ga 8, .inl (gc 8, 24, .inl a8)), (ga 10, .inl (gc 10, 3, .inl a10)), (ga 11, .inl (gc 11, 3, .inl a11)), (ga 23, .inl (gc 23, 3, .inl a23n))] t.heap ∧ va_K (dC, dI) classes [(gc 8, .int), (gc 10, .int), (gc 11, .int), (gc 23, .boolean)] t ∧ va_D A [(m0, .inr (6, oM ga uM cn sn cm us wt oc ou ow)), (ga 8, .inl (gc 8, 24, .inl a8)), (ga 10, .inl (gc 10, 3, .inl a10)), (ga 11, .inl (gc 11, 3, .inl a11)), (ga 23, .inl (gc 23, 3, .inl a23n))]) A) ([.ref m0] : List Value).toArray s 0 0 A) (F0 m 4 ls []) := by
    intro w1 ls H locs h19 hSq0 hl hP hD hS
    clear cb55_3 cc2_90_3 cc2_90_2 cc2_90_1 cc2_90_0 cb55_2 cc1_90_3 cc1_90_2 cc1_90_1 cc1_90_0 cb55_1 cc0_90_3 cc0_90_2 cc0_90_1 cc0_90_0 cb55_0
    refine lv_iload_n hx hb d_M_compareDigests_4 rfl (lv_at hl 2 rfl) ?_
    refine lv_iconst (v := 3) hx hb d_M_compareDigests_5 (by decide) ?_
    refine lv_icmp_ge (tgt := 41) hx hb d_M_compareDigests_6 rfl (fun hc82 => by first | exact absurd hc82 (by decide) | exact absurd (by decide) hc82) (fun hc82 => ?_)
    refine lv_iload_n hx hb d_M_compareDigests_9 rfl (lv_at hl 1 rfl) ?_
    refine lv_aload_n hx hb d_M_compareDigests_10 rfl (lv_at hl 0 rfl) ?_
    refine va_get (D := (dC, dI)) (ci := 6) (v := .ref (ga 11)) (C := "VotedTripleModel") (T := F_M) (N := 37) hx hb hw in_M hown hK hP 0 rfl rfl 11 (by decide) (hw _ k_735) (fun _ h9 => h9) rfl d_M_compareDigests_11 ?_
    refine lv_iload_n hx hb d_M_compareDigests_14 rfl (lv_at hl 2 rfl) ?_
    refine va_iald hx hb hK hP 3 2 rfl rfl (by unfold vp_in; decide) d_M_compareDigests_15 ?_
    refine W.eq (g2 := F0 m 16 ls [.int (a11 2), .int w1]) rfl ?_
    refine lv_if_ne (tgt := 32) hx hb d_M_compareDigests_16 rfl (fun hc83 => ?_) (fun hc83 => ?_)
    · --  ¬ (a11 2) = 0
      refine lv_iconst (v := 0) hx hb d_M_compareDigests_32 (by decide) ?_
      refine lv_iadd hx hb d_M_compareDigests_33 ?_
      refine lv_istore_n hx hb d_M_compareDigests_34 rfl hl (by decide) rfl (fun ls hl => ?_)
      replace hl : lv_has ls 7 [(1, .int (w1 + (0 : Int32))), (0, .ref m0), (2, .int 2)] := hl
      refine lv_iinc (k := 2) (v := 3) hx hb d_M_compareDigests_35 hl rfl rfl (by decide) rfl (fun ls hl => ?_)
      replace hl : lv_has ls 7 [(2, .int 3), (1, .int (w1 + (0 : Int32))), (0, .ref m0)] := hl
      refine lv_goto (tgt := 4) hx hb d_M_compareDigests_38 rfl ?_
      have hSq : SP = s_M_compareDigests_ca4_3 a8 a10 a11 a23 (w1 + (0 : Int32)) := by rw [hSq0, s_M_compareDigests_ca4_2]; try (rw [if_neg hc83]); all_goals rfl
      replace hl := lv_sub hl (l' := [(0, .ref m0), (1, .int (w1 + (0 : Int32))), (2, .int 3)]) [2, 1, 0] rfl
      replace hP := hP.sub (ws' := [(m0, .inr (6, oM ga uM cn sn cm us wt oc ou ow)), (ga 8, .inl (gc 8, 24, .inl a8)), (ga 10, .inl (gc 10, 3, .inl a10)), (ga 11, .inl (gc 11, 3, .inl a11)), (ga 23, .inl (gc 23, 3, .inl a23))]) [0, 1, 2, 3, 4] rfl
      replace hD := hD.sub (ws' := [(m0, .inr (6, oM ga uM cn sn cm us wt oc ou ow)), (ga 8, .inl (gc 8, 24, .inl a8)), (ga 10, .inl (gc 10, 3, .inl a10)), (ga 11, .inl (gc 11, 3, .inl a11)), (ga 23, .inl (gc 23, 3, .inl a23))]) [0, 1, 2, 3, 4] (by decide) rfl
      exact ca4_3 (w1 + (0 : Int32)) _ _ _ (ts_0 h19 (fun q => hc83 q.1)) hSq hl hP hD hS
    · --  (a11 2) = 0
      refine lv_aload_n hx hb d_M_compareDigests_19 rfl (lv_at hl 0 rfl) ?_
      refine va_get (D := (dC, dI)) (ci := 6) (v := .ref (ga 23)) (C := "VotedTripleModel") (T := F_M) (N := 37) hx hb hw in_M hown hK hP 0 rfl rfl 23 (by decide) (hw _ k_747) (fun _ h9 => h9) rfl d_M_compareDigests_20 ?_
      refine lv_iload_n hx hb d_M_compareDigests_23 rfl (lv_at hl 2 rfl) ?_
      refine va_zald hx hb hK hP 4 3 rfl rfl (by unfold vp_in; decide) d_M_compareDigests_24 ?_
      refine W.eq (g2 := F0 m 25 ls [.int (a23 2), .int w1]) rfl ?_
      refine lv_if_ne (tgt := 32) hx hb d_M_compareDigests_25 rfl (fun hc84 => ?_) (fun hc84 => ?_)
      · --  ¬ (a23 2) = 0
        refine lv_iconst (v := 0) hx hb d_M_compareDigests_32 (by decide) ?_
        refine lv_iadd hx hb d_M_compareDigests_33 ?_
        refine lv_istore_n hx hb d_M_compareDigests_34 rfl hl (by decide) rfl (fun ls hl => ?_)
        replace hl : lv_has ls 7 [(1, .int (w1 + (0 : Int32))), (0, .ref m0), (2, .int 2)] := hl
        refine lv_iinc (k := 2) (v := 3) hx hb d_M_compareDigests_35 hl rfl rfl (by decide) rfl (fun ls hl => ?_)
        replace hl : lv_has ls 7 [(2, .int 3), (1, .int (w1 + (0 : Int32))), (0, .ref m0)] := hl
        refine lv_goto (tgt := 4) hx hb d_M_compareDigests_38 rfl ?_
        have hSq : SP = s_M_compareDigests_ca4_3 a8 a10 a11 a23 (w1 + (0 : Int32)) := by rw [hSq0, s_M_compareDigests_ca4_2]; try (rw [if_pos hc83]); try (rw [if_neg hc84]); all_goals rfl
        replace hl := lv_sub hl (l' := [(0, .ref m0), (1, .int (w1 + (0 : Int32))), (2, .int 3)]) [2, 1, 0] rfl
        replace hP := hP.sub (ws' := [(m0, .inr (6, oM ga uM cn sn cm us wt oc ou ow)), (ga 8, .inl (gc 8, 24, .inl a8)), (ga 10, .inl (gc 10, 3, .inl a10)), (ga 11, .inl (gc 11, 3, .inl a11)), (ga 23, .inl (gc 23, 3, .inl a23))]) [0, 1, 2, 3, 4] rfl
        replace hD := hD.sub (ws' := [(m0, .inr (6, oM ga uM cn sn cm us wt oc ou ow)), (ga 8, .inl (gc 8, 24, .inl a8)), (ga 10, .inl (gc 10, 3, .inl a10)), (ga 11, .inl (gc 11, 3, .inl a11)), (ga 23, .inl (gc 23, 3, .inl a23))]) [0, 1, 2, 3, 4] (by decide) rfl
        exact ca4_3 (w1 + (0 : Int32)) _ _ _ (ts_0 h19 (fun q => hc84 q.2)) hSq hl hP hD hS
      · --  (a23 2) = 0
        refine lv_iconst (v := 1) hx hb d_M_compareDigests_28 (by decide) ?_
        refine lv_goto (tgt := 33) hx hb d_M_compareDigests_29 rfl ?_
        refine lv_iadd hx hb d_M_compareDigests_33 ?_
        refine lv_istore_n hx hb d_M_compareDigests_34 rfl hl (by decide) rfl (fun ls hl => ?_)
        replace hl : lv_has ls 7 [(1, .int (w1 + (1 : Int32))), (0, .ref m0), (2, .int 2)] := hl
        refine lv_iinc (k := 2) (v := 3) hx hb d_M_compareDigests_35 hl rfl rfl (by decide) rfl (fun ls hl => ?_)
        replace hl : lv_has ls 7 [(2, .int 3), (1, .int (w1 + (1 : Int32))), (0, .ref m0)] := hl
        refine lv_goto (tgt := 4) hx hb d_M_compareDigests_38 rfl ?_
        have hSq : SP = s_M_compareDigests_ca4_3 a8 a10 a11 a23 (w1 + (1 : Int32)) := by rw [hSq0, s_M_compareDigests_ca4_2]; try (rw [if_pos hc83]); try (rw [if_pos hc84]); all_goals rfl
        replace hl := lv_sub hl (l' := [(0, .ref m0), (1, .int (w1 + (1 : Int32))), (2, .int 3)]) [2, 1, 0] rfl
        replace hP := hP.sub (ws' := [(m0, .inr (6, oM ga uM cn sn cm us wt oc ou ow)), (ga 8, .inl (gc 8, 24, .inl a8)), (ga 10, .inl (gc 10, 3, .inl a10)), (ga 11, .inl (gc 11, 3, .inl a11)), (ga 23, .inl (gc 23, 3, .inl a23))]) [0, 1, 2, 3, 4] rfl
        replace hD := hD.sub (ws' := [(m0, .inr (6, oM ga uM cn sn cm us wt oc ou ow)), (ga 8, .inl (gc 8, 24, .inl a8)), (ga 10, .inl (gc 10, 3, .inl a10)), (ga 11, .inl (gc 11, 3, .inl a11)), (ga 23, .inl (gc 23, 3, .inl a23))]) [0, 1, 2, 3, 4] (by decide) rfl
        exact ca4_3 (w1 + (1 : Int32)) _ _ _ (ts_1 h19 ⟨hc83, hc84⟩) hSq hl hP hD hS
  have ca4_1 : ∀ (w1 : Int32) (ls : Array Slot) (H : Heap) (locs : List Loc), w1 = ts a11 a23 1 → SP = s_M_compareDigests_ca4_1 a8 a10 a11 a23 w1 →  lv_has ls 7 [(0, .ref m0), (1, .int w1), (2, .int 1)] → va_P (dC, dI) classes [(m0, .inr (6, oM ga uM cn sn cm us wt oc ou ow)), (ga 8, .inl (gc 8, 24, .inl a8)), (ga 10, .inl (gc 10, 3, .inl a10)), (ga 11, .inl (gc 11, 3, .inl a11)), (ga 23, .inl (gc 23, 3, .inl a23))] H → va_D A [(m0, .inr (6, oM ga uM cn sn cm us wt oc ou ow)), (ga 8, .inl (gc 8, 24, .inl a8)), (ga 10, .inl (gc 10, 3, .inl a10)), (ga 11, .inl (gc 11, 3, .inl a11)), (ga 23, .inl (gc 23, 3, .inl a23))] → va_S A s.heap H locs → W p l e (headSpec (tbw y_M_compareDigests b_M_compareDigests 7 (some .boolean)) ({ frames := 1, cells := 0, slots := 0, locals := 24 })).room s m ([.ref m0] : List Value).toArray below meth c H locs 0 0 (MQ below (va_Qi (fun (r : Int32) (u9 : (Nat → Int32)) => match u9 with | a23n => (True) ∧ (r, a23n) = SP) (fun (u9 : (Nat → Int32)) t => match u9 with | a23n => va_P (dC, dI) classes [(m0, .inr (6, oM ga uM cn sn cm us wt oc ou ow)), (ga 8, .inl (gc 8, 24, .inl a8)), (ga 10, .inl (gc 10, 3, .inl a10)), (ga 11, .inl (gc 11, 3, .inl a11)), (ga 23, .inl (gc 23, 3, .inl a23n))] t.heap ∧ va_K (dC, dI) classes [(gc 8, .int), (gc 10, .int), (gc 11, .int), (gc 23, .boolean)] t ∧ va_D A [(m0, .inr (6, oM ga uM cn sn cm us wt oc ou ow)), (ga 8, .inl (gc 8, 24, .inl a8)), (ga 10, .inl (gc 10, 3, .inl a10)), (ga 11, .inl (gc 11, 3, .inl a11)), (ga 23, .inl (gc 23, 3, .inl a23n))]) A) ([.ref m0] : List Value).toArray s 0 0 A) (F0 m 4 ls []) := by
    intro w1 ls H locs h19 hSq0 hl hP hD hS
    clear cb55_3 cc2_90_3 cc2_90_2 cc2_90_1 cc2_90_0 cb55_2 cc1_90_3 cc1_90_2 cc1_90_1 cc1_90_0 cb55_1 cc0_90_3 cc0_90_2 cc0_90_1 cc0_90_0 cb55_0 ca4_3
    refine lv_iload_n hx hb d_M_compareDigests_4 rfl (lv_at hl 2 rfl) ?_
    refine lv_iconst (v := 3) hx hb d_M_compareDigests_5 (by decide) ?_
    refine lv_icmp_ge (tgt := 41) hx hb d_M_compareDigests_6 rfl (fun hc85 => by first | exact absurd hc85 (by decide) | exact absurd (by decide) hc85) (fun hc85 => ?_)
    refine lv_iload_n hx hb d_M_compareDigests_9 rfl (lv_at hl 1 rfl) ?_
    refine lv_aload_n hx hb d_M_compareDigests_10 rfl (lv_at hl 0 rfl) ?_
    refine va_get (D := (dC, dI)) (ci := 6) (v := .ref (ga 11)) (C := "VotedTripleModel") (T := F_M) (N := 37) hx hb hw in_M hown hK hP 0 rfl rfl 11 (by decide) (hw _ k_735) (fun _ h9 => h9) rfl d_M_compareDigests_11 ?_
    refine lv_iload_n hx hb d_M_compareDigests_14 rfl (lv_at hl 2 rfl) ?_
    refine va_iald hx hb hK hP 3 2 rfl rfl (by unfold vp_in; decide) d_M_compareDigests_15 ?_
    refine W.eq (g2 := F0 m 16 ls [.int (a11 1), .int w1]) rfl ?_
    refine lv_if_ne (tgt := 32) hx hb d_M_compareDigests_16 rfl (fun hc86 => ?_) (fun hc86 => ?_)
    · --  ¬ (a11 1) = 0
      refine lv_iconst (v := 0) hx hb d_M_compareDigests_32 (by decide) ?_
      refine lv_iadd hx hb d_M_compareDigests_33 ?_
      refine lv_istore_n hx hb d_M_compareDigests_34 rfl hl (by decide) rfl (fun ls hl => ?_)
      replace hl : lv_has ls 7 [(1, .int (w1 + (0 : Int32))), (0, .ref m0), (2, .int 1)] := hl
      refine lv_iinc (k := 2) (v := 2) hx hb d_M_compareDigests_35 hl rfl rfl (by decide) rfl (fun ls hl => ?_)
      replace hl : lv_has ls 7 [(2, .int 2), (1, .int (w1 + (0 : Int32))), (0, .ref m0)] := hl
      refine lv_goto (tgt := 4) hx hb d_M_compareDigests_38 rfl ?_
      have hSq : SP = s_M_compareDigests_ca4_2 a8 a10 a11 a23 (w1 + (0 : Int32)) := by rw [hSq0, s_M_compareDigests_ca4_1]; try (rw [if_neg hc86]); all_goals rfl
      replace hl := lv_sub hl (l' := [(0, .ref m0), (1, .int (w1 + (0 : Int32))), (2, .int 2)]) [2, 1, 0] rfl
      replace hP := hP.sub (ws' := [(m0, .inr (6, oM ga uM cn sn cm us wt oc ou ow)), (ga 8, .inl (gc 8, 24, .inl a8)), (ga 10, .inl (gc 10, 3, .inl a10)), (ga 11, .inl (gc 11, 3, .inl a11)), (ga 23, .inl (gc 23, 3, .inl a23))]) [0, 1, 2, 3, 4] rfl
      replace hD := hD.sub (ws' := [(m0, .inr (6, oM ga uM cn sn cm us wt oc ou ow)), (ga 8, .inl (gc 8, 24, .inl a8)), (ga 10, .inl (gc 10, 3, .inl a10)), (ga 11, .inl (gc 11, 3, .inl a11)), (ga 23, .inl (gc 23, 3, .inl a23))]) [0, 1, 2, 3, 4] (by decide) rfl
      exact ca4_2 (w1 + (0 : Int32)) _ _ _ (ts_0 h19 (fun q => hc86 q.1)) hSq hl hP hD hS
    · --  (a11 1) = 0
      refine lv_aload_n hx hb d_M_compareDigests_19 rfl (lv_at hl 0 rfl) ?_
      refine va_get (D := (dC, dI)) (ci := 6) (v := .ref (ga 23)) (C := "VotedTripleModel") (T := F_M) (N := 37) hx hb hw in_M hown hK hP 0 rfl rfl 23 (by decide) (hw _ k_747) (fun _ h9 => h9) rfl d_M_compareDigests_20 ?_
      refine lv_iload_n hx hb d_M_compareDigests_23 rfl (lv_at hl 2 rfl) ?_
      refine va_zald hx hb hK hP 4 3 rfl rfl (by unfold vp_in; decide) d_M_compareDigests_24 ?_
      refine W.eq (g2 := F0 m 25 ls [.int (a23 1), .int w1]) rfl ?_
      refine lv_if_ne (tgt := 32) hx hb d_M_compareDigests_25 rfl (fun hc87 => ?_) (fun hc87 => ?_)
      · --  ¬ (a23 1) = 0
        refine lv_iconst (v := 0) hx hb d_M_compareDigests_32 (by decide) ?_
        refine lv_iadd hx hb d_M_compareDigests_33 ?_
        refine lv_istore_n hx hb d_M_compareDigests_34 rfl hl (by decide) rfl (fun ls hl => ?_)
        replace hl : lv_has ls 7 [(1, .int (w1 + (0 : Int32))), (0, .ref m0), (2, .int 1)] := hl
        refine lv_iinc (k := 2) (v := 2) hx hb d_M_compareDigests_35 hl rfl rfl (by decide) rfl (fun ls hl => ?_)
        replace hl : lv_has ls 7 [(2, .int 2), (1, .int (w1 + (0 : Int32))), (0, .ref m0)] := hl
        refine lv_goto (tgt := 4) hx hb d_M_compareDigests_38 rfl ?_
        have hSq : SP = s_M_compareDigests_ca4_2 a8 a10 a11 a23 (w1 + (0 : Int32)) := by rw [hSq0, s_M_compareDigests_ca4_1]; try (rw [if_pos hc86]); try (rw [if_neg hc87]); all_goals rfl
        replace hl := lv_sub hl (l' := [(0, .ref m0), (1, .int (w1 + (0 : Int32))), (2, .int 2)]) [2, 1, 0] rfl
        replace hP := hP.sub (ws' := [(m0, .inr (6, oM ga uM cn sn cm us wt oc ou ow)), (ga 8, .inl (gc 8, 24, .inl a8)), (ga 10, .inl (gc 10, 3, .inl a10)), (ga 11, .inl (gc 11, 3, .inl a11)), (ga 23, .inl (gc 23, 3, .inl a23))]) [0, 1, 2, 3, 4] rfl
        replace hD := hD.sub (ws' := [(m0, .inr (6, oM ga uM cn sn cm us wt oc ou ow)), (ga 8, .inl (gc 8, 24, .inl a8)), (ga 10, .inl (gc 10, 3, .inl a10)), (ga 11, .inl (gc 11, 3, .inl a11)), (ga 23, .inl (gc 23, 3, .inl a23))]) [0, 1, 2, 3, 4] (by decide) rfl
        exact ca4_2 (w1 + (0 : Int32)) _ _ _ (ts_0 h19 (fun q => hc87 q.2)) hSq hl hP hD hS
      · --  (a23 1) = 0
        refine lv_iconst (v := 1) hx hb d_M_compareDigests_28 (by decide) ?_
        refine lv_goto (tgt := 33) hx hb d_M_compareDigests_29 rfl ?_
        refine lv_iadd hx hb d_M_compareDigests_33 ?_
        refine lv_istore_n hx hb d_M_compareDigests_34 rfl hl (by decide) rfl (fun ls hl => ?_)
        replace hl : lv_has ls 7 [(1, .int (w1 + (1 : Int32))), (0, .ref m0), (2, .int 1)] := hl
        refine lv_iinc (k := 2) (v := 2) hx hb d_M_compareDigests_35 hl rfl rfl (by decide) rfl (fun ls hl => ?_)
        replace hl : lv_has ls 7 [(2, .int 2), (1, .int (w1 + (1 : Int32))), (0, .ref m0)] := hl
        refine lv_goto (tgt := 4) hx hb d_M_compareDigests_38 rfl ?_
        have hSq : SP = s_M_compareDigests_ca4_2 a8 a10 a11 a23 (w1 + (1 : Int32)) := by rw [hSq0, s_M_compareDigests_ca4_1]; try (rw [if_pos hc86]); try (rw [if_pos hc87]); all_goals rfl
        replace hl := lv_sub hl (l' := [(0, .ref m0), (1, .int (w1 + (1 : Int32))), (2, .int 2)]) [2, 1, 0] rfl
        replace hP := hP.sub (ws' := [(m0, .inr (6, oM ga uM cn sn cm us wt oc ou ow)), (ga 8, .inl (gc 8, 24, .inl a8)), (ga 10, .inl (gc 10, 3, .inl a10)), (ga 11, .inl (gc 11, 3, .inl a11)), (ga 23, .inl (gc 23, 3, .inl a23))]) [0, 1, 2, 3, 4] rfl
        replace hD := hD.sub (ws' := [(m0, .inr (6, oM ga uM cn sn cm us wt oc ou ow)), (ga 8, .inl (gc 8, 24, .inl a8)), (ga 10, .inl (gc 10, 3, .inl a10)), (ga 11, .inl (gc 11, 3, .inl a11)), (ga 23, .inl (gc 23, 3, .inl a23))]) [0, 1, 2, 3, 4] (by decide) rfl
        exact ca4_2 (w1 + (1 : Int32)) _ _ _ (ts_1 h19 ⟨hc86, hc87⟩) hSq hl hP hD hS
  have ca4_0 : ∀ (w1 : Int32) (ls : Array Slot) (H : Heap) (locs : List Loc), w1 = ts a11 a23 0 → SP = s_M_compareDigests_ca4_0 a8 a10 a11 a23 w1 →  lv_has ls 7 [(0, .ref m0), (1, .int w1), (2, .int 0)] → va_P (dC, dI) classes [(m0, .inr (6, oM ga uM cn sn cm us wt oc ou ow)), (ga 8, .inl (gc 8, 24, .inl a8)), (ga 10, .inl (gc 10, 3, .inl a10)), (ga 11, .inl (gc 11, 3, .inl a11)), (ga 23, .inl (gc 23, 3, .inl a23))] H → va_D A [(m0, .inr (6, oM ga uM cn sn cm us wt oc ou ow)), (ga 8, .inl (gc 8, 24, .inl a8)), (ga 10, .inl (gc 10, 3, .inl a10)), (ga 11, .inl (gc 11, 3, .inl a11)), (ga 23, .inl (gc 23, 3, .inl a23))] → va_S A s.heap H locs → W p l e (headSpec (tbw y_M_compareDigests b_M_compareDigests 7 (some .boolean)) ({ frames := 1, cells := 0, slots := 0, locals := 24 })).room s m ([.ref m0] : List Value).toArray below meth c H locs 0 0 (MQ below (va_Qi (fun (r : Int32) (u9 : (Nat → Int32)) => match u9 with | a23n => (True) ∧ (r, a23n) = SP) (fun (u9 : (Nat → Int32)) t => match u9 with | a23n => va_P (dC, dI) classes [(m0, .inr (6, oM ga uM cn sn cm us wt oc ou ow)), (ga 8, .inl (gc 8, 24, .inl a8)), (ga 10, .inl (gc 10, 3, .inl a10)), (ga 11, .inl (gc 11, 3, .inl a11)), (ga 23, .inl (gc 23, 3, .inl a23n))] t.heap ∧ va_K (dC, dI) classes [(gc 8, .int), (gc 10, .int), (gc 11, .int), (gc 23, .boolean)] t ∧ va_D A [(m0, .inr (6, oM ga uM cn sn cm us wt oc ou ow)), (ga 8, .inl (gc 8, 24, .inl a8)), (ga 10, .inl (gc 10, 3, .inl a10)), (ga 11, .inl (gc 11, 3, .inl a11)), (ga 23, .inl (gc 23, 3, .inl a23n))]) A) ([.ref m0] : List Value).toArray s 0 0 A) (F0 m 4 ls []) := by
    intro w1 ls H locs h19 hSq0 hl hP hD hS
    clear cb55_3 cc2_90_3 cc2_90_2 cc2_90_1 cc2_90_0 cb55_2 cc1_90_3 cc1_90_2 cc1_90_1 cc1_90_0 cb55_1 cc0_90_3 cc0_90_2 cc0_90_1 cc0_90_0 cb55_0 ca4_3 ca4_2
    refine lv_iload_n hx hb d_M_compareDigests_4 rfl (lv_at hl 2 rfl) ?_
    refine lv_iconst (v := 3) hx hb d_M_compareDigests_5 (by decide) ?_
    refine lv_icmp_ge (tgt := 41) hx hb d_M_compareDigests_6 rfl (fun hc88 => by first | exact absurd hc88 (by decide) | exact absurd (by decide) hc88) (fun hc88 => ?_)
    refine lv_iload_n hx hb d_M_compareDigests_9 rfl (lv_at hl 1 rfl) ?_
    refine lv_aload_n hx hb d_M_compareDigests_10 rfl (lv_at hl 0 rfl) ?_
    refine va_get (D := (dC, dI)) (ci := 6) (v := .ref (ga 11)) (C := "VotedTripleModel") (T := F_M) (N := 37) hx hb hw in_M hown hK hP 0 rfl rfl 11 (by decide) (hw _ k_735) (fun _ h9 => h9) rfl d_M_compareDigests_11 ?_
    refine lv_iload_n hx hb d_M_compareDigests_14 rfl (lv_at hl 2 rfl) ?_
    refine va_iald hx hb hK hP 3 2 rfl rfl (by unfold vp_in; decide) d_M_compareDigests_15 ?_
    refine W.eq (g2 := F0 m 16 ls [.int (a11 0), .int w1]) rfl ?_
    refine lv_if_ne (tgt := 32) hx hb d_M_compareDigests_16 rfl (fun hc89 => ?_) (fun hc89 => ?_)
    · --  ¬ (a11 0) = 0
      refine lv_iconst (v := 0) hx hb d_M_compareDigests_32 (by decide) ?_
      refine lv_iadd hx hb d_M_compareDigests_33 ?_
      refine lv_istore_n hx hb d_M_compareDigests_34 rfl hl (by decide) rfl (fun ls hl => ?_)
      replace hl : lv_has ls 7 [(1, .int (w1 + (0 : Int32))), (0, .ref m0), (2, .int 0)] := hl
      refine lv_iinc (k := 2) (v := 1) hx hb d_M_compareDigests_35 hl rfl rfl (by decide) rfl (fun ls hl => ?_)
      replace hl : lv_has ls 7 [(2, .int 1), (1, .int (w1 + (0 : Int32))), (0, .ref m0)] := hl
      refine lv_goto (tgt := 4) hx hb d_M_compareDigests_38 rfl ?_
      have hSq : SP = s_M_compareDigests_ca4_1 a8 a10 a11 a23 (w1 + (0 : Int32)) := by rw [hSq0, s_M_compareDigests_ca4_0]; try (rw [if_neg hc89]); all_goals rfl
      replace hl := lv_sub hl (l' := [(0, .ref m0), (1, .int (w1 + (0 : Int32))), (2, .int 1)]) [2, 1, 0] rfl
      replace hP := hP.sub (ws' := [(m0, .inr (6, oM ga uM cn sn cm us wt oc ou ow)), (ga 8, .inl (gc 8, 24, .inl a8)), (ga 10, .inl (gc 10, 3, .inl a10)), (ga 11, .inl (gc 11, 3, .inl a11)), (ga 23, .inl (gc 23, 3, .inl a23))]) [0, 1, 2, 3, 4] rfl
      replace hD := hD.sub (ws' := [(m0, .inr (6, oM ga uM cn sn cm us wt oc ou ow)), (ga 8, .inl (gc 8, 24, .inl a8)), (ga 10, .inl (gc 10, 3, .inl a10)), (ga 11, .inl (gc 11, 3, .inl a11)), (ga 23, .inl (gc 23, 3, .inl a23))]) [0, 1, 2, 3, 4] (by decide) rfl
      exact ca4_1 (w1 + (0 : Int32)) _ _ _ (ts_0 h19 (fun q => hc89 q.1)) hSq hl hP hD hS
    · --  (a11 0) = 0
      refine lv_aload_n hx hb d_M_compareDigests_19 rfl (lv_at hl 0 rfl) ?_
      refine va_get (D := (dC, dI)) (ci := 6) (v := .ref (ga 23)) (C := "VotedTripleModel") (T := F_M) (N := 37) hx hb hw in_M hown hK hP 0 rfl rfl 23 (by decide) (hw _ k_747) (fun _ h9 => h9) rfl d_M_compareDigests_20 ?_
      refine lv_iload_n hx hb d_M_compareDigests_23 rfl (lv_at hl 2 rfl) ?_
      refine va_zald hx hb hK hP 4 3 rfl rfl (by unfold vp_in; decide) d_M_compareDigests_24 ?_
      refine W.eq (g2 := F0 m 25 ls [.int (a23 0), .int w1]) rfl ?_
      refine lv_if_ne (tgt := 32) hx hb d_M_compareDigests_25 rfl (fun hc90 => ?_) (fun hc90 => ?_)
      · --  ¬ (a23 0) = 0
        refine lv_iconst (v := 0) hx hb d_M_compareDigests_32 (by decide) ?_
        refine lv_iadd hx hb d_M_compareDigests_33 ?_
        refine lv_istore_n hx hb d_M_compareDigests_34 rfl hl (by decide) rfl (fun ls hl => ?_)
        replace hl : lv_has ls 7 [(1, .int (w1 + (0 : Int32))), (0, .ref m0), (2, .int 0)] := hl
        refine lv_iinc (k := 2) (v := 1) hx hb d_M_compareDigests_35 hl rfl rfl (by decide) rfl (fun ls hl => ?_)
        replace hl : lv_has ls 7 [(2, .int 1), (1, .int (w1 + (0 : Int32))), (0, .ref m0)] := hl
        refine lv_goto (tgt := 4) hx hb d_M_compareDigests_38 rfl ?_
        have hSq : SP = s_M_compareDigests_ca4_1 a8 a10 a11 a23 (w1 + (0 : Int32)) := by rw [hSq0, s_M_compareDigests_ca4_0]; try (rw [if_pos hc89]); try (rw [if_neg hc90]); all_goals rfl
        replace hl := lv_sub hl (l' := [(0, .ref m0), (1, .int (w1 + (0 : Int32))), (2, .int 1)]) [2, 1, 0] rfl
        replace hP := hP.sub (ws' := [(m0, .inr (6, oM ga uM cn sn cm us wt oc ou ow)), (ga 8, .inl (gc 8, 24, .inl a8)), (ga 10, .inl (gc 10, 3, .inl a10)), (ga 11, .inl (gc 11, 3, .inl a11)), (ga 23, .inl (gc 23, 3, .inl a23))]) [0, 1, 2, 3, 4] rfl
        replace hD := hD.sub (ws' := [(m0, .inr (6, oM ga uM cn sn cm us wt oc ou ow)), (ga 8, .inl (gc 8, 24, .inl a8)), (ga 10, .inl (gc 10, 3, .inl a10)), (ga 11, .inl (gc 11, 3, .inl a11)), (ga 23, .inl (gc 23, 3, .inl a23))]) [0, 1, 2, 3, 4] (by decide) rfl
        exact ca4_1 (w1 + (0 : Int32)) _ _ _ (ts_0 h19 (fun q => hc90 q.2)) hSq hl hP hD hS
      · --  (a23 0) = 0
        refine lv_iconst (v := 1) hx hb d_M_compareDigests_28 (by decide) ?_
        refine lv_goto (tgt := 33) hx hb d_M_compareDigests_29 rfl ?_
        refine lv_iadd hx hb d_M_compareDigests_33 ?_
        refine lv_istore_n hx hb d_M_compareDigests_34 rfl hl (by decide) rfl (fun ls hl => ?_)
        replace hl : lv_has ls 7 [(1, .int (w1 + (1 : Int32))), (0, .ref m0), (2, .int 0)] := hl
        refine lv_iinc (k := 2) (v := 1) hx hb d_M_compareDigests_35 hl rfl rfl (by decide) rfl (fun ls hl => ?_)
        replace hl : lv_has ls 7 [(2, .int 1), (1, .int (w1 + (1 : Int32))), (0, .ref m0)] := hl
        refine lv_goto (tgt := 4) hx hb d_M_compareDigests_38 rfl ?_
        have hSq : SP = s_M_compareDigests_ca4_1 a8 a10 a11 a23 (w1 + (1 : Int32)) := by rw [hSq0, s_M_compareDigests_ca4_0]; try (rw [if_pos hc89]); try (rw [if_pos hc90]); all_goals rfl
        replace hl := lv_sub hl (l' := [(0, .ref m0), (1, .int (w1 + (1 : Int32))), (2, .int 1)]) [2, 1, 0] rfl
        replace hP := hP.sub (ws' := [(m0, .inr (6, oM ga uM cn sn cm us wt oc ou ow)), (ga 8, .inl (gc 8, 24, .inl a8)), (ga 10, .inl (gc 10, 3, .inl a10)), (ga 11, .inl (gc 11, 3, .inl a11)), (ga 23, .inl (gc 23, 3, .inl a23))]) [0, 1, 2, 3, 4] rfl
        replace hD := hD.sub (ws' := [(m0, .inr (6, oM ga uM cn sn cm us wt oc ou ow)), (ga 8, .inl (gc 8, 24, .inl a8)), (ga 10, .inl (gc 10, 3, .inl a10)), (ga 11, .inl (gc 11, 3, .inl a11)), (ga 23, .inl (gc 23, 3, .inl a23))]) [0, 1, 2, 3, 4] (by decide) rfl
        exact ca4_1 (w1 + (1 : Int32)) _ _ _ (ts_1 h19 ⟨hc89, hc90⟩) hSq hl hP hD hS
  clear cb55_3 cc2_90_3 cc2_90_2 cc2_90_1 cc2_90_0 cb55_2 cc1_90_3 cc1_90_2 cc1_90_1 cc1_90_0 cb55_1 cc0_90_3 cc0_90_2 cc0_90_1 cc0_90_0 cb55_0 ca4_3 ca4_2 ca4_1
  refine lv_iconst (v := 0) hx hb d_M_compareDigests_0 (by decide) ?_
  refine lv_istore_n hx hb d_M_compareDigests_1 rfl hl (by decide) rfl (fun ls hl => ?_)
  replace hl : lv_has ls 7 [(1, .int 0), (0, .ref m0)] := hl
  refine lv_iconst (v := 0) hx hb d_M_compareDigests_2 (by decide) ?_
  refine lv_istore_n hx hb d_M_compareDigests_3 rfl hl (by decide) rfl (fun ls hl => ?_)
  replace hl : lv_has ls 7 [(2, .int 0), (1, .int 0), (0, .ref m0)] := hl
  have hSq : SP = s_M_compareDigests_ca4_0 a8 a10 a11 a23 0 := by rw [← hSP, s_M_compareDigests]; all_goals rfl
  replace hl := lv_sub hl (l' := [(0, .ref m0), (1, .int 0), (2, .int 0)]) [2, 1, 0] rfl
  replace hP := hP.sub (ws' := [(m0, .inr (6, oM ga uM cn sn cm us wt oc ou ow)), (ga 8, .inl (gc 8, 24, .inl a8)), (ga 10, .inl (gc 10, 3, .inl a10)), (ga 11, .inl (gc 11, 3, .inl a11)), (ga 23, .inl (gc 23, 3, .inl a23))]) [0, 1, 2, 3, 4] rfl
  replace hD := hD.sub (ws' := [(m0, .inr (6, oM ga uM cn sn cm us wt oc ou ow)), (ga 8, .inl (gc 8, 24, .inl a8)), (ga 10, .inl (gc 10, 3, .inl a10)), (ga 11, .inl (gc 11, 3, .inl a11)), (ga 23, .inl (gc 23, 3, .inl a23))]) [0, 1, 2, 3, 4] (by decide) rfl
  exact ca4_0 0 _ _ _ rfl hSq hl hP hD hS
