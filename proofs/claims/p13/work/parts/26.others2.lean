set_option maxHeartbeats 4000000 in
set_option maxRecDepth 100000 in
theorem c_T_swap (l : Launch) (dC : Nat → ClassId) (dI : Nat → Nat → Nat) (h0 : Nat) (p9 : Nat) (a9 : Nat) (e9 : Nat) (n9 : Nat) (o9 : Nat) (ca : ClassId) (da : Nat → Nat) (ra : Nat → Nat) (ka : Nat → Nat) (cr : Nat → ClassId) (ck : Nat → ClassId) (uT : Nat → Int32) (F : Nat → Nat → Int32) (g : Nat → Nat → Int32) (v : Nat → Nat → Int32) (x : Int32) (hF : f3 F) (hg : g3 g) (t9 : Nat) (sz : Nat) : Met l y_T_swap (tbw y_T_swap b_T_swap 3 (some .boolean)) ({ frames := 5, cells := 0, slots := 0, locals := 109 }) (va_Pc [.ref h0, .int x] (fun U => U.heap.size = sz ∧ va_P (dC, dI) classes [(h0, .inr (0, oT uT p9 a9 e9 n9 o9)), (a9, .inl (ca, 3, .inr (.inr (.inr (.inr (mo da)))))), (da 0, .inr (2, oD (F 0) (ra 0) (ka 0))), (ra 0, .inl (cr 0, 8, .inl (g 0))), (ka 0, .inl (ck 0, 32, .inl (v 0))), (da 1, .inr (2, oD (F 1) (ra 1) (ka 1))), (ra 1, .inl (cr 1, 8, .inl (g 1))), (ka 1, .inl (ck 1, 32, .inl (v 1))), (da 2, .inr (2, oD (F 2) (ra 2) (ka 2))), (ra 2, .inl (cr 2, 8, .inl (g 2))), (ka 2, .inl (ck 2, 32, .inl (v 2)))] U.heap ∧ va_K (dC, dI) classes [(ca, .object "VotedTriple$VotedModule"), (cr 0, .int), (ck 0, .int), (cr 1, .int), (ck 1, .int), (cr 2, .int), (ck 2, .int)] U ∧ va_D (fun _ => True) [(h0, .inr (0, oT uT p9 a9 e9 n9 o9)), (a9, .inl (ca, 3, .inr (.inr (.inr (.inr (mo da)))))), (da 0, .inr (2, oD (F 0) (ra 0) (ka 0))), (ra 0, .inl (cr 0, 8, .inl (g 0))), (ka 0, .inl (ck 0, 32, .inl (v 0))), (da 1, .inr (2, oD (F 1) (ra 1) (ka 1))), (ra 1, .inl (cr 1, 8, .inl (g 1))), (ka 1, .inl (ck 1, 32, .inl (v 1))), (da 2, .inr (2, oD (F 2) (ra 2) (ka 2))), (ra 2, .inl (cr 2, 8, .inl (g 2))), (ka 2, .inl (ck 2, 32, .inl (v 2)))] ∧ nw U ∧ cb t9 (va_A [(h0, .inr (0, oT uT p9 a9 e9 n9 o9)), (a9, .inl (ca, 3, .inr (.inr (.inr (.inr (mo da)))))), (da 0, .inr (2, oD (F 0) (ra 0) (ka 0))), (ra 0, .inl (cr 0, 8, .inl (g 0))), (ka 0, .inl (ck 0, 32, .inl (v 0))), (da 1, .inr (2, oD (F 1) (ra 1) (ka 1))), (ra 1, .inl (cr 1, 8, .inl (g 1))), (ka 1, .inl (ck 1, 32, .inl (v 1))), (da 2, .inr (2, oD (F 2) (ra 2) (ka 2))), (ra 2, .inl (cr 2, 8, .inl (g 2))), (ka 2, .inl (ck 2, 32, .inl (v 2)))] sz) U U.heap)) (va_Qi (fun (r : Int32) (u9 : (Nat → Nat → Int32) × (Nat → Nat → Int32) × (Nat → Nat → Int32)) => match u9 with | (F2, g2, v2) => (f3 F2 ∧ g3 g2) ∧ (r, F2, g2, v2) = s_T_swap uT F g v x) (fun (u9 : (Nat → Nat → Int32) × (Nat → Nat → Int32) × (Nat → Nat → Int32)) t => match u9 with | (F2, g2, v2) => va_P (dC, dI) classes [(h0, .inr (0, oT uT p9 a9 e9 n9 o9)), (a9, .inl (ca, 3, .inr (.inr (.inr (.inr (mo da)))))), (da 0, .inr (2, oD (F2 0) (ra 0) (ka 0))), (ra 0, .inl (cr 0, 8, .inl (g2 0))), (ka 0, .inl (ck 0, 32, .inl (v2 0))), (da 1, .inr (2, oD (F2 1) (ra 1) (ka 1))), (ra 1, .inl (cr 1, 8, .inl (g2 1))), (ka 1, .inl (ck 1, 32, .inl (v2 1))), (da 2, .inr (2, oD (F2 2) (ra 2) (ka 2))), (ra 2, .inl (cr 2, 8, .inl (g2 2))), (ka 2, .inl (ck 2, 32, .inl (v2 2)))] t.heap ∧ va_K (dC, dI) classes [(ca, .object "VotedTriple$VotedModule"), (cr 0, .int), (ck 0, .int), (cr 1, .int), (ck 1, .int), (cr 2, .int), (ck 2, .int)] t ∧ va_D (va_A [(h0, .inr (0, oT uT p9 a9 e9 n9 o9)), (a9, .inl (ca, 3, .inr (.inr (.inr (.inr (mo da)))))), (da 0, .inr (2, oD (F 0) (ra 0) (ka 0))), (ra 0, .inl (cr 0, 8, .inl (g 0))), (ka 0, .inl (ck 0, 32, .inl (v 0))), (da 1, .inr (2, oD (F 1) (ra 1) (ka 1))), (ra 1, .inl (cr 1, 8, .inl (g 1))), (ka 1, .inl (ck 1, 32, .inl (v 1))), (da 2, .inr (2, oD (F 2) (ra 2) (ka 2))), (ra 2, .inl (cr 2, 8, .inl (g 2))), (ka 2, .inl (ck 2, 32, .inl (v 2)))] sz) [(h0, .inr (0, oT uT p9 a9 e9 n9 o9)), (a9, .inl (ca, 3, .inr (.inr (.inr (.inr (mo da)))))), (da 0, .inr (2, oD (F2 0) (ra 0) (ka 0))), (ra 0, .inl (cr 0, 8, .inl (g2 0))), (ka 0, .inl (ck 0, 32, .inl (v2 0))), (da 1, .inr (2, oD (F2 1) (ra 1) (ka 1))), (ra 1, .inl (cr 1, 8, .inl (g2 1))), (ka 1, .inl (ck 1, 32, .inl (v2 1))), (da 2, .inr (2, oD (F2 2) (ra 2) (ka 2))), (ra 2, .inl (cr 2, 8, .inl (g2 2))), (ka 2, .inl (ck 2, 32, .inl (v2 2)))]) (va_A [(h0, .inr (0, oT uT p9 a9 e9 n9 o9)), (a9, .inl (ca, 3, .inr (.inr (.inr (.inr (mo da)))))), (da 0, .inr (2, oD (F 0) (ra 0) (ka 0))), (ra 0, .inl (cr 0, 8, .inl (g 0))), (ka 0, .inl (ck 0, 32, .inl (v 0))), (da 1, .inr (2, oD (F 1) (ra 1) (ka 1))), (ra 1, .inl (cr 1, 8, .inl (g 1))), (ka 1, .inl (ck 1, 32, .inl (v 1))), (da 2, .inr (2, oD (F 2) (ra 2) (ka 2))), (ra 2, .inl (cr 2, 8, .inl (g 2))), (ka 2, .inl (ck 2, 32, .inl (v 2)))] sz)) 0 0 (va_A [(h0, .inr (0, oT uT p9 a9 e9 n9 o9)), (a9, .inl (ca, 3, .inr (.inr (.inr (.inr (mo da)))))), (da 0, .inr (2, oD (F 0) (ra 0) (ka 0))), (ra 0, .inl (cr 0, 8, .inl (g 0))), (ka 0, .inl (ck 0, 32, .inl (v 0))), (da 1, .inr (2, oD (F 1) (ra 1) (ka 1))), (ra 1, .inl (cr 1, 8, .inl (g 1))), (ka 1, .inl (ck 1, 32, .inl (v 1))), (da 2, .inr (2, oD (F 2) (ra 2) (ka 2))), (ra 2, .inl (cr 2, 8, .inl (g 2))), (ka 2, .inl (ck 2, 32, .inl (v 2)))] sz) := by
  refine Met.ofW (cc := b_T_swap) (maxL := 3) (ret := (some .boolean)) (by decide) rfl ?_
  intro p e s m args below meth c s₁ B hml hv
  obtain ⟨rfl, hsz, hP, hK, hD0, hnw, hcb⟩ := hv
  have hx := B.exec
  have hb := B.bytes
  have hr := B.returns
  have hts := atoms_spec (ws := (tbw y_T_swap b_T_swap 3 (some .boolean))) B.pre
  have hw : ∀ z9 ∈ tb, z9.before ([.ref h0, .int x] : List Value).toArray s = true := fun z9 h => hts z9 (List.mem_cons_of_mem _ h)
  have hown : s.vm.findClass "VotedTriple" = some m.cls := findClass_of_methodNamed B.named
  have hlocks := B.notSynchronized
  subst hsz
  replace hD := hD0.self (sz := s.heap.size)
  generalize hAe : va_A [(h0, .inr (0, oT uT p9 a9 e9 n9 o9)), (a9, .inl (ca, 3, .inr (.inr (.inr (.inr (mo da)))))), (da 0, .inr (2, oD (F 0) (ra 0) (ka 0))), (ra 0, .inl (cr 0, 8, .inl (g 0))), (ka 0, .inl (ck 0, 32, .inl (v 0))), (da 1, .inr (2, oD (F 1) (ra 1) (ka 1))), (ra 1, .inl (cr 1, 8, .inl (g 1))), (ka 1, .inl (ck 1, 32, .inl (v 1))), (da 2, .inr (2, oD (F 2) (ra 2) (ka 2))), (ra 2, .inl (cr 2, 8, .inl (g 2))), (ka 2, .inl (ck 2, 32, .inl (v 2)))] s.heap.size = A at hD hcb ⊢
  have hA : ∀ q : Nat, s.heap.size ≤ q → A q := fun q h => by rw [← hAe]; exact Or.inr h
  have hS : va_S A s.heap s.heap [] := va_S.rf
  replace hl := lv_entry ([.ref h0, .int x]) (n := 3) (Nat.le_of_ble_eq_true rfl)
  rw [lg_entry_eq]
  generalize (lg_sl ([.ref h0, .int x]) ++ List.replicate (3 - (lg_sl ([.ref h0, .int x])).length) Slot.unset).toArray = ls at hl ⊢
  replace hl : lv_has ls 3 [(0, .ref h0), (1, .int x)] := hl
  generalize hSP : s_T_swap uT F g v x = SP
  refine lv_aload_n hx hb d_T_swap_0 rfl (lv_at hl 0 rfl) ?_
  refine lv_iload_n hx hb d_T_swap_1 rfl (lv_at hl 1 rfl) ?_
  replace hPc := hP.sub (ws' := [(h0, .inr (0, oT uT p9 a9 e9 n9 o9))]) [0] rfl
  replace hKc := hK.sub (tys' := []) [] rfl
  refine vp_callSi (va_runV (C := "VotedTriple") (As := [.int x]) (rest := []) ⟨hx, hb, hml, hown, hw⟩ (c_T_hasModule l dC dI h0 p9 a9 e9 n9 o9 uT x) (cwV 1 hw (gdV (k_339) (k_336) (k_338) (ks_0) (k_1)) rfl rfl rfl (by decide +kernel) ⟨Nat.le_of_ble_eq_true rfl, Nat.le_of_ble_eq_true rfl⟩) ⟨fun a U g mk q => ⟨q.1, q.2.1, va_K.moved (u := U) (U := U.calling g mk a) (Vm.Alike.refl U.vm) q.2.2⟩, va_recv hK hP rfl (q0 := 0) rfl, fun U hU hW => ⟨rfl, by rw [hU]; exact hPc, va_K.moved hW.alike hKc⟩⟩ rfl rfl hl.1 rfl (lv_room (Nat.le_of_ble_eq_true rfl)) d_T_swap_2 ⟨Nat.le_of_ble_eq_true rfl, Nat.le_of_ble_eq_true rfl⟩).run (fun r1 hr2 => ?_)
  subst hr2
  refine lv_if_eq (tgt := 15) hx hb d_T_swap_5 rfl (fun hc3 => ?_) (fun hc3 => ?_)
  · --  (bI (hmB uT x)) = 0
    refine lv_iconst (v := 0) hx hb d_T_swap_15 (by decide) ?_
    have hP9 := hP.sub (ws' := [(h0, .inr (0, oT uT p9 a9 e9 n9 o9)), (a9, .inl (ca, 3, .inr (.inr (.inr (.inr (mo da)))))), (da 0, .inr (2, oD (F 0) (ra 0) (ka 0))), (ra 0, .inl (cr 0, 8, .inl (g 0))), (ka 0, .inl (ck 0, 32, .inl (v 0))), (da 1, .inr (2, oD (F 1) (ra 1) (ka 1))), (ra 1, .inl (cr 1, 8, .inl (g 1))), (ka 1, .inl (ck 1, 32, .inl (v 1))), (da 2, .inr (2, oD (F 2) (ra 2) (ka 2))), (ra 2, .inl (cr 2, 8, .inl (g 2))), (ka 2, .inl (ck 2, 32, .inl (v 2)))]) [0, 1, 2, 3, 4, 5, 6, 7, 8, 9, 10] rfl
    have hD9 := hD.sub (ws' := [(h0, .inr (0, oT uT p9 a9 e9 n9 o9)), (a9, .inl (ca, 3, .inr (.inr (.inr (.inr (mo da)))))), (da 0, .inr (2, oD (F 0) (ra 0) (ka 0))), (ra 0, .inl (cr 0, 8, .inl (g 0))), (ka 0, .inl (ck 0, 32, .inl (v 0))), (da 1, .inr (2, oD (F 1) (ra 1) (ka 1))), (ra 1, .inl (cr 1, 8, .inl (g 1))), (ka 1, .inl (ck 1, 32, .inl (v 1))), (da 2, .inr (2, oD (F 2) (ra 2) (ka 2))), (ra 2, .inl (cr 2, 8, .inl (g 2))), (ka 2, .inl (ck 2, 32, .inl (v 2)))]) [0, 1, 2, 3, 4, 5, 6, 7, 8, 9, 10] (by decide) rfl
    have hK9 := hK.sub (tys' := [(ca, .object "VotedTriple$VotedModule"), (cr 0, .int), (ck 0, .int), (cr 1, .int), (ck 1, .int), (cr 2, .int), (ck 2, .int)]) [0, 1, 2, 3, 4, 5, 6] rfl
    refine W.widen (k := 0) (n := 0) (Nat.le_of_ble_eq_true rfl) (Nat.le_of_ble_eq_true rfl) ?_
    exact W.zret (v := 0) (ty := .boolean) hx hb hr rfl (fun t ht hW => ⟨⟨_, (F, g, v), rfl, ⟨⟨hF, hg⟩, (by rw [← hSP, s_T_swap]; try (rw [if_pos hc3]); all_goals rfl)⟩, by rw [ht]; exact hP9, va_K.moved hW.alike hK9, hD9⟩, hS.F ht⟩) hS.2.2 d_T_swap_16
  · --  ¬ (bI (hmB uT x)) = 0
    refine lv_aload_n hx hb d_T_swap_8 rfl (lv_at hl 0 rfl) ?_
    refine va_get (D := (dC, dI)) (ci := 0) (v := .int (uT 6)) (C := "VotedTriple") (T := F_T) (N := 11) hx hb hw in_T hown hK hP 0 rfl rfl 6 (by decide) (hw _ k_200) (fun _ h9 => h9) rfl d_T_swap_9 ?_
    refine lv_if_eq (tgt := 17) hx hb d_T_swap_12 rfl (fun hc4 => ?_) (fun hc4 => ?_)
    · --  (uT 6) = 0
      obtain ⟨hs5, rfl | rfl | rfl⟩ := hm_c hc3
      · --  0
        refine lv_aload_n hx hb d_T_swap_17 rfl (lv_at hl 0 rfl) ?_
        replace hPc := hP.sub (ws' := [(h0, .inr (0, oT uT p9 a9 e9 n9 o9)), (a9, .inl (ca, 3, .inr (.inr (.inr (.inr (mo da)))))), (da 0, .inr (2, oD (F 0) (ra 0) (ka 0))), (da 1, .inr (2, oD (F 1) (ra 1) (ka 1))), (da 2, .inr (2, oD (F 2) (ra 2) (ka 2)))]) [0, 1, 2, 5, 8] rfl
        replace hKc := hK.sub (tys' := [(ca, .object "VotedTriple$VotedModule")]) [0] rfl
        refine vp_callSi (va_runV (C := "VotedTriple") (As := []) (rest := []) ⟨hx, hb, hml, hown, hw⟩ (c_T_countInStep l dC dI h0 p9 a9 e9 n9 o9 ca da ra ka uT F) (cwV 0 hw (gdV (k_351) (k_348) (k_350) (ks_1) (k_1)) rfl rfl rfl (by decide +kernel) ⟨Nat.le_of_ble_eq_true rfl, Nat.le_of_ble_eq_true rfl⟩) ⟨fun a U g mk q => ⟨q.1, q.2.1, va_K.moved (u := U) (U := U.calling g mk a) (Vm.Alike.refl U.vm) q.2.2⟩, va_recv hK hP rfl (q0 := 0) rfl, fun U hU hW => ⟨rfl, by rw [hU]; exact hPc, va_K.moved hW.alike hKc⟩⟩ rfl rfl hl.1 rfl (lv_room (Nat.le_of_ble_eq_true rfl)) d_T_swap_18 ⟨Nat.le_of_ble_eq_true rfl, Nat.le_of_ble_eq_true rfl⟩).run (fun r5 hr6 => ?_)
        obtain ⟨hr6, hr6E⟩ := hr6
        refine lv_aload_n hx hb d_T_swap_21 rfl (lv_at hl 0 rfl) ?_
        refine va_get (D := (dC, dI)) (ci := 0) (v := .ref a9) (C := "VotedTriple") (T := F_T) (N := 11) hx hb hw in_T hown hK hP 0 rfl rfl 1 (by decide) (hw _ k_195) (fun _ h9 => h9) rfl d_T_swap_22 ?_
        refine lv_iload_n hx hb d_T_swap_25 rfl (lv_at hl 1 rfl) ?_
        refine va_aldq hx hb hK hP 1 0 rfl rfl (by unfold vp_in; decide) d_T_swap_26 ?_
        refine W.eq (g2 := F0 m 27 ls [.ref (da 0), .int r5]) rfl ?_
        refine va_get (D := (dC, dI)) (ci := 2) (v := .int (F 0 8)) (C := "VotedTriple$VotedModule") (T := F_D) (N := 19) hx hb hw in_D hown hK hP 2 rfl rfl 8 (by decide) (hw _ k_143) (fun _ h9 => h9) rfl d_T_swap_27 ?_
        refine lv_if_ne (tgt := 37) hx hb d_T_swap_30 rfl (fun hc7 => ?_) (fun hc7 => ?_)
        · --  ¬ (F 0 8) = 0
          refine lv_iconst (v := 0) hx hb d_T_swap_37 (by decide) ?_
          refine lv_isub hx hb d_T_swap_38 ?_
          refine lv_istore_n hx hb d_T_swap_39 rfl hl (by decide) rfl (fun ls hl => ?_)
          replace hl : lv_has ls 3 [(2, .int (r5 - (0 : Int32))), (0, .ref h0), (1, .int 0)] := hl
          refine lv_aload_n hx hb d_T_swap_40 rfl (lv_at hl 1 rfl) ?_
          refine lv_iload_n hx hb d_T_swap_41 rfl (lv_at hl 0 rfl) ?_
          replace hPc := hP.sub (ws' := [(h0, .inr (0, oT uT p9 a9 e9 n9 o9))]) [0] rfl
          replace hKc := hK.sub (tys' := []) [] rfl
          refine vp_callSi (va_runV (C := "VotedTriple") (As := [.int (r5 - (0 : Int32))]) (rest := []) ⟨hx, hb, hml, hown, hw⟩ (c_T_canGoOnWith l dC dI h0 p9 a9 e9 n9 o9 uT (r5 - (0 : Int32))) (cwV 1 hw (gdV (k_355) (k_352) (k_354) (ks_2) (k_1)) rfl rfl rfl (by decide +kernel) ⟨Nat.le_of_ble_eq_true rfl, Nat.le_of_ble_eq_true rfl⟩) ⟨fun a U g mk q => ⟨q.1, q.2.1, va_K.moved (u := U) (U := U.calling g mk a) (Vm.Alike.refl U.vm) q.2.2⟩, va_recv hK hP rfl (q0 := 0) rfl, fun U hU hW => ⟨rfl, by rw [hU]; exact hPc, va_K.moved hW.alike hKc⟩⟩ rfl rfl hl.1 rfl (lv_room (Nat.le_of_ble_eq_true rfl)) d_T_swap_42 ⟨Nat.le_of_ble_eq_true rfl, Nat.le_of_ble_eq_true rfl⟩).run (fun r8 hr9 => ?_)
          subst hr9
          refine lv_if_ne (tgt := 50) hx hb d_T_swap_45 rfl (fun hc10 => ?_) (fun hc10 => ?_)
          · --  ¬ (bI (cgB uT (r5 - (0 : Int32)))) = 0
            refine lv_aload_n hx hb d_T_swap_50 rfl (lv_at hl 1 rfl) ?_
            refine va_get (D := (dC, dI)) (ci := 0) (v := .ref a9) (C := "VotedTriple") (T := F_T) (N := 11) hx hb hw in_T hown hK hP 0 rfl rfl 1 (by decide) (hw _ k_195) (fun _ h9 => h9) rfl d_T_swap_51 ?_
            refine lv_iload_n hx hb d_T_swap_54 rfl (lv_at hl 2 rfl) ?_
            refine va_aldq hx hb hK hP 1 0 rfl rfl (by unfold vp_in; decide) d_T_swap_55 ?_
            refine W.eq (g2 := F0 m 56 ls [.ref (da 0)]) rfl ?_
            refine lv_iconst (v := 1) hx hb d_T_swap_56 (by decide) ?_
            replace hPc := hP.sub (ws' := [(da 0, .inr (2, oD (F 0) (ra 0) (ka 0))), (ra 0, .inl (cr 0, 8, .inl (g 0))), (ka 0, .inl (ck 0, 32, .inl (v 0)))]) [2, 3, 4] rfl
            replace hKc := hK.sub (tys' := [(cr 0, .int), (ck 0, .int)]) [1, 2] rfl
            replace hDc := hD.sub (ws' := [(da 0, .inr (2, oD (F 0) (ra 0) (ka 0))), (ra 0, .inl (cr 0, 8, .inl (g 0))), (ka 0, .inl (ck 0, 32, .inl (v 0)))]) [2, 3, 4] (by decide) rfl
            replace hFc := va_free (wc := [(da 0, .inr (2, oD (F 0) (ra 0) (ka 0))), (ra 0, .inl (cr 0, 8, .inl (g 0))), (ka 0, .inl (ck 0, 32, .inl (v 0)))]) hD hS hA [2, 3, 4] rfl
            refine va_callv (va_runV (C := "VotedTriple$VotedModule") (As := [.int 1]) (rest := []) ⟨hx, hb, hml, hown, hw⟩ (c_D_makeBlank l dC dI (da 0) (ra 0) (ka 0) (F 0) (cr 0) (g 0) (ck 0) (v 0) 1 (modI_of hF.1 hg.1) t9 s.heap.size) (cwV 1 hw (gdV (k_265) (k_262) (k_263) (k_264) (k_7)) rfl rfl rfl (by decide +kernel) ⟨Nat.le_of_ble_eq_true rfl, Nat.le_of_ble_eq_true rfl⟩) ⟨fun a U g mk q => by obtain ⟨q0, q1, qP, qK, qD, qN, qB⟩ := q; exact ⟨q0, q1, qP, va_K.moved (u := U) (U := U.calling g mk a) (Vm.Alike.refl U.vm) qK, qD, nw_vm (u := U) (U := U.calling g mk a) rfl qN, cb_vm (u := U) (U := U.calling g mk a) rfl qB⟩, va_recv hK hP rfl (q0 := 2) rfl, fun U hU hW => ⟨rfl, by rw [hU], by rw [hU]; exact hPc, va_K.moved hW.alike hKc, hDc.weaken (fun _ _ _ _ => trivial), nw_warm hW hnw, by rw [hU]; exact cb_narrow (cb_warm hW (cb_kept hcb (fun a h1 h2 => hS.2.1 a h1 h2))) hFc⟩⟩ rfl rfl hl.1 rfl (lv_room (Nat.le_of_ble_eq_true rfl)) d_T_swap_57 ⟨Nat.le_of_ble_eq_true rfl, Nat.le_of_ble_eq_true rfl⟩) hS (fun q _ h => hFc q h) hFc (fun u9 t H1 locs ht hvm hr12 hB hz1 hk1 hS => ?_)
            obtain ⟨F213, g14, cd215⟩ := u9
            obtain ⟨hP1, hK1, hD1⟩ := hB
            rw [ht] at hP1
            replace hK1 := va_K.moved hvm.symm hK1
            try dsimp only at hr12 hP1 hK1 hD1
            obtain ⟨hr12, hr12E⟩ := hr12
            obtain ⟨hPz, hDz⟩ := va_join (wr := [(h0, .inr (0, oT uT p9 a9 e9 n9 o9)), (a9, .inl (ca, 3, .inr (.inr (.inr (.inr (mo da)))))), (da 1, .inr (2, oD (F 1) (ra 1) (ka 1))), (ra 1, .inl (cr 1, 8, .inl (g 1))), (ka 1, .inl (ck 1, 32, .inl (v 1))), (da 2, .inr (2, oD (F 2) (ra 2) (ka 2))), (ra 2, .inl (cr 2, 8, .inl (g 2))), (ka 2, .inl (ck 2, 32, .inl (v 2)))]) (w1 := [(da 0, .inr (2, oD F213 (ra 0) (ka 0))), (ra 0, .inl (cr 0, 8, .inl g14)), (ka 0, .inl (ck 0, 32, .inl cd215))]) hP hD [2, 3, 4] [0, 1, 5, 6, 7, 8, 9, 10] rfl rfl (by decide) (by decide) hk1 hFc hP1 hD1
            clear hP hD hPc hDc hP1 hD1 hFc
            have hP := hPz
            have hD := hDz
            clear hPz hDz
            replace hK := (hK.sub (tys' := [(ca, .object "VotedTriple$VotedModule"), (cr 1, .int), (ck 1, .int), (cr 2, .int), (ck 2, .int)]) [0, 3, 4, 5, 6] rfl).app hK1
            clear hK1 hKc
            generalize H1 = H at hP hS ⊢
            replace hP : va_P (dC, dI) classes [(h0, .inr (0, oT uT p9 a9 e9 n9 o9)), (a9, .inl (ca, 3, .inr (.inr (.inr (.inr (mo da)))))), (da 1, .inr (2, oD (F 1) (ra 1) (ka 1))), (ra 1, .inl (cr 1, 8, .inl (g 1))), (ka 1, .inl (ck 1, 32, .inl (v 1))), (da 2, .inr (2, oD (F 2) (ra 2) (ka 2))), (ra 2, .inl (cr 2, 8, .inl (g 2))), (ka 2, .inl (ck 2, 32, .inl (v 2))), (da 0, .inr (2, oD F213 (ra 0) (ka 0))), (ra 0, .inl (cr 0, 8, .inl g14)), (ka 0, .inl (ck 0, 32, .inl cd215))] H := hP
            replace hD : va_D A [(h0, .inr (0, oT uT p9 a9 e9 n9 o9)), (a9, .inl (ca, 3, .inr (.inr (.inr (.inr (mo da)))))), (da 1, .inr (2, oD (F 1) (ra 1) (ka 1))), (ra 1, .inl (cr 1, 8, .inl (g 1))), (ka 1, .inl (ck 1, 32, .inl (v 1))), (da 2, .inr (2, oD (F 2) (ra 2) (ka 2))), (ra 2, .inl (cr 2, 8, .inl (g 2))), (ka 2, .inl (ck 2, 32, .inl (v 2))), (da 0, .inr (2, oD F213 (ra 0) (ka 0))), (ra 0, .inl (cr 0, 8, .inl g14)), (ka 0, .inl (ck 0, 32, .inl cd215))] := hD
            replace hK : va_K (dC, dI) classes [(ca, .object "VotedTriple$VotedModule"), (cr 1, .int), (ck 1, .int), (cr 2, .int), (ck 2, .int), (cr 0, .int), (ck 0, .int)] s := hK
            refine W.widen (k := 0) (n := 0) (Nat.le_of_ble_eq_true rfl) (Nat.le_of_ble_eq_true rfl) ?_
            have pf16 := (modI_F hr12)
            refine lv_iconst (v := 1) hx hb d_T_swap_60 (by decide) ?_
            have hP9 := hP.sub (ws' := [(h0, .inr (0, oT uT p9 a9 e9 n9 o9)), (a9, .inl (ca, 3, .inr (.inr (.inr (.inr (mo da)))))), (da 0, .inr (2, oD (tri F213 (F 1) (F 2) 0) (ra 0) (ka 0))), (ra 0, .inl (cr 0, 8, .inl (tri g14 (g 1) (g 2) 0))), (ka 0, .inl (ck 0, 32, .inl (tri cd215 (v 1) (v 2) 0))), (da 1, .inr (2, oD (tri F213 (F 1) (F 2) 1) (ra 1) (ka 1))), (ra 1, .inl (cr 1, 8, .inl (tri g14 (g 1) (g 2) 1))), (ka 1, .inl (ck 1, 32, .inl (tri cd215 (v 1) (v 2) 1))), (da 2, .inr (2, oD (tri F213 (F 1) (F 2) 2) (ra 2) (ka 2))), (ra 2, .inl (cr 2, 8, .inl (tri g14 (g 1) (g 2) 2))), (ka 2, .inl (ck 2, 32, .inl (tri cd215 (v 1) (v 2) 2)))]) [0, 1, 8, 9, 10, 2, 3, 4, 5, 6, 7] rfl
            have hD9 := hD.sub (ws' := [(h0, .inr (0, oT uT p9 a9 e9 n9 o9)), (a9, .inl (ca, 3, .inr (.inr (.inr (.inr (mo da)))))), (da 0, .inr (2, oD (tri F213 (F 1) (F 2) 0) (ra 0) (ka 0))), (ra 0, .inl (cr 0, 8, .inl (tri g14 (g 1) (g 2) 0))), (ka 0, .inl (ck 0, 32, .inl (tri cd215 (v 1) (v 2) 0))), (da 1, .inr (2, oD (tri F213 (F 1) (F 2) 1) (ra 1) (ka 1))), (ra 1, .inl (cr 1, 8, .inl (tri g14 (g 1) (g 2) 1))), (ka 1, .inl (ck 1, 32, .inl (tri cd215 (v 1) (v 2) 1))), (da 2, .inr (2, oD (tri F213 (F 1) (F 2) 2) (ra 2) (ka 2))), (ra 2, .inl (cr 2, 8, .inl (tri g14 (g 1) (g 2) 2))), (ka 2, .inl (ck 2, 32, .inl (tri cd215 (v 1) (v 2) 2)))]) [0, 1, 8, 9, 10, 2, 3, 4, 5, 6, 7] (by decide) rfl
            have hK9 := hK.sub (tys' := [(ca, .object "VotedTriple$VotedModule"), (cr 0, .int), (ck 0, .int), (cr 1, .int), (ck 1, .int), (cr 2, .int), (ck 2, .int)]) [0, 5, 6, 1, 2, 3, 4] rfl
            refine W.widen (k := 0) (n := 0) (Nat.le_of_ble_eq_true rfl) (Nat.le_of_ble_eq_true rfl) ?_
            exact W.zret (v := 1) (ty := .boolean) hx hb hr rfl (fun t ht hW => ⟨⟨_, (tri F213 (F 1) (F 2), tri g14 (g 1) (g 2), tri cd215 (v 1) (v 2)), rfl, ⟨⟨⟨pf16, hF.2.1, hF.2.2⟩, ⟨hr12.2.2.2.2, hg.2.1, hg.2.2⟩⟩, (by rw [← hSP, s_T_swap]; try (rw [if_neg hc3]); try (rw [if_pos hc4]); try (rw [if_pos rfl]); try (rw [← hr6E, bnd_eq]); try (rw [if_neg hc7]); try (rw [if_neg hc10]); try (rw [← hr12E, bnd_eq]); try dsimp only; all_goals rfl)⟩, by rw [ht]; exact hP9, va_K.moved hW.alike hK9, hD9⟩, hS.F ht⟩) hS.2.2 d_T_swap_61
          · --  (bI (cgB uT (r5 - (0 : Int32)))) = 0
            refine lv_iconst (v := 0) hx hb d_T_swap_48 (by decide) ?_
            have hP9 := hP.sub (ws' := [(h0, .inr (0, oT uT p9 a9 e9 n9 o9)), (a9, .inl (ca, 3, .inr (.inr (.inr (.inr (mo da)))))), (da 0, .inr (2, oD (F 0) (ra 0) (ka 0))), (ra 0, .inl (cr 0, 8, .inl (g 0))), (ka 0, .inl (ck 0, 32, .inl (v 0))), (da 1, .inr (2, oD (F 1) (ra 1) (ka 1))), (ra 1, .inl (cr 1, 8, .inl (g 1))), (ka 1, .inl (ck 1, 32, .inl (v 1))), (da 2, .inr (2, oD (F 2) (ra 2) (ka 2))), (ra 2, .inl (cr 2, 8, .inl (g 2))), (ka 2, .inl (ck 2, 32, .inl (v 2)))]) [0, 1, 2, 3, 4, 5, 6, 7, 8, 9, 10] rfl
            have hD9 := hD.sub (ws' := [(h0, .inr (0, oT uT p9 a9 e9 n9 o9)), (a9, .inl (ca, 3, .inr (.inr (.inr (.inr (mo da)))))), (da 0, .inr (2, oD (F 0) (ra 0) (ka 0))), (ra 0, .inl (cr 0, 8, .inl (g 0))), (ka 0, .inl (ck 0, 32, .inl (v 0))), (da 1, .inr (2, oD (F 1) (ra 1) (ka 1))), (ra 1, .inl (cr 1, 8, .inl (g 1))), (ka 1, .inl (ck 1, 32, .inl (v 1))), (da 2, .inr (2, oD (F 2) (ra 2) (ka 2))), (ra 2, .inl (cr 2, 8, .inl (g 2))), (ka 2, .inl (ck 2, 32, .inl (v 2)))]) [0, 1, 2, 3, 4, 5, 6, 7, 8, 9, 10] (by decide) rfl
            have hK9 := hK.sub (tys' := [(ca, .object "VotedTriple$VotedModule"), (cr 0, .int), (ck 0, .int), (cr 1, .int), (ck 1, .int), (cr 2, .int), (ck 2, .int)]) [0, 1, 2, 3, 4, 5, 6] rfl
            refine W.widen (k := 0) (n := 0) (Nat.le_of_ble_eq_true rfl) (Nat.le_of_ble_eq_true rfl) ?_
            exact W.zret (v := 0) (ty := .boolean) hx hb hr rfl (fun t ht hW => ⟨⟨_, (F, g, v), rfl, ⟨⟨hF, hg⟩, (by rw [← hSP, s_T_swap]; try (rw [if_neg hc3]); try (rw [if_pos hc4]); try (rw [if_pos rfl]); try (rw [← hr6E, bnd_eq]); try (rw [if_neg hc7]); try (rw [if_pos hc10]); all_goals rfl)⟩, by rw [ht]; exact hP9, va_K.moved hW.alike hK9, hD9⟩, hS.F ht⟩) hS.2.2 d_T_swap_49
        · --  (F 0 8) = 0
          refine lv_iconst (v := 1) hx hb d_T_swap_33 (by decide) ?_
          refine lv_goto (tgt := 38) hx hb d_T_swap_34 rfl ?_
          refine lv_isub hx hb d_T_swap_38 ?_
          refine lv_istore_n hx hb d_T_swap_39 rfl hl (by decide) rfl (fun ls hl => ?_)
          replace hl : lv_has ls 3 [(2, .int (r5 - (1 : Int32))), (0, .ref h0), (1, .int 0)] := hl
          refine lv_aload_n hx hb d_T_swap_40 rfl (lv_at hl 1 rfl) ?_
          refine lv_iload_n hx hb d_T_swap_41 rfl (lv_at hl 0 rfl) ?_
          replace hPc := hP.sub (ws' := [(h0, .inr (0, oT uT p9 a9 e9 n9 o9))]) [0] rfl
          replace hKc := hK.sub (tys' := []) [] rfl
          refine vp_callSi (va_runV (C := "VotedTriple") (As := [.int (r5 - (1 : Int32))]) (rest := []) ⟨hx, hb, hml, hown, hw⟩ (c_T_canGoOnWith l dC dI h0 p9 a9 e9 n9 o9 uT (r5 - (1 : Int32))) (cwV 1 hw (gdV (k_355) (k_352) (k_354) (ks_2) (k_1)) rfl rfl rfl (by decide +kernel) ⟨Nat.le_of_ble_eq_true rfl, Nat.le_of_ble_eq_true rfl⟩) ⟨fun a U g mk q => ⟨q.1, q.2.1, va_K.moved (u := U) (U := U.calling g mk a) (Vm.Alike.refl U.vm) q.2.2⟩, va_recv hK hP rfl (q0 := 0) rfl, fun U hU hW => ⟨rfl, by rw [hU]; exact hPc, va_K.moved hW.alike hKc⟩⟩ rfl rfl hl.1 rfl (lv_room (Nat.le_of_ble_eq_true rfl)) d_T_swap_42 ⟨Nat.le_of_ble_eq_true rfl, Nat.le_of_ble_eq_true rfl⟩).run (fun r17 hr18 => ?_)
          subst hr18
          refine lv_if_ne (tgt := 50) hx hb d_T_swap_45 rfl (fun hc19 => ?_) (fun hc19 => ?_)
          · --  ¬ (bI (cgB uT (r5 - (1 : Int32)))) = 0
            refine lv_aload_n hx hb d_T_swap_50 rfl (lv_at hl 1 rfl) ?_
            refine va_get (D := (dC, dI)) (ci := 0) (v := .ref a9) (C := "VotedTriple") (T := F_T) (N := 11) hx hb hw in_T hown hK hP 0 rfl rfl 1 (by decide) (hw _ k_195) (fun _ h9 => h9) rfl d_T_swap_51 ?_
            refine lv_iload_n hx hb d_T_swap_54 rfl (lv_at hl 2 rfl) ?_
            refine va_aldq hx hb hK hP 1 0 rfl rfl (by unfold vp_in; decide) d_T_swap_55 ?_
            refine W.eq (g2 := F0 m 56 ls [.ref (da 0)]) rfl ?_
            refine lv_iconst (v := 1) hx hb d_T_swap_56 (by decide) ?_
            replace hPc := hP.sub (ws' := [(da 0, .inr (2, oD (F 0) (ra 0) (ka 0))), (ra 0, .inl (cr 0, 8, .inl (g 0))), (ka 0, .inl (ck 0, 32, .inl (v 0)))]) [2, 3, 4] rfl
            replace hKc := hK.sub (tys' := [(cr 0, .int), (ck 0, .int)]) [1, 2] rfl
            replace hDc := hD.sub (ws' := [(da 0, .inr (2, oD (F 0) (ra 0) (ka 0))), (ra 0, .inl (cr 0, 8, .inl (g 0))), (ka 0, .inl (ck 0, 32, .inl (v 0)))]) [2, 3, 4] (by decide) rfl
            replace hFc := va_free (wc := [(da 0, .inr (2, oD (F 0) (ra 0) (ka 0))), (ra 0, .inl (cr 0, 8, .inl (g 0))), (ka 0, .inl (ck 0, 32, .inl (v 0)))]) hD hS hA [2, 3, 4] rfl
            refine va_callv (va_runV (C := "VotedTriple$VotedModule") (As := [.int 1]) (rest := []) ⟨hx, hb, hml, hown, hw⟩ (c_D_makeBlank l dC dI (da 0) (ra 0) (ka 0) (F 0) (cr 0) (g 0) (ck 0) (v 0) 1 (modI_of hF.1 hg.1) t9 s.heap.size) (cwV 1 hw (gdV (k_265) (k_262) (k_263) (k_264) (k_7)) rfl rfl rfl (by decide +kernel) ⟨Nat.le_of_ble_eq_true rfl, Nat.le_of_ble_eq_true rfl⟩) ⟨fun a U g mk q => by obtain ⟨q0, q1, qP, qK, qD, qN, qB⟩ := q; exact ⟨q0, q1, qP, va_K.moved (u := U) (U := U.calling g mk a) (Vm.Alike.refl U.vm) qK, qD, nw_vm (u := U) (U := U.calling g mk a) rfl qN, cb_vm (u := U) (U := U.calling g mk a) rfl qB⟩, va_recv hK hP rfl (q0 := 2) rfl, fun U hU hW => ⟨rfl, by rw [hU], by rw [hU]; exact hPc, va_K.moved hW.alike hKc, hDc.weaken (fun _ _ _ _ => trivial), nw_warm hW hnw, by rw [hU]; exact cb_narrow (cb_warm hW (cb_kept hcb (fun a h1 h2 => hS.2.1 a h1 h2))) hFc⟩⟩ rfl rfl hl.1 rfl (lv_room (Nat.le_of_ble_eq_true rfl)) d_T_swap_57 ⟨Nat.le_of_ble_eq_true rfl, Nat.le_of_ble_eq_true rfl⟩) hS (fun q _ h => hFc q h) hFc (fun u9 t H1 locs ht hvm hr21 hB hz1 hk1 hS => ?_)
            obtain ⟨F222, g23, cd224⟩ := u9
            obtain ⟨hP1, hK1, hD1⟩ := hB
            rw [ht] at hP1
            replace hK1 := va_K.moved hvm.symm hK1
            try dsimp only at hr21 hP1 hK1 hD1
            obtain ⟨hr21, hr21E⟩ := hr21
            obtain ⟨hPz, hDz⟩ := va_join (wr := [(h0, .inr (0, oT uT p9 a9 e9 n9 o9)), (a9, .inl (ca, 3, .inr (.inr (.inr (.inr (mo da)))))), (da 1, .inr (2, oD (F 1) (ra 1) (ka 1))), (ra 1, .inl (cr 1, 8, .inl (g 1))), (ka 1, .inl (ck 1, 32, .inl (v 1))), (da 2, .inr (2, oD (F 2) (ra 2) (ka 2))), (ra 2, .inl (cr 2, 8, .inl (g 2))), (ka 2, .inl (ck 2, 32, .inl (v 2)))]) (w1 := [(da 0, .inr (2, oD F222 (ra 0) (ka 0))), (ra 0, .inl (cr 0, 8, .inl g23)), (ka 0, .inl (ck 0, 32, .inl cd224))]) hP hD [2, 3, 4] [0, 1, 5, 6, 7, 8, 9, 10] rfl rfl (by decide) (by decide) hk1 hFc hP1 hD1
            clear hP hD hPc hDc hP1 hD1 hFc
            have hP := hPz
            have hD := hDz
            clear hPz hDz
            replace hK := (hK.sub (tys' := [(ca, .object "VotedTriple$VotedModule"), (cr 1, .int), (ck 1, .int), (cr 2, .int), (ck 2, .int)]) [0, 3, 4, 5, 6] rfl).app hK1
            clear hK1 hKc
            generalize H1 = H at hP hS ⊢
            replace hP : va_P (dC, dI) classes [(h0, .inr (0, oT uT p9 a9 e9 n9 o9)), (a9, .inl (ca, 3, .inr (.inr (.inr (.inr (mo da)))))), (da 1, .inr (2, oD (F 1) (ra 1) (ka 1))), (ra 1, .inl (cr 1, 8, .inl (g 1))), (ka 1, .inl (ck 1, 32, .inl (v 1))), (da 2, .inr (2, oD (F 2) (ra 2) (ka 2))), (ra 2, .inl (cr 2, 8, .inl (g 2))), (ka 2, .inl (ck 2, 32, .inl (v 2))), (da 0, .inr (2, oD F222 (ra 0) (ka 0))), (ra 0, .inl (cr 0, 8, .inl g23)), (ka 0, .inl (ck 0, 32, .inl cd224))] H := hP
            replace hD : va_D A [(h0, .inr (0, oT uT p9 a9 e9 n9 o9)), (a9, .inl (ca, 3, .inr (.inr (.inr (.inr (mo da)))))), (da 1, .inr (2, oD (F 1) (ra 1) (ka 1))), (ra 1, .inl (cr 1, 8, .inl (g 1))), (ka 1, .inl (ck 1, 32, .inl (v 1))), (da 2, .inr (2, oD (F 2) (ra 2) (ka 2))), (ra 2, .inl (cr 2, 8, .inl (g 2))), (ka 2, .inl (ck 2, 32, .inl (v 2))), (da 0, .inr (2, oD F222 (ra 0) (ka 0))), (ra 0, .inl (cr 0, 8, .inl g23)), (ka 0, .inl (ck 0, 32, .inl cd224))] := hD
            replace hK : va_K (dC, dI) classes [(ca, .object "VotedTriple$VotedModule"), (cr 1, .int), (ck 1, .int), (cr 2, .int), (ck 2, .int), (cr 0, .int), (ck 0, .int)] s := hK
            refine W.widen (k := 0) (n := 0) (Nat.le_of_ble_eq_true rfl) (Nat.le_of_ble_eq_true rfl) ?_
            have pf25 := (modI_F hr21)
            refine lv_iconst (v := 1) hx hb d_T_swap_60 (by decide) ?_
            have hP9 := hP.sub (ws' := [(h0, .inr (0, oT uT p9 a9 e9 n9 o9)), (a9, .inl (ca, 3, .inr (.inr (.inr (.inr (mo da)))))), (da 0, .inr (2, oD (tri F222 (F 1) (F 2) 0) (ra 0) (ka 0))), (ra 0, .inl (cr 0, 8, .inl (tri g23 (g 1) (g 2) 0))), (ka 0, .inl (ck 0, 32, .inl (tri cd224 (v 1) (v 2) 0))), (da 1, .inr (2, oD (tri F222 (F 1) (F 2) 1) (ra 1) (ka 1))), (ra 1, .inl (cr 1, 8, .inl (tri g23 (g 1) (g 2) 1))), (ka 1, .inl (ck 1, 32, .inl (tri cd224 (v 1) (v 2) 1))), (da 2, .inr (2, oD (tri F222 (F 1) (F 2) 2) (ra 2) (ka 2))), (ra 2, .inl (cr 2, 8, .inl (tri g23 (g 1) (g 2) 2))), (ka 2, .inl (ck 2, 32, .inl (tri cd224 (v 1) (v 2) 2)))]) [0, 1, 8, 9, 10, 2, 3, 4, 5, 6, 7] rfl
            have hD9 := hD.sub (ws' := [(h0, .inr (0, oT uT p9 a9 e9 n9 o9)), (a9, .inl (ca, 3, .inr (.inr (.inr (.inr (mo da)))))), (da 0, .inr (2, oD (tri F222 (F 1) (F 2) 0) (ra 0) (ka 0))), (ra 0, .inl (cr 0, 8, .inl (tri g23 (g 1) (g 2) 0))), (ka 0, .inl (ck 0, 32, .inl (tri cd224 (v 1) (v 2) 0))), (da 1, .inr (2, oD (tri F222 (F 1) (F 2) 1) (ra 1) (ka 1))), (ra 1, .inl (cr 1, 8, .inl (tri g23 (g 1) (g 2) 1))), (ka 1, .inl (ck 1, 32, .inl (tri cd224 (v 1) (v 2) 1))), (da 2, .inr (2, oD (tri F222 (F 1) (F 2) 2) (ra 2) (ka 2))), (ra 2, .inl (cr 2, 8, .inl (tri g23 (g 1) (g 2) 2))), (ka 2, .inl (ck 2, 32, .inl (tri cd224 (v 1) (v 2) 2)))]) [0, 1, 8, 9, 10, 2, 3, 4, 5, 6, 7] (by decide) rfl
            have hK9 := hK.sub (tys' := [(ca, .object "VotedTriple$VotedModule"), (cr 0, .int), (ck 0, .int), (cr 1, .int), (ck 1, .int), (cr 2, .int), (ck 2, .int)]) [0, 5, 6, 1, 2, 3, 4] rfl
            refine W.widen (k := 0) (n := 0) (Nat.le_of_ble_eq_true rfl) (Nat.le_of_ble_eq_true rfl) ?_
            exact W.zret (v := 1) (ty := .boolean) hx hb hr rfl (fun t ht hW => ⟨⟨_, (tri F222 (F 1) (F 2), tri g23 (g 1) (g 2), tri cd224 (v 1) (v 2)), rfl, ⟨⟨⟨pf25, hF.2.1, hF.2.2⟩, ⟨hr21.2.2.2.2, hg.2.1, hg.2.2⟩⟩, (by rw [← hSP, s_T_swap]; try (rw [if_neg hc3]); try (rw [if_pos hc4]); try (rw [if_pos rfl]); try (rw [← hr6E, bnd_eq]); try (rw [if_pos hc7]); try (rw [if_neg hc19]); try (rw [← hr21E, bnd_eq]); try dsimp only; all_goals rfl)⟩, by rw [ht]; exact hP9, va_K.moved hW.alike hK9, hD9⟩, hS.F ht⟩) hS.2.2 d_T_swap_61
          · --  (bI (cgB uT (r5 - (1 : Int32)))) = 0
            refine lv_iconst (v := 0) hx hb d_T_swap_48 (by decide) ?_
            have hP9 := hP.sub (ws' := [(h0, .inr (0, oT uT p9 a9 e9 n9 o9)), (a9, .inl (ca, 3, .inr (.inr (.inr (.inr (mo da)))))), (da 0, .inr (2, oD (F 0) (ra 0) (ka 0))), (ra 0, .inl (cr 0, 8, .inl (g 0))), (ka 0, .inl (ck 0, 32, .inl (v 0))), (da 1, .inr (2, oD (F 1) (ra 1) (ka 1))), (ra 1, .inl (cr 1, 8, .inl (g 1))), (ka 1, .inl (ck 1, 32, .inl (v 1))), (da 2, .inr (2, oD (F 2) (ra 2) (ka 2))), (ra 2, .inl (cr 2, 8, .inl (g 2))), (ka 2, .inl (ck 2, 32, .inl (v 2)))]) [0, 1, 2, 3, 4, 5, 6, 7, 8, 9, 10] rfl
            have hD9 := hD.sub (ws' := [(h0, .inr (0, oT uT p9 a9 e9 n9 o9)), (a9, .inl (ca, 3, .inr (.inr (.inr (.inr (mo da)))))), (da 0, .inr (2, oD (F 0) (ra 0) (ka 0))), (ra 0, .inl (cr 0, 8, .inl (g 0))), (ka 0, .inl (ck 0, 32, .inl (v 0))), (da 1, .inr (2, oD (F 1) (ra 1) (ka 1))), (ra 1, .inl (cr 1, 8, .inl (g 1))), (ka 1, .inl (ck 1, 32, .inl (v 1))), (da 2, .inr (2, oD (F 2) (ra 2) (ka 2))), (ra 2, .inl (cr 2, 8, .inl (g 2))), (ka 2, .inl (ck 2, 32, .inl (v 2)))]) [0, 1, 2, 3, 4, 5, 6, 7, 8, 9, 10] (by decide) rfl
            have hK9 := hK.sub (tys' := [(ca, .object "VotedTriple$VotedModule"), (cr 0, .int), (ck 0, .int), (cr 1, .int), (ck 1, .int), (cr 2, .int), (ck 2, .int)]) [0, 1, 2, 3, 4, 5, 6] rfl
            refine W.widen (k := 0) (n := 0) (Nat.le_of_ble_eq_true rfl) (Nat.le_of_ble_eq_true rfl) ?_
            exact W.zret (v := 0) (ty := .boolean) hx hb hr rfl (fun t ht hW => ⟨⟨_, (F, g, v), rfl, ⟨⟨hF, hg⟩, (by rw [← hSP, s_T_swap]; try (rw [if_neg hc3]); try (rw [if_pos hc4]); try (rw [if_pos rfl]); try (rw [← hr6E, bnd_eq]); try (rw [if_pos hc7]); try (rw [if_pos hc19]); all_goals rfl)⟩, by rw [ht]; exact hP9, va_K.moved hW.alike hK9, hD9⟩, hS.F ht⟩) hS.2.2 d_T_swap_49
      · --  1
        refine lv_aload_n hx hb d_T_swap_17 rfl (lv_at hl 0 rfl) ?_
        replace hPc := hP.sub (ws' := [(h0, .inr (0, oT uT p9 a9 e9 n9 o9)), (a9, .inl (ca, 3, .inr (.inr (.inr (.inr (mo da)))))), (da 0, .inr (2, oD (F 0) (ra 0) (ka 0))), (da 1, .inr (2, oD (F 1) (ra 1) (ka 1))), (da 2, .inr (2, oD (F 2) (ra 2) (ka 2)))]) [0, 1, 2, 5, 8] rfl
        replace hKc := hK.sub (tys' := [(ca, .object "VotedTriple$VotedModule")]) [0] rfl
        refine vp_callSi (va_runV (C := "VotedTriple") (As := []) (rest := []) ⟨hx, hb, hml, hown, hw⟩ (c_T_countInStep l dC dI h0 p9 a9 e9 n9 o9 ca da ra ka uT F) (cwV 0 hw (gdV (k_351) (k_348) (k_350) (ks_1) (k_1)) rfl rfl rfl (by decide +kernel) ⟨Nat.le_of_ble_eq_true rfl, Nat.le_of_ble_eq_true rfl⟩) ⟨fun a U g mk q => ⟨q.1, q.2.1, va_K.moved (u := U) (U := U.calling g mk a) (Vm.Alike.refl U.vm) q.2.2⟩, va_recv hK hP rfl (q0 := 0) rfl, fun U hU hW => ⟨rfl, by rw [hU]; exact hPc, va_K.moved hW.alike hKc⟩⟩ rfl rfl hl.1 rfl (lv_room (Nat.le_of_ble_eq_true rfl)) d_T_swap_18 ⟨Nat.le_of_ble_eq_true rfl, Nat.le_of_ble_eq_true rfl⟩).run (fun r26 hr27 => ?_)
        obtain ⟨hr27, hr27E⟩ := hr27
        refine lv_aload_n hx hb d_T_swap_21 rfl (lv_at hl 0 rfl) ?_
        refine va_get (D := (dC, dI)) (ci := 0) (v := .ref a9) (C := "VotedTriple") (T := F_T) (N := 11) hx hb hw in_T hown hK hP 0 rfl rfl 1 (by decide) (hw _ k_195) (fun _ h9 => h9) rfl d_T_swap_22 ?_
        refine lv_iload_n hx hb d_T_swap_25 rfl (lv_at hl 1 rfl) ?_
        refine va_aldq hx hb hK hP 1 0 rfl rfl (by unfold vp_in; decide) d_T_swap_26 ?_
        refine W.eq (g2 := F0 m 27 ls [.ref (da 1), .int r26]) rfl ?_
        refine va_get (D := (dC, dI)) (ci := 2) (v := .int (F 1 8)) (C := "VotedTriple$VotedModule") (T := F_D) (N := 19) hx hb hw in_D hown hK hP 5 rfl rfl 8 (by decide) (hw _ k_143) (fun _ h9 => h9) rfl d_T_swap_27 ?_
        refine lv_if_ne (tgt := 37) hx hb d_T_swap_30 rfl (fun hc28 => ?_) (fun hc28 => ?_)
        · --  ¬ (F 1 8) = 0
          refine lv_iconst (v := 0) hx hb d_T_swap_37 (by decide) ?_
          refine lv_isub hx hb d_T_swap_38 ?_
          refine lv_istore_n hx hb d_T_swap_39 rfl hl (by decide) rfl (fun ls hl => ?_)
          replace hl : lv_has ls 3 [(2, .int (r26 - (0 : Int32))), (0, .ref h0), (1, .int 1)] := hl
          refine lv_aload_n hx hb d_T_swap_40 rfl (lv_at hl 1 rfl) ?_
          refine lv_iload_n hx hb d_T_swap_41 rfl (lv_at hl 0 rfl) ?_
          replace hPc := hP.sub (ws' := [(h0, .inr (0, oT uT p9 a9 e9 n9 o9))]) [0] rfl
          replace hKc := hK.sub (tys' := []) [] rfl
          refine vp_callSi (va_runV (C := "VotedTriple") (As := [.int (r26 - (0 : Int32))]) (rest := []) ⟨hx, hb, hml, hown, hw⟩ (c_T_canGoOnWith l dC dI h0 p9 a9 e9 n9 o9 uT (r26 - (0 : Int32))) (cwV 1 hw (gdV (k_355) (k_352) (k_354) (ks_2) (k_1)) rfl rfl rfl (by decide +kernel) ⟨Nat.le_of_ble_eq_true rfl, Nat.le_of_ble_eq_true rfl⟩) ⟨fun a U g mk q => ⟨q.1, q.2.1, va_K.moved (u := U) (U := U.calling g mk a) (Vm.Alike.refl U.vm) q.2.2⟩, va_recv hK hP rfl (q0 := 0) rfl, fun U hU hW => ⟨rfl, by rw [hU]; exact hPc, va_K.moved hW.alike hKc⟩⟩ rfl rfl hl.1 rfl (lv_room (Nat.le_of_ble_eq_true rfl)) d_T_swap_42 ⟨Nat.le_of_ble_eq_true rfl, Nat.le_of_ble_eq_true rfl⟩).run (fun r29 hr30 => ?_)
          subst hr30
          refine lv_if_ne (tgt := 50) hx hb d_T_swap_45 rfl (fun hc31 => ?_) (fun hc31 => ?_)
          · --  ¬ (bI (cgB uT (r26 - (0 : Int32)))) = 0
            refine lv_aload_n hx hb d_T_swap_50 rfl (lv_at hl 1 rfl) ?_
            refine va_get (D := (dC, dI)) (ci := 0) (v := .ref a9) (C := "VotedTriple") (T := F_T) (N := 11) hx hb hw in_T hown hK hP 0 rfl rfl 1 (by decide) (hw _ k_195) (fun _ h9 => h9) rfl d_T_swap_51 ?_
            refine lv_iload_n hx hb d_T_swap_54 rfl (lv_at hl 2 rfl) ?_
            refine va_aldq hx hb hK hP 1 0 rfl rfl (by unfold vp_in; decide) d_T_swap_55 ?_
            refine W.eq (g2 := F0 m 56 ls [.ref (da 1)]) rfl ?_
            refine lv_iconst (v := 1) hx hb d_T_swap_56 (by decide) ?_
            replace hPc := hP.sub (ws' := [(da 1, .inr (2, oD (F 1) (ra 1) (ka 1))), (ra 1, .inl (cr 1, 8, .inl (g 1))), (ka 1, .inl (ck 1, 32, .inl (v 1)))]) [5, 6, 7] rfl
            replace hKc := hK.sub (tys' := [(cr 1, .int), (ck 1, .int)]) [3, 4] rfl
            replace hDc := hD.sub (ws' := [(da 1, .inr (2, oD (F 1) (ra 1) (ka 1))), (ra 1, .inl (cr 1, 8, .inl (g 1))), (ka 1, .inl (ck 1, 32, .inl (v 1)))]) [5, 6, 7] (by decide) rfl
            replace hFc := va_free (wc := [(da 1, .inr (2, oD (F 1) (ra 1) (ka 1))), (ra 1, .inl (cr 1, 8, .inl (g 1))), (ka 1, .inl (ck 1, 32, .inl (v 1)))]) hD hS hA [5, 6, 7] rfl
            refine va_callv (va_runV (C := "VotedTriple$VotedModule") (As := [.int 1]) (rest := []) ⟨hx, hb, hml, hown, hw⟩ (c_D_makeBlank l dC dI (da 1) (ra 1) (ka 1) (F 1) (cr 1) (g 1) (ck 1) (v 1) 1 (modI_of hF.2.1 hg.2.1) t9 s.heap.size) (cwV 1 hw (gdV (k_265) (k_262) (k_263) (k_264) (k_7)) rfl rfl rfl (by decide +kernel) ⟨Nat.le_of_ble_eq_true rfl, Nat.le_of_ble_eq_true rfl⟩) ⟨fun a U g mk q => by obtain ⟨q0, q1, qP, qK, qD, qN, qB⟩ := q; exact ⟨q0, q1, qP, va_K.moved (u := U) (U := U.calling g mk a) (Vm.Alike.refl U.vm) qK, qD, nw_vm (u := U) (U := U.calling g mk a) rfl qN, cb_vm (u := U) (U := U.calling g mk a) rfl qB⟩, va_recv hK hP rfl (q0 := 5) rfl, fun U hU hW => ⟨rfl, by rw [hU], by rw [hU]; exact hPc, va_K.moved hW.alike hKc, hDc.weaken (fun _ _ _ _ => trivial), nw_warm hW hnw, by rw [hU]; exact cb_narrow (cb_warm hW (cb_kept hcb (fun a h1 h2 => hS.2.1 a h1 h2))) hFc⟩⟩ rfl rfl hl.1 rfl (lv_room (Nat.le_of_ble_eq_true rfl)) d_T_swap_57 ⟨Nat.le_of_ble_eq_true rfl, Nat.le_of_ble_eq_true rfl⟩) hS (fun q _ h => hFc q h) hFc (fun u9 t H1 locs ht hvm hr33 hB hz1 hk1 hS => ?_)
            obtain ⟨F234, g35, cd236⟩ := u9
            obtain ⟨hP1, hK1, hD1⟩ := hB
            rw [ht] at hP1
            replace hK1 := va_K.moved hvm.symm hK1
            try dsimp only at hr33 hP1 hK1 hD1
            obtain ⟨hr33, hr33E⟩ := hr33
            obtain ⟨hPz, hDz⟩ := va_join (wr := [(h0, .inr (0, oT uT p9 a9 e9 n9 o9)), (a9, .inl (ca, 3, .inr (.inr (.inr (.inr (mo da)))))), (da 0, .inr (2, oD (F 0) (ra 0) (ka 0))), (ra 0, .inl (cr 0, 8, .inl (g 0))), (ka 0, .inl (ck 0, 32, .inl (v 0))), (da 2, .inr (2, oD (F 2) (ra 2) (ka 2))), (ra 2, .inl (cr 2, 8, .inl (g 2))), (ka 2, .inl (ck 2, 32, .inl (v 2)))]) (w1 := [(da 1, .inr (2, oD F234 (ra 1) (ka 1))), (ra 1, .inl (cr 1, 8, .inl g35)), (ka 1, .inl (ck 1, 32, .inl cd236))]) hP hD [5, 6, 7] [0, 1, 2, 3, 4, 8, 9, 10] rfl rfl (by decide) (by decide) hk1 hFc hP1 hD1
            clear hP hD hPc hDc hP1 hD1 hFc
            have hP := hPz
            have hD := hDz
            clear hPz hDz
            replace hK := (hK.sub (tys' := [(ca, .object "VotedTriple$VotedModule"), (cr 0, .int), (ck 0, .int), (cr 2, .int), (ck 2, .int)]) [0, 1, 2, 5, 6] rfl).app hK1
            clear hK1 hKc
            generalize H1 = H at hP hS ⊢
            replace hP : va_P (dC, dI) classes [(h0, .inr (0, oT uT p9 a9 e9 n9 o9)), (a9, .inl (ca, 3, .inr (.inr (.inr (.inr (mo da)))))), (da 0, .inr (2, oD (F 0) (ra 0) (ka 0))), (ra 0, .inl (cr 0, 8, .inl (g 0))), (ka 0, .inl (ck 0, 32, .inl (v 0))), (da 2, .inr (2, oD (F 2) (ra 2) (ka 2))), (ra 2, .inl (cr 2, 8, .inl (g 2))), (ka 2, .inl (ck 2, 32, .inl (v 2))), (da 1, .inr (2, oD F234 (ra 1) (ka 1))), (ra 1, .inl (cr 1, 8, .inl g35)), (ka 1, .inl (ck 1, 32, .inl cd236))] H := hP
            replace hD : va_D A [(h0, .inr (0, oT uT p9 a9 e9 n9 o9)), (a9, .inl (ca, 3, .inr (.inr (.inr (.inr (mo da)))))), (da 0, .inr (2, oD (F 0) (ra 0) (ka 0))), (ra 0, .inl (cr 0, 8, .inl (g 0))), (ka 0, .inl (ck 0, 32, .inl (v 0))), (da 2, .inr (2, oD (F 2) (ra 2) (ka 2))), (ra 2, .inl (cr 2, 8, .inl (g 2))), (ka 2, .inl (ck 2, 32, .inl (v 2))), (da 1, .inr (2, oD F234 (ra 1) (ka 1))), (ra 1, .inl (cr 1, 8, .inl g35)), (ka 1, .inl (ck 1, 32, .inl cd236))] := hD
            replace hK : va_K (dC, dI) classes [(ca, .object "VotedTriple$VotedModule"), (cr 0, .int), (ck 0, .int), (cr 2, .int), (ck 2, .int), (cr 1, .int), (ck 1, .int)] s := hK
            refine W.widen (k := 0) (n := 0) (Nat.le_of_ble_eq_true rfl) (Nat.le_of_ble_eq_true rfl) ?_
            have pf37 := (modI_F hr33)
            refine lv_iconst (v := 1) hx hb d_T_swap_60 (by decide) ?_
            have hP9 := hP.sub (ws' := [(h0, .inr (0, oT uT p9 a9 e9 n9 o9)), (a9, .inl (ca, 3, .inr (.inr (.inr (.inr (mo da)))))), (da 0, .inr (2, oD (tri (F 0) F234 (F 2) 0) (ra 0) (ka 0))), (ra 0, .inl (cr 0, 8, .inl (tri (g 0) g35 (g 2) 0))), (ka 0, .inl (ck 0, 32, .inl (tri (v 0) cd236 (v 2) 0))), (da 1, .inr (2, oD (tri (F 0) F234 (F 2) 1) (ra 1) (ka 1))), (ra 1, .inl (cr 1, 8, .inl (tri (g 0) g35 (g 2) 1))), (ka 1, .inl (ck 1, 32, .inl (tri (v 0) cd236 (v 2) 1))), (da 2, .inr (2, oD (tri (F 0) F234 (F 2) 2) (ra 2) (ka 2))), (ra 2, .inl (cr 2, 8, .inl (tri (g 0) g35 (g 2) 2))), (ka 2, .inl (ck 2, 32, .inl (tri (v 0) cd236 (v 2) 2)))]) [0, 1, 2, 3, 4, 8, 9, 10, 5, 6, 7] rfl
            have hD9 := hD.sub (ws' := [(h0, .inr (0, oT uT p9 a9 e9 n9 o9)), (a9, .inl (ca, 3, .inr (.inr (.inr (.inr (mo da)))))), (da 0, .inr (2, oD (tri (F 0) F234 (F 2) 0) (ra 0) (ka 0))), (ra 0, .inl (cr 0, 8, .inl (tri (g 0) g35 (g 2) 0))), (ka 0, .inl (ck 0, 32, .inl (tri (v 0) cd236 (v 2) 0))), (da 1, .inr (2, oD (tri (F 0) F234 (F 2) 1) (ra 1) (ka 1))), (ra 1, .inl (cr 1, 8, .inl (tri (g 0) g35 (g 2) 1))), (ka 1, .inl (ck 1, 32, .inl (tri (v 0) cd236 (v 2) 1))), (da 2, .inr (2, oD (tri (F 0) F234 (F 2) 2) (ra 2) (ka 2))), (ra 2, .inl (cr 2, 8, .inl (tri (g 0) g35 (g 2) 2))), (ka 2, .inl (ck 2, 32, .inl (tri (v 0) cd236 (v 2) 2)))]) [0, 1, 2, 3, 4, 8, 9, 10, 5, 6, 7] (by decide) rfl
            have hK9 := hK.sub (tys' := [(ca, .object "VotedTriple$VotedModule"), (cr 0, .int), (ck 0, .int), (cr 1, .int), (ck 1, .int), (cr 2, .int), (ck 2, .int)]) [0, 1, 2, 5, 6, 3, 4] rfl
            refine W.widen (k := 0) (n := 0) (Nat.le_of_ble_eq_true rfl) (Nat.le_of_ble_eq_true rfl) ?_
            exact W.zret (v := 1) (ty := .boolean) hx hb hr rfl (fun t ht hW => ⟨⟨_, (tri (F 0) F234 (F 2), tri (g 0) g35 (g 2), tri (v 0) cd236 (v 2)), rfl, ⟨⟨⟨hF.1, pf37, hF.2.2⟩, ⟨hg.1, hr33.2.2.2.2, hg.2.2⟩⟩, (by rw [← hSP, s_T_swap]; try (rw [if_neg hc3]); try (rw [if_pos hc4]); try (rw [if_neg (by decide)]); try (rw [if_pos rfl]); try (rw [← hr27E, bnd_eq]); try (rw [if_neg hc28]); try (rw [if_neg hc31]); try (rw [← hr33E, bnd_eq]); try dsimp only; all_goals rfl)⟩, by rw [ht]; exact hP9, va_K.moved hW.alike hK9, hD9⟩, hS.F ht⟩) hS.2.2 d_T_swap_61
          · --  (bI (cgB uT (r26 - (0 : Int32)))) = 0
            refine lv_iconst (v := 0) hx hb d_T_swap_48 (by decide) ?_
            have hP9 := hP.sub (ws' := [(h0, .inr (0, oT uT p9 a9 e9 n9 o9)), (a9, .inl (ca, 3, .inr (.inr (.inr (.inr (mo da)))))), (da 0, .inr (2, oD (F 0) (ra 0) (ka 0))), (ra 0, .inl (cr 0, 8, .inl (g 0))), (ka 0, .inl (ck 0, 32, .inl (v 0))), (da 1, .inr (2, oD (F 1) (ra 1) (ka 1))), (ra 1, .inl (cr 1, 8, .inl (g 1))), (ka 1, .inl (ck 1, 32, .inl (v 1))), (da 2, .inr (2, oD (F 2) (ra 2) (ka 2))), (ra 2, .inl (cr 2, 8, .inl (g 2))), (ka 2, .inl (ck 2, 32, .inl (v 2)))]) [0, 1, 2, 3, 4, 5, 6, 7, 8, 9, 10] rfl
            have hD9 := hD.sub (ws' := [(h0, .inr (0, oT uT p9 a9 e9 n9 o9)), (a9, .inl (ca, 3, .inr (.inr (.inr (.inr (mo da)))))), (da 0, .inr (2, oD (F 0) (ra 0) (ka 0))), (ra 0, .inl (cr 0, 8, .inl (g 0))), (ka 0, .inl (ck 0, 32, .inl (v 0))), (da 1, .inr (2, oD (F 1) (ra 1) (ka 1))), (ra 1, .inl (cr 1, 8, .inl (g 1))), (ka 1, .inl (ck 1, 32, .inl (v 1))), (da 2, .inr (2, oD (F 2) (ra 2) (ka 2))), (ra 2, .inl (cr 2, 8, .inl (g 2))), (ka 2, .inl (ck 2, 32, .inl (v 2)))]) [0, 1, 2, 3, 4, 5, 6, 7, 8, 9, 10] (by decide) rfl
            have hK9 := hK.sub (tys' := [(ca, .object "VotedTriple$VotedModule"), (cr 0, .int), (ck 0, .int), (cr 1, .int), (ck 1, .int), (cr 2, .int), (ck 2, .int)]) [0, 1, 2, 3, 4, 5, 6] rfl
            refine W.widen (k := 0) (n := 0) (Nat.le_of_ble_eq_true rfl) (Nat.le_of_ble_eq_true rfl) ?_
            exact W.zret (v := 0) (ty := .boolean) hx hb hr rfl (fun t ht hW => ⟨⟨_, (F, g, v), rfl, ⟨⟨hF, hg⟩, (by rw [← hSP, s_T_swap]; try (rw [if_neg hc3]); try (rw [if_pos hc4]); try (rw [if_neg (by decide)]); try (rw [if_pos rfl]); try (rw [← hr27E, bnd_eq]); try (rw [if_neg hc28]); try (rw [if_pos hc31]); all_goals rfl)⟩, by rw [ht]; exact hP9, va_K.moved hW.alike hK9, hD9⟩, hS.F ht⟩) hS.2.2 d_T_swap_49
        · --  (F 1 8) = 0
          refine lv_iconst (v := 1) hx hb d_T_swap_33 (by decide) ?_
          refine lv_goto (tgt := 38) hx hb d_T_swap_34 rfl ?_
          refine lv_isub hx hb d_T_swap_38 ?_
          refine lv_istore_n hx hb d_T_swap_39 rfl hl (by decide) rfl (fun ls hl => ?_)
          replace hl : lv_has ls 3 [(2, .int (r26 - (1 : Int32))), (0, .ref h0), (1, .int 1)] := hl
          refine lv_aload_n hx hb d_T_swap_40 rfl (lv_at hl 1 rfl) ?_
          refine lv_iload_n hx hb d_T_swap_41 rfl (lv_at hl 0 rfl) ?_
          replace hPc := hP.sub (ws' := [(h0, .inr (0, oT uT p9 a9 e9 n9 o9))]) [0] rfl
          replace hKc := hK.sub (tys' := []) [] rfl
          refine vp_callSi (va_runV (C := "VotedTriple") (As := [.int (r26 - (1 : Int32))]) (rest := []) ⟨hx, hb, hml, hown, hw⟩ (c_T_canGoOnWith l dC dI h0 p9 a9 e9 n9 o9 uT (r26 - (1 : Int32))) (cwV 1 hw (gdV (k_355) (k_352) (k_354) (ks_2) (k_1)) rfl rfl rfl (by decide +kernel) ⟨Nat.le_of_ble_eq_true rfl, Nat.le_of_ble_eq_true rfl⟩) ⟨fun a U g mk q => ⟨q.1, q.2.1, va_K.moved (u := U) (U := U.calling g mk a) (Vm.Alike.refl U.vm) q.2.2⟩, va_recv hK hP rfl (q0 := 0) rfl, fun U hU hW => ⟨rfl, by rw [hU]; exact hPc, va_K.moved hW.alike hKc⟩⟩ rfl rfl hl.1 rfl (lv_room (Nat.le_of_ble_eq_true rfl)) d_T_swap_42 ⟨Nat.le_of_ble_eq_true rfl, Nat.le_of_ble_eq_true rfl⟩).run (fun r38 hr39 => ?_)
          subst hr39
          refine lv_if_ne (tgt := 50) hx hb d_T_swap_45 rfl (fun hc40 => ?_) (fun hc40 => ?_)
          · --  ¬ (bI (cgB uT (r26 - (1 : Int32)))) = 0
            refine lv_aload_n hx hb d_T_swap_50 rfl (lv_at hl 1 rfl) ?_
            refine va_get (D := (dC, dI)) (ci := 0) (v := .ref a9) (C := "VotedTriple") (T := F_T) (N := 11) hx hb hw in_T hown hK hP 0 rfl rfl 1 (by decide) (hw _ k_195) (fun _ h9 => h9) rfl d_T_swap_51 ?_
            refine lv_iload_n hx hb d_T_swap_54 rfl (lv_at hl 2 rfl) ?_
            refine va_aldq hx hb hK hP 1 0 rfl rfl (by unfold vp_in; decide) d_T_swap_55 ?_
            refine W.eq (g2 := F0 m 56 ls [.ref (da 1)]) rfl ?_
            refine lv_iconst (v := 1) hx hb d_T_swap_56 (by decide) ?_
            replace hPc := hP.sub (ws' := [(da 1, .inr (2, oD (F 1) (ra 1) (ka 1))), (ra 1, .inl (cr 1, 8, .inl (g 1))), (ka 1, .inl (ck 1, 32, .inl (v 1)))]) [5, 6, 7] rfl
            replace hKc := hK.sub (tys' := [(cr 1, .int), (ck 1, .int)]) [3, 4] rfl
            replace hDc := hD.sub (ws' := [(da 1, .inr (2, oD (F 1) (ra 1) (ka 1))), (ra 1, .inl (cr 1, 8, .inl (g 1))), (ka 1, .inl (ck 1, 32, .inl (v 1)))]) [5, 6, 7] (by decide) rfl
            replace hFc := va_free (wc := [(da 1, .inr (2, oD (F 1) (ra 1) (ka 1))), (ra 1, .inl (cr 1, 8, .inl (g 1))), (ka 1, .inl (ck 1, 32, .inl (v 1)))]) hD hS hA [5, 6, 7] rfl
            refine va_callv (va_runV (C := "VotedTriple$VotedModule") (As := [.int 1]) (rest := []) ⟨hx, hb, hml, hown, hw⟩ (c_D_makeBlank l dC dI (da 1) (ra 1) (ka 1) (F 1) (cr 1) (g 1) (ck 1) (v 1) 1 (modI_of hF.2.1 hg.2.1) t9 s.heap.size) (cwV 1 hw (gdV (k_265) (k_262) (k_263) (k_264) (k_7)) rfl rfl rfl (by decide +kernel) ⟨Nat.le_of_ble_eq_true rfl, Nat.le_of_ble_eq_true rfl⟩) ⟨fun a U g mk q => by obtain ⟨q0, q1, qP, qK, qD, qN, qB⟩ := q; exact ⟨q0, q1, qP, va_K.moved (u := U) (U := U.calling g mk a) (Vm.Alike.refl U.vm) qK, qD, nw_vm (u := U) (U := U.calling g mk a) rfl qN, cb_vm (u := U) (U := U.calling g mk a) rfl qB⟩, va_recv hK hP rfl (q0 := 5) rfl, fun U hU hW => ⟨rfl, by rw [hU], by rw [hU]; exact hPc, va_K.moved hW.alike hKc, hDc.weaken (fun _ _ _ _ => trivial), nw_warm hW hnw, by rw [hU]; exact cb_narrow (cb_warm hW (cb_kept hcb (fun a h1 h2 => hS.2.1 a h1 h2))) hFc⟩⟩ rfl rfl hl.1 rfl (lv_room (Nat.le_of_ble_eq_true rfl)) d_T_swap_57 ⟨Nat.le_of_ble_eq_true rfl, Nat.le_of_ble_eq_true rfl⟩) hS (fun q _ h => hFc q h) hFc (fun u9 t H1 locs ht hvm hr42 hB hz1 hk1 hS => ?_)
            obtain ⟨F243, g44, cd245⟩ := u9
            obtain ⟨hP1, hK1, hD1⟩ := hB
            rw [ht] at hP1
            replace hK1 := va_K.moved hvm.symm hK1
            try dsimp only at hr42 hP1 hK1 hD1
            obtain ⟨hr42, hr42E⟩ := hr42
            obtain ⟨hPz, hDz⟩ := va_join (wr := [(h0, .inr (0, oT uT p9 a9 e9 n9 o9)), (a9, .inl (ca, 3, .inr (.inr (.inr (.inr (mo da)))))), (da 0, .inr (2, oD (F 0) (ra 0) (ka 0))), (ra 0, .inl (cr 0, 8, .inl (g 0))), (ka 0, .inl (ck 0, 32, .inl (v 0))), (da 2, .inr (2, oD (F 2) (ra 2) (ka 2))), (ra 2, .inl (cr 2, 8, .inl (g 2))), (ka 2, .inl (ck 2, 32, .inl (v 2)))]) (w1 := [(da 1, .inr (2, oD F243 (ra 1) (ka 1))), (ra 1, .inl (cr 1, 8, .inl g44)), (ka 1, .inl (ck 1, 32, .inl cd245))]) hP hD [5, 6, 7] [0, 1, 2, 3, 4, 8, 9, 10] rfl rfl (by decide) (by decide) hk1 hFc hP1 hD1
            clear hP hD hPc hDc hP1 hD1 hFc
            have hP := hPz
            have hD := hDz
            clear hPz hDz
            replace hK := (hK.sub (tys' := [(ca, .object "VotedTriple$VotedModule"), (cr 0, .int), (ck 0, .int), (cr 2, .int), (ck 2, .int)]) [0, 1, 2, 5, 6] rfl).app hK1
            clear hK1 hKc
            generalize H1 = H at hP hS ⊢
            replace hP : va_P (dC, dI) classes [(h0, .inr (0, oT uT p9 a9 e9 n9 o9)), (a9, .inl (ca, 3, .inr (.inr (.inr (.inr (mo da)))))), (da 0, .inr (2, oD (F 0) (ra 0) (ka 0))), (ra 0, .inl (cr 0, 8, .inl (g 0))), (ka 0, .inl (ck 0, 32, .inl (v 0))), (da 2, .inr (2, oD (F 2) (ra 2) (ka 2))), (ra 2, .inl (cr 2, 8, .inl (g 2))), (ka 2, .inl (ck 2, 32, .inl (v 2))), (da 1, .inr (2, oD F243 (ra 1) (ka 1))), (ra 1, .inl (cr 1, 8, .inl g44)), (ka 1, .inl (ck 1, 32, .inl cd245))] H := hP
            replace hD : va_D A [(h0, .inr (0, oT uT p9 a9 e9 n9 o9)), (a9, .inl (ca, 3, .inr (.inr (.inr (.inr (mo da)))))), (da 0, .inr (2, oD (F 0) (ra 0) (ka 0))), (ra 0, .inl (cr 0, 8, .inl (g 0))), (ka 0, .inl (ck 0, 32, .inl (v 0))), (da 2, .inr (2, oD (F 2) (ra 2) (ka 2))), (ra 2, .inl (cr 2, 8, .inl (g 2))), (ka 2, .inl (ck 2, 32, .inl (v 2))), (da 1, .inr (2, oD F243 (ra 1) (ka 1))), (ra 1, .inl (cr 1, 8, .inl g44)), (ka 1, .inl (ck 1, 32, .inl cd245))] := hD
            replace hK : va_K (dC, dI) classes [(ca, .object "VotedTriple$VotedModule"), (cr 0, .int), (ck 0, .int), (cr 2, .int), (ck 2, .int), (cr 1, .int), (ck 1, .int)] s := hK
            refine W.widen (k := 0) (n := 0) (Nat.le_of_ble_eq_true rfl) (Nat.le_of_ble_eq_true rfl) ?_
            have pf46 := (modI_F hr42)
            refine lv_iconst (v := 1) hx hb d_T_swap_60 (by decide) ?_
            have hP9 := hP.sub (ws' := [(h0, .inr (0, oT uT p9 a9 e9 n9 o9)), (a9, .inl (ca, 3, .inr (.inr (.inr (.inr (mo da)))))), (da 0, .inr (2, oD (tri (F 0) F243 (F 2) 0) (ra 0) (ka 0))), (ra 0, .inl (cr 0, 8, .inl (tri (g 0) g44 (g 2) 0))), (ka 0, .inl (ck 0, 32, .inl (tri (v 0) cd245 (v 2) 0))), (da 1, .inr (2, oD (tri (F 0) F243 (F 2) 1) (ra 1) (ka 1))), (ra 1, .inl (cr 1, 8, .inl (tri (g 0) g44 (g 2) 1))), (ka 1, .inl (ck 1, 32, .inl (tri (v 0) cd245 (v 2) 1))), (da 2, .inr (2, oD (tri (F 0) F243 (F 2) 2) (ra 2) (ka 2))), (ra 2, .inl (cr 2, 8, .inl (tri (g 0) g44 (g 2) 2))), (ka 2, .inl (ck 2, 32, .inl (tri (v 0) cd245 (v 2) 2)))]) [0, 1, 2, 3, 4, 8, 9, 10, 5, 6, 7] rfl
            have hD9 := hD.sub (ws' := [(h0, .inr (0, oT uT p9 a9 e9 n9 o9)), (a9, .inl (ca, 3, .inr (.inr (.inr (.inr (mo da)))))), (da 0, .inr (2, oD (tri (F 0) F243 (F 2) 0) (ra 0) (ka 0))), (ra 0, .inl (cr 0, 8, .inl (tri (g 0) g44 (g 2) 0))), (ka 0, .inl (ck 0, 32, .inl (tri (v 0) cd245 (v 2) 0))), (da 1, .inr (2, oD (tri (F 0) F243 (F 2) 1) (ra 1) (ka 1))), (ra 1, .inl (cr 1, 8, .inl (tri (g 0) g44 (g 2) 1))), (ka 1, .inl (ck 1, 32, .inl (tri (v 0) cd245 (v 2) 1))), (da 2, .inr (2, oD (tri (F 0) F243 (F 2) 2) (ra 2) (ka 2))), (ra 2, .inl (cr 2, 8, .inl (tri (g 0) g44 (g 2) 2))), (ka 2, .inl (ck 2, 32, .inl (tri (v 0) cd245 (v 2) 2)))]) [0, 1, 2, 3, 4, 8, 9, 10, 5, 6, 7] (by decide) rfl
            have hK9 := hK.sub (tys' := [(ca, .object "VotedTriple$VotedModule"), (cr 0, .int), (ck 0, .int), (cr 1, .int), (ck 1, .int), (cr 2, .int), (ck 2, .int)]) [0, 1, 2, 5, 6, 3, 4] rfl
            refine W.widen (k := 0) (n := 0) (Nat.le_of_ble_eq_true rfl) (Nat.le_of_ble_eq_true rfl) ?_
            exact W.zret (v := 1) (ty := .boolean) hx hb hr rfl (fun t ht hW => ⟨⟨_, (tri (F 0) F243 (F 2), tri (g 0) g44 (g 2), tri (v 0) cd245 (v 2)), rfl, ⟨⟨⟨hF.1, pf46, hF.2.2⟩, ⟨hg.1, hr42.2.2.2.2, hg.2.2⟩⟩, (by rw [← hSP, s_T_swap]; try (rw [if_neg hc3]); try (rw [if_pos hc4]); try (rw [if_neg (by decide)]); try (rw [if_pos rfl]); try (rw [← hr27E, bnd_eq]); try (rw [if_pos hc28]); try (rw [if_neg hc40]); try (rw [← hr42E, bnd_eq]); try dsimp only; all_goals rfl)⟩, by rw [ht]; exact hP9, va_K.moved hW.alike hK9, hD9⟩, hS.F ht⟩) hS.2.2 d_T_swap_61
          · --  (bI (cgB uT (r26 - (1 : Int32)))) = 0
            refine lv_iconst (v := 0) hx hb d_T_swap_48 (by decide) ?_
            have hP9 := hP.sub (ws' := [(h0, .inr (0, oT uT p9 a9 e9 n9 o9)), (a9, .inl (ca, 3, .inr (.inr (.inr (.inr (mo da)))))), (da 0, .inr (2, oD (F 0) (ra 0) (ka 0))), (ra 0, .inl (cr 0, 8, .inl (g 0))), (ka 0, .inl (ck 0, 32, .inl (v 0))), (da 1, .inr (2, oD (F 1) (ra 1) (ka 1))), (ra 1, .inl (cr 1, 8, .inl (g 1))), (ka 1, .inl (ck 1, 32, .inl (v 1))), (da 2, .inr (2, oD (F 2) (ra 2) (ka 2))), (ra 2, .inl (cr 2, 8, .inl (g 2))), (ka 2, .inl (ck 2, 32, .inl (v 2)))]) [0, 1, 2, 3, 4, 5, 6, 7, 8, 9, 10] rfl
            have hD9 := hD.sub (ws' := [(h0, .inr (0, oT uT p9 a9 e9 n9 o9)), (a9, .inl (ca, 3, .inr (.inr (.inr (.inr (mo da)))))), (da 0, .inr (2, oD (F 0) (ra 0) (ka 0))), (ra 0, .inl (cr 0, 8, .inl (g 0))), (ka 0, .inl (ck 0, 32, .inl (v 0))), (da 1, .inr (2, oD (F 1) (ra 1) (ka 1))), (ra 1, .inl (cr 1, 8, .inl (g 1))), (ka 1, .inl (ck 1, 32, .inl (v 1))), (da 2, .inr (2, oD (F 2) (ra 2) (ka 2))), (ra 2, .inl (cr 2, 8, .inl (g 2))), (ka 2, .inl (ck 2, 32, .inl (v 2)))]) [0, 1, 2, 3, 4, 5, 6, 7, 8, 9, 10] (by decide) rfl
            have hK9 := hK.sub (tys' := [(ca, .object "VotedTriple$VotedModule"), (cr 0, .int), (ck 0, .int), (cr 1, .int), (ck 1, .int), (cr 2, .int), (ck 2, .int)]) [0, 1, 2, 3, 4, 5, 6] rfl
            refine W.widen (k := 0) (n := 0) (Nat.le_of_ble_eq_true rfl) (Nat.le_of_ble_eq_true rfl) ?_
            exact W.zret (v := 0) (ty := .boolean) hx hb hr rfl (fun t ht hW => ⟨⟨_, (F, g, v), rfl, ⟨⟨hF, hg⟩, (by rw [← hSP, s_T_swap]; try (rw [if_neg hc3]); try (rw [if_pos hc4]); try (rw [if_neg (by decide)]); try (rw [if_pos rfl]); try (rw [← hr27E, bnd_eq]); try (rw [if_pos hc28]); try (rw [if_pos hc40]); all_goals rfl)⟩, by rw [ht]; exact hP9, va_K.moved hW.alike hK9, hD9⟩, hS.F ht⟩) hS.2.2 d_T_swap_49
      · --  2
        refine lv_aload_n hx hb d_T_swap_17 rfl (lv_at hl 0 rfl) ?_
        replace hPc := hP.sub (ws' := [(h0, .inr (0, oT uT p9 a9 e9 n9 o9)), (a9, .inl (ca, 3, .inr (.inr (.inr (.inr (mo da)))))), (da 0, .inr (2, oD (F 0) (ra 0) (ka 0))), (da 1, .inr (2, oD (F 1) (ra 1) (ka 1))), (da 2, .inr (2, oD (F 2) (ra 2) (ka 2)))]) [0, 1, 2, 5, 8] rfl
        replace hKc := hK.sub (tys' := [(ca, .object "VotedTriple$VotedModule")]) [0] rfl
        refine vp_callSi (va_runV (C := "VotedTriple") (As := []) (rest := []) ⟨hx, hb, hml, hown, hw⟩ (c_T_countInStep l dC dI h0 p9 a9 e9 n9 o9 ca da ra ka uT F) (cwV 0 hw (gdV (k_351) (k_348) (k_350) (ks_1) (k_1)) rfl rfl rfl (by decide +kernel) ⟨Nat.le_of_ble_eq_true rfl, Nat.le_of_ble_eq_true rfl⟩) ⟨fun a U g mk q => ⟨q.1, q.2.1, va_K.moved (u := U) (U := U.calling g mk a) (Vm.Alike.refl U.vm) q.2.2⟩, va_recv hK hP rfl (q0 := 0) rfl, fun U hU hW => ⟨rfl, by rw [hU]; exact hPc, va_K.moved hW.alike hKc⟩⟩ rfl rfl hl.1 rfl (lv_room (Nat.le_of_ble_eq_true rfl)) d_T_swap_18 ⟨Nat.le_of_ble_eq_true rfl, Nat.le_of_ble_eq_true rfl⟩).run (fun r47 hr48 => ?_)
        obtain ⟨hr48, hr48E⟩ := hr48
        refine lv_aload_n hx hb d_T_swap_21 rfl (lv_at hl 0 rfl) ?_
        refine va_get (D := (dC, dI)) (ci := 0) (v := .ref a9) (C := "VotedTriple") (T := F_T) (N := 11) hx hb hw in_T hown hK hP 0 rfl rfl 1 (by decide) (hw _ k_195) (fun _ h9 => h9) rfl d_T_swap_22 ?_
        refine lv_iload_n hx hb d_T_swap_25 rfl (lv_at hl 1 rfl) ?_
        refine va_aldq hx hb hK hP 1 0 rfl rfl (by unfold vp_in; decide) d_T_swap_26 ?_
        refine W.eq (g2 := F0 m 27 ls [.ref (da 2), .int r47]) rfl ?_
        refine va_get (D := (dC, dI)) (ci := 2) (v := .int (F 2 8)) (C := "VotedTriple$VotedModule") (T := F_D) (N := 19) hx hb hw in_D hown hK hP 8 rfl rfl 8 (by decide) (hw _ k_143) (fun _ h9 => h9) rfl d_T_swap_27 ?_
        refine lv_if_ne (tgt := 37) hx hb d_T_swap_30 rfl (fun hc49 => ?_) (fun hc49 => ?_)
        · --  ¬ (F 2 8) = 0
          refine lv_iconst (v := 0) hx hb d_T_swap_37 (by decide) ?_
          refine lv_isub hx hb d_T_swap_38 ?_
          refine lv_istore_n hx hb d_T_swap_39 rfl hl (by decide) rfl (fun ls hl => ?_)
          replace hl : lv_has ls 3 [(2, .int (r47 - (0 : Int32))), (0, .ref h0), (1, .int 2)] := hl
          refine lv_aload_n hx hb d_T_swap_40 rfl (lv_at hl 1 rfl) ?_
          refine lv_iload_n hx hb d_T_swap_41 rfl (lv_at hl 0 rfl) ?_
          replace hPc := hP.sub (ws' := [(h0, .inr (0, oT uT p9 a9 e9 n9 o9))]) [0] rfl
          replace hKc := hK.sub (tys' := []) [] rfl
          refine vp_callSi (va_runV (C := "VotedTriple") (As := [.int (r47 - (0 : Int32))]) (rest := []) ⟨hx, hb, hml, hown, hw⟩ (c_T_canGoOnWith l dC dI h0 p9 a9 e9 n9 o9 uT (r47 - (0 : Int32))) (cwV 1 hw (gdV (k_355) (k_352) (k_354) (ks_2) (k_1)) rfl rfl rfl (by decide +kernel) ⟨Nat.le_of_ble_eq_true rfl, Nat.le_of_ble_eq_true rfl⟩) ⟨fun a U g mk q => ⟨q.1, q.2.1, va_K.moved (u := U) (U := U.calling g mk a) (Vm.Alike.refl U.vm) q.2.2⟩, va_recv hK hP rfl (q0 := 0) rfl, fun U hU hW => ⟨rfl, by rw [hU]; exact hPc, va_K.moved hW.alike hKc⟩⟩ rfl rfl hl.1 rfl (lv_room (Nat.le_of_ble_eq_true rfl)) d_T_swap_42 ⟨Nat.le_of_ble_eq_true rfl, Nat.le_of_ble_eq_true rfl⟩).run (fun r50 hr51 => ?_)
          subst hr51
          refine lv_if_ne (tgt := 50) hx hb d_T_swap_45 rfl (fun hc52 => ?_) (fun hc52 => ?_)
          · --  ¬ (bI (cgB uT (r47 - (0 : Int32)))) = 0
            refine lv_aload_n hx hb d_T_swap_50 rfl (lv_at hl 1 rfl) ?_
            refine va_get (D := (dC, dI)) (ci := 0) (v := .ref a9) (C := "VotedTriple") (T := F_T) (N := 11) hx hb hw in_T hown hK hP 0 rfl rfl 1 (by decide) (hw _ k_195) (fun _ h9 => h9) rfl d_T_swap_51 ?_
            refine lv_iload_n hx hb d_T_swap_54 rfl (lv_at hl 2 rfl) ?_
            refine va_aldq hx hb hK hP 1 0 rfl rfl (by unfold vp_in; decide) d_T_swap_55 ?_
            refine W.eq (g2 := F0 m 56 ls [.ref (da 2)]) rfl ?_
            refine lv_iconst (v := 1) hx hb d_T_swap_56 (by decide) ?_
            replace hPc := hP.sub (ws' := [(da 2, .inr (2, oD (F 2) (ra 2) (ka 2))), (ra 2, .inl (cr 2, 8, .inl (g 2))), (ka 2, .inl (ck 2, 32, .inl (v 2)))]) [8, 9, 10] rfl
            replace hKc := hK.sub (tys' := [(cr 2, .int), (ck 2, .int)]) [5, 6] rfl
            replace hDc := hD.sub (ws' := [(da 2, .inr (2, oD (F 2) (ra 2) (ka 2))), (ra 2, .inl (cr 2, 8, .inl (g 2))), (ka 2, .inl (ck 2, 32, .inl (v 2)))]) [8, 9, 10] (by decide) rfl
            replace hFc := va_free (wc := [(da 2, .inr (2, oD (F 2) (ra 2) (ka 2))), (ra 2, .inl (cr 2, 8, .inl (g 2))), (ka 2, .inl (ck 2, 32, .inl (v 2)))]) hD hS hA [8, 9, 10] rfl
            refine va_callv (va_runV (C := "VotedTriple$VotedModule") (As := [.int 1]) (rest := []) ⟨hx, hb, hml, hown, hw⟩ (c_D_makeBlank l dC dI (da 2) (ra 2) (ka 2) (F 2) (cr 2) (g 2) (ck 2) (v 2) 1 (modI_of hF.2.2 hg.2.2) t9 s.heap.size) (cwV 1 hw (gdV (k_265) (k_262) (k_263) (k_264) (k_7)) rfl rfl rfl (by decide +kernel) ⟨Nat.le_of_ble_eq_true rfl, Nat.le_of_ble_eq_true rfl⟩) ⟨fun a U g mk q => by obtain ⟨q0, q1, qP, qK, qD, qN, qB⟩ := q; exact ⟨q0, q1, qP, va_K.moved (u := U) (U := U.calling g mk a) (Vm.Alike.refl U.vm) qK, qD, nw_vm (u := U) (U := U.calling g mk a) rfl qN, cb_vm (u := U) (U := U.calling g mk a) rfl qB⟩, va_recv hK hP rfl (q0 := 8) rfl, fun U hU hW => ⟨rfl, by rw [hU], by rw [hU]; exact hPc, va_K.moved hW.alike hKc, hDc.weaken (fun _ _ _ _ => trivial), nw_warm hW hnw, by rw [hU]; exact cb_narrow (cb_warm hW (cb_kept hcb (fun a h1 h2 => hS.2.1 a h1 h2))) hFc⟩⟩ rfl rfl hl.1 rfl (lv_room (Nat.le_of_ble_eq_true rfl)) d_T_swap_57 ⟨Nat.le_of_ble_eq_true rfl, Nat.le_of_ble_eq_true rfl⟩) hS (fun q _ h => hFc q h) hFc (fun u9 t H1 locs ht hvm hr54 hB hz1 hk1 hS => ?_)
            obtain ⟨F255, g56, cd257⟩ := u9
            obtain ⟨hP1, hK1, hD1⟩ := hB
            rw [ht] at hP1
            replace hK1 := va_K.moved hvm.symm hK1
            try dsimp only at hr54 hP1 hK1 hD1
            obtain ⟨hr54, hr54E⟩ := hr54
            obtain ⟨hPz, hDz⟩ := va_join (wr := [(h0, .inr (0, oT uT p9 a9 e9 n9 o9)), (a9, .inl (ca, 3, .inr (.inr (.inr (.inr (mo da)))))), (da 0, .inr (2, oD (F 0) (ra 0) (ka 0))), (ra 0, .inl (cr 0, 8, .inl (g 0))), (ka 0, .inl (ck 0, 32, .inl (v 0))), (da 1, .inr (2, oD (F 1) (ra 1) (ka 1))), (ra 1, .inl (cr 1, 8, .inl (g 1))), (ka 1, .inl (ck 1, 32, .inl (v 1)))]) (w1 := [(da 2, .inr (2, oD F255 (ra 2) (ka 2))), (ra 2, .inl (cr 2, 8, .inl g56)), (ka 2, .inl (ck 2, 32, .inl cd257))]) hP hD [8, 9, 10] [0, 1, 2, 3, 4, 5, 6, 7] rfl rfl (by decide) (by decide) hk1 hFc hP1 hD1
            clear hP hD hPc hDc hP1 hD1 hFc
            have hP := hPz
            have hD := hDz
            clear hPz hDz
            replace hK := (hK.sub (tys' := [(ca, .object "VotedTriple$VotedModule"), (cr 0, .int), (ck 0, .int), (cr 1, .int), (ck 1, .int)]) [0, 1, 2, 3, 4] rfl).app hK1
            clear hK1 hKc
            generalize H1 = H at hP hS ⊢
            replace hP : va_P (dC, dI) classes [(h0, .inr (0, oT uT p9 a9 e9 n9 o9)), (a9, .inl (ca, 3, .inr (.inr (.inr (.inr (mo da)))))), (da 0, .inr (2, oD (F 0) (ra 0) (ka 0))), (ra 0, .inl (cr 0, 8, .inl (g 0))), (ka 0, .inl (ck 0, 32, .inl (v 0))), (da 1, .inr (2, oD (F 1) (ra 1) (ka 1))), (ra 1, .inl (cr 1, 8, .inl (g 1))), (ka 1, .inl (ck 1, 32, .inl (v 1))), (da 2, .inr (2, oD F255 (ra 2) (ka 2))), (ra 2, .inl (cr 2, 8, .inl g56)), (ka 2, .inl (ck 2, 32, .inl cd257))] H := hP
            replace hD : va_D A [(h0, .inr (0, oT uT p9 a9 e9 n9 o9)), (a9, .inl (ca, 3, .inr (.inr (.inr (.inr (mo da)))))), (da 0, .inr (2, oD (F 0) (ra 0) (ka 0))), (ra 0, .inl (cr 0, 8, .inl (g 0))), (ka 0, .inl (ck 0, 32, .inl (v 0))), (da 1, .inr (2, oD (F 1) (ra 1) (ka 1))), (ra 1, .inl (cr 1, 8, .inl (g 1))), (ka 1, .inl (ck 1, 32, .inl (v 1))), (da 2, .inr (2, oD F255 (ra 2) (ka 2))), (ra 2, .inl (cr 2, 8, .inl g56)), (ka 2, .inl (ck 2, 32, .inl cd257))] := hD
            replace hK : va_K (dC, dI) classes [(ca, .object "VotedTriple$VotedModule"), (cr 0, .int), (ck 0, .int), (cr 1, .int), (ck 1, .int), (cr 2, .int), (ck 2, .int)] s := hK
            refine W.widen (k := 0) (n := 0) (Nat.le_of_ble_eq_true rfl) (Nat.le_of_ble_eq_true rfl) ?_
            have pf58 := (modI_F hr54)
            refine lv_iconst (v := 1) hx hb d_T_swap_60 (by decide) ?_
            have hP9 := hP.sub (ws' := [(h0, .inr (0, oT uT p9 a9 e9 n9 o9)), (a9, .inl (ca, 3, .inr (.inr (.inr (.inr (mo da)))))), (da 0, .inr (2, oD (tri (F 0) (F 1) F255 0) (ra 0) (ka 0))), (ra 0, .inl (cr 0, 8, .inl (tri (g 0) (g 1) g56 0))), (ka 0, .inl (ck 0, 32, .inl (tri (v 0) (v 1) cd257 0))), (da 1, .inr (2, oD (tri (F 0) (F 1) F255 1) (ra 1) (ka 1))), (ra 1, .inl (cr 1, 8, .inl (tri (g 0) (g 1) g56 1))), (ka 1, .inl (ck 1, 32, .inl (tri (v 0) (v 1) cd257 1))), (da 2, .inr (2, oD (tri (F 0) (F 1) F255 2) (ra 2) (ka 2))), (ra 2, .inl (cr 2, 8, .inl (tri (g 0) (g 1) g56 2))), (ka 2, .inl (ck 2, 32, .inl (tri (v 0) (v 1) cd257 2)))]) [0, 1, 2, 3, 4, 5, 6, 7, 8, 9, 10] rfl
            have hD9 := hD.sub (ws' := [(h0, .inr (0, oT uT p9 a9 e9 n9 o9)), (a9, .inl (ca, 3, .inr (.inr (.inr (.inr (mo da)))))), (da 0, .inr (2, oD (tri (F 0) (F 1) F255 0) (ra 0) (ka 0))), (ra 0, .inl (cr 0, 8, .inl (tri (g 0) (g 1) g56 0))), (ka 0, .inl (ck 0, 32, .inl (tri (v 0) (v 1) cd257 0))), (da 1, .inr (2, oD (tri (F 0) (F 1) F255 1) (ra 1) (ka 1))), (ra 1, .inl (cr 1, 8, .inl (tri (g 0) (g 1) g56 1))), (ka 1, .inl (ck 1, 32, .inl (tri (v 0) (v 1) cd257 1))), (da 2, .inr (2, oD (tri (F 0) (F 1) F255 2) (ra 2) (ka 2))), (ra 2, .inl (cr 2, 8, .inl (tri (g 0) (g 1) g56 2))), (ka 2, .inl (ck 2, 32, .inl (tri (v 0) (v 1) cd257 2)))]) [0, 1, 2, 3, 4, 5, 6, 7, 8, 9, 10] (by decide) rfl
            have hK9 := hK.sub (tys' := [(ca, .object "VotedTriple$VotedModule"), (cr 0, .int), (ck 0, .int), (cr 1, .int), (ck 1, .int), (cr 2, .int), (ck 2, .int)]) [0, 1, 2, 3, 4, 5, 6] rfl
            refine W.widen (k := 0) (n := 0) (Nat.le_of_ble_eq_true rfl) (Nat.le_of_ble_eq_true rfl) ?_
            exact W.zret (v := 1) (ty := .boolean) hx hb hr rfl (fun t ht hW => ⟨⟨_, (tri (F 0) (F 1) F255, tri (g 0) (g 1) g56, tri (v 0) (v 1) cd257), rfl, ⟨⟨⟨hF.1, hF.2.1, pf58⟩, ⟨hg.1, hg.2.1, hr54.2.2.2.2⟩⟩, (by rw [← hSP, s_T_swap]; try (rw [if_neg hc3]); try (rw [if_pos hc4]); try (rw [if_neg (by decide)]); try (rw [if_neg (by decide)]); try (rw [← hr48E, bnd_eq]); try (rw [if_neg hc49]); try (rw [if_neg hc52]); try (rw [← hr54E, bnd_eq]); try dsimp only; all_goals rfl)⟩, by rw [ht]; exact hP9, va_K.moved hW.alike hK9, hD9⟩, hS.F ht⟩) hS.2.2 d_T_swap_61
          · --  (bI (cgB uT (r47 - (0 : Int32)))) = 0
            refine lv_iconst (v := 0) hx hb d_T_swap_48 (by decide) ?_
            have hP9 := hP.sub (ws' := [(h0, .inr (0, oT uT p9 a9 e9 n9 o9)), (a9, .inl (ca, 3, .inr (.inr (.inr (.inr (mo da)))))), (da 0, .inr (2, oD (F 0) (ra 0) (ka 0))), (ra 0, .inl (cr 0, 8, .inl (g 0))), (ka 0, .inl (ck 0, 32, .inl (v 0))), (da 1, .inr (2, oD (F 1) (ra 1) (ka 1))), (ra 1, .inl (cr 1, 8, .inl (g 1))), (ka 1, .inl (ck 1, 32, .inl (v 1))), (da 2, .inr (2, oD (F 2) (ra 2) (ka 2))), (ra 2, .inl (cr 2, 8, .inl (g 2))), (ka 2, .inl (ck 2, 32, .inl (v 2)))]) [0, 1, 2, 3, 4, 5, 6, 7, 8, 9, 10] rfl
            have hD9 := hD.sub (ws' := [(h0, .inr (0, oT uT p9 a9 e9 n9 o9)), (a9, .inl (ca, 3, .inr (.inr (.inr (.inr (mo da)))))), (da 0, .inr (2, oD (F 0) (ra 0) (ka 0))), (ra 0, .inl (cr 0, 8, .inl (g 0))), (ka 0, .inl (ck 0, 32, .inl (v 0))), (da 1, .inr (2, oD (F 1) (ra 1) (ka 1))), (ra 1, .inl (cr 1, 8, .inl (g 1))), (ka 1, .inl (ck 1, 32, .inl (v 1))), (da 2, .inr (2, oD (F 2) (ra 2) (ka 2))), (ra 2, .inl (cr 2, 8, .inl (g 2))), (ka 2, .inl (ck 2, 32, .inl (v 2)))]) [0, 1, 2, 3, 4, 5, 6, 7, 8, 9, 10] (by decide) rfl
            have hK9 := hK.sub (tys' := [(ca, .object "VotedTriple$VotedModule"), (cr 0, .int), (ck 0, .int), (cr 1, .int), (ck 1, .int), (cr 2, .int), (ck 2, .int)]) [0, 1, 2, 3, 4, 5, 6] rfl
            refine W.widen (k := 0) (n := 0) (Nat.le_of_ble_eq_true rfl) (Nat.le_of_ble_eq_true rfl) ?_
            exact W.zret (v := 0) (ty := .boolean) hx hb hr rfl (fun t ht hW => ⟨⟨_, (F, g, v), rfl, ⟨⟨hF, hg⟩, (by rw [← hSP, s_T_swap]; try (rw [if_neg hc3]); try (rw [if_pos hc4]); try (rw [if_neg (by decide)]); try (rw [if_neg (by decide)]); try (rw [← hr48E, bnd_eq]); try (rw [if_neg hc49]); try (rw [if_pos hc52]); all_goals rfl)⟩, by rw [ht]; exact hP9, va_K.moved hW.alike hK9, hD9⟩, hS.F ht⟩) hS.2.2 d_T_swap_49
        · --  (F 2 8) = 0
          refine lv_iconst (v := 1) hx hb d_T_swap_33 (by decide) ?_
          refine lv_goto (tgt := 38) hx hb d_T_swap_34 rfl ?_
          refine lv_isub hx hb d_T_swap_38 ?_
          refine lv_istore_n hx hb d_T_swap_39 rfl hl (by decide) rfl (fun ls hl => ?_)
          replace hl : lv_has ls 3 [(2, .int (r47 - (1 : Int32))), (0, .ref h0), (1, .int 2)] := hl
          refine lv_aload_n hx hb d_T_swap_40 rfl (lv_at hl 1 rfl) ?_
          refine lv_iload_n hx hb d_T_swap_41 rfl (lv_at hl 0 rfl) ?_
          replace hPc := hP.sub (ws' := [(h0, .inr (0, oT uT p9 a9 e9 n9 o9))]) [0] rfl
          replace hKc := hK.sub (tys' := []) [] rfl
          refine vp_callSi (va_runV (C := "VotedTriple") (As := [.int (r47 - (1 : Int32))]) (rest := []) ⟨hx, hb, hml, hown, hw⟩ (c_T_canGoOnWith l dC dI h0 p9 a9 e9 n9 o9 uT (r47 - (1 : Int32))) (cwV 1 hw (gdV (k_355) (k_352) (k_354) (ks_2) (k_1)) rfl rfl rfl (by decide +kernel) ⟨Nat.le_of_ble_eq_true rfl, Nat.le_of_ble_eq_true rfl⟩) ⟨fun a U g mk q => ⟨q.1, q.2.1, va_K.moved (u := U) (U := U.calling g mk a) (Vm.Alike.refl U.vm) q.2.2⟩, va_recv hK hP rfl (q0 := 0) rfl, fun U hU hW => ⟨rfl, by rw [hU]; exact hPc, va_K.moved hW.alike hKc⟩⟩ rfl rfl hl.1 rfl (lv_room (Nat.le_of_ble_eq_true rfl)) d_T_swap_42 ⟨Nat.le_of_ble_eq_true rfl, Nat.le_of_ble_eq_true rfl⟩).run (fun r59 hr60 => ?_)
          subst hr60
          refine lv_if_ne (tgt := 50) hx hb d_T_swap_45 rfl (fun hc61 => ?_) (fun hc61 => ?_)
          · --  ¬ (bI (cgB uT (r47 - (1 : Int32)))) = 0
            refine lv_aload_n hx hb d_T_swap_50 rfl (lv_at hl 1 rfl) ?_
            refine va_get (D := (dC, dI)) (ci := 0) (v := .ref a9) (C := "VotedTriple") (T := F_T) (N := 11) hx hb hw in_T hown hK hP 0 rfl rfl 1 (by decide) (hw _ k_195) (fun _ h9 => h9) rfl d_T_swap_51 ?_
            refine lv_iload_n hx hb d_T_swap_54 rfl (lv_at hl 2 rfl) ?_
            refine va_aldq hx hb hK hP 1 0 rfl rfl (by unfold vp_in; decide) d_T_swap_55 ?_
            refine W.eq (g2 := F0 m 56 ls [.ref (da 2)]) rfl ?_
            refine lv_iconst (v := 1) hx hb d_T_swap_56 (by decide) ?_
            replace hPc := hP.sub (ws' := [(da 2, .inr (2, oD (F 2) (ra 2) (ka 2))), (ra 2, .inl (cr 2, 8, .inl (g 2))), (ka 2, .inl (ck 2, 32, .inl (v 2)))]) [8, 9, 10] rfl
            replace hKc := hK.sub (tys' := [(cr 2, .int), (ck 2, .int)]) [5, 6] rfl
            replace hDc := hD.sub (ws' := [(da 2, .inr (2, oD (F 2) (ra 2) (ka 2))), (ra 2, .inl (cr 2, 8, .inl (g 2))), (ka 2, .inl (ck 2, 32, .inl (v 2)))]) [8, 9, 10] (by decide) rfl
            replace hFc := va_free (wc := [(da 2, .inr (2, oD (F 2) (ra 2) (ka 2))), (ra 2, .inl (cr 2, 8, .inl (g 2))), (ka 2, .inl (ck 2, 32, .inl (v 2)))]) hD hS hA [8, 9, 10] rfl
            refine va_callv (va_runV (C := "VotedTriple$VotedModule") (As := [.int 1]) (rest := []) ⟨hx, hb, hml, hown, hw⟩ (c_D_makeBlank l dC dI (da 2) (ra 2) (ka 2) (F 2) (cr 2) (g 2) (ck 2) (v 2) 1 (modI_of hF.2.2 hg.2.2) t9 s.heap.size) (cwV 1 hw (gdV (k_265) (k_262) (k_263) (k_264) (k_7)) rfl rfl rfl (by decide +kernel) ⟨Nat.le_of_ble_eq_true rfl, Nat.le_of_ble_eq_true rfl⟩) ⟨fun a U g mk q => by obtain ⟨q0, q1, qP, qK, qD, qN, qB⟩ := q; exact ⟨q0, q1, qP, va_K.moved (u := U) (U := U.calling g mk a) (Vm.Alike.refl U.vm) qK, qD, nw_vm (u := U) (U := U.calling g mk a) rfl qN, cb_vm (u := U) (U := U.calling g mk a) rfl qB⟩, va_recv hK hP rfl (q0 := 8) rfl, fun U hU hW => ⟨rfl, by rw [hU], by rw [hU]; exact hPc, va_K.moved hW.alike hKc, hDc.weaken (fun _ _ _ _ => trivial), nw_warm hW hnw, by rw [hU]; exact cb_narrow (cb_warm hW (cb_kept hcb (fun a h1 h2 => hS.2.1 a h1 h2))) hFc⟩⟩ rfl rfl hl.1 rfl (lv_room (Nat.le_of_ble_eq_true rfl)) d_T_swap_57 ⟨Nat.le_of_ble_eq_true rfl, Nat.le_of_ble_eq_true rfl⟩) hS (fun q _ h => hFc q h) hFc (fun u9 t H1 locs ht hvm hr63 hB hz1 hk1 hS => ?_)
            obtain ⟨F264, g65, cd266⟩ := u9
            obtain ⟨hP1, hK1, hD1⟩ := hB
            rw [ht] at hP1
            replace hK1 := va_K.moved hvm.symm hK1
            try dsimp only at hr63 hP1 hK1 hD1
            obtain ⟨hr63, hr63E⟩ := hr63
            obtain ⟨hPz, hDz⟩ := va_join (wr := [(h0, .inr (0, oT uT p9 a9 e9 n9 o9)), (a9, .inl (ca, 3, .inr (.inr (.inr (.inr (mo da)))))), (da 0, .inr (2, oD (F 0) (ra 0) (ka 0))), (ra 0, .inl (cr 0, 8, .inl (g 0))), (ka 0, .inl (ck 0, 32, .inl (v 0))), (da 1, .inr (2, oD (F 1) (ra 1) (ka 1))), (ra 1, .inl (cr 1, 8, .inl (g 1))), (ka 1, .inl (ck 1, 32, .inl (v 1)))]) (w1 := [(da 2, .inr (2, oD F264 (ra 2) (ka 2))), (ra 2, .inl (cr 2, 8, .inl g65)), (ka 2, .inl (ck 2, 32, .inl cd266))]) hP hD [8, 9, 10] [0, 1, 2, 3, 4, 5, 6, 7] rfl rfl (by decide) (by decide) hk1 hFc hP1 hD1
            clear hP hD hPc hDc hP1 hD1 hFc
            have hP := hPz
            have hD := hDz
            clear hPz hDz
            replace hK := (hK.sub (tys' := [(ca, .object "VotedTriple$VotedModule"), (cr 0, .int), (ck 0, .int), (cr 1, .int), (ck 1, .int)]) [0, 1, 2, 3, 4] rfl).app hK1
            clear hK1 hKc
            generalize H1 = H at hP hS ⊢
            replace hP : va_P (dC, dI) classes [(h0, .inr (0, oT uT p9 a9 e9 n9 o9)), (a9, .inl (ca, 3, .inr (.inr (.inr (.inr (mo da)))))), (da 0, .inr (2, oD (F 0) (ra 0) (ka 0))), (ra 0, .inl (cr 0, 8, .inl (g 0))), (ka 0, .inl (ck 0, 32, .inl (v 0))), (da 1, .inr (2, oD (F 1) (ra 1) (ka 1))), (ra 1, .inl (cr 1, 8, .inl (g 1))), (ka 1, .inl (ck 1, 32, .inl (v 1))), (da 2, .inr (2, oD F264 (ra 2) (ka 2))), (ra 2, .inl (cr 2, 8, .inl g65)), (ka 2, .inl (ck 2, 32, .inl cd266))] H := hP
            replace hD : va_D A [(h0, .inr (0, oT uT p9 a9 e9 n9 o9)), (a9, .inl (ca, 3, .inr (.inr (.inr (.inr (mo da)))))), (da 0, .inr (2, oD (F 0) (ra 0) (ka 0))), (ra 0, .inl (cr 0, 8, .inl (g 0))), (ka 0, .inl (ck 0, 32, .inl (v 0))), (da 1, .inr (2, oD (F 1) (ra 1) (ka 1))), (ra 1, .inl (cr 1, 8, .inl (g 1))), (ka 1, .inl (ck 1, 32, .inl (v 1))), (da 2, .inr (2, oD F264 (ra 2) (ka 2))), (ra 2, .inl (cr 2, 8, .inl g65)), (ka 2, .inl (ck 2, 32, .inl cd266))] := hD
            replace hK : va_K (dC, dI) classes [(ca, .object "VotedTriple$VotedModule"), (cr 0, .int), (ck 0, .int), (cr 1, .int), (ck 1, .int), (cr 2, .int), (ck 2, .int)] s := hK
            refine W.widen (k := 0) (n := 0) (Nat.le_of_ble_eq_true rfl) (Nat.le_of_ble_eq_true rfl) ?_
            have pf67 := (modI_F hr63)
            refine lv_iconst (v := 1) hx hb d_T_swap_60 (by decide) ?_
            have hP9 := hP.sub (ws' := [(h0, .inr (0, oT uT p9 a9 e9 n9 o9)), (a9, .inl (ca, 3, .inr (.inr (.inr (.inr (mo da)))))), (da 0, .inr (2, oD (tri (F 0) (F 1) F264 0) (ra 0) (ka 0))), (ra 0, .inl (cr 0, 8, .inl (tri (g 0) (g 1) g65 0))), (ka 0, .inl (ck 0, 32, .inl (tri (v 0) (v 1) cd266 0))), (da 1, .inr (2, oD (tri (F 0) (F 1) F264 1) (ra 1) (ka 1))), (ra 1, .inl (cr 1, 8, .inl (tri (g 0) (g 1) g65 1))), (ka 1, .inl (ck 1, 32, .inl (tri (v 0) (v 1) cd266 1))), (da 2, .inr (2, oD (tri (F 0) (F 1) F264 2) (ra 2) (ka 2))), (ra 2, .inl (cr 2, 8, .inl (tri (g 0) (g 1) g65 2))), (ka 2, .inl (ck 2, 32, .inl (tri (v 0) (v 1) cd266 2)))]) [0, 1, 2, 3, 4, 5, 6, 7, 8, 9, 10] rfl
            have hD9 := hD.sub (ws' := [(h0, .inr (0, oT uT p9 a9 e9 n9 o9)), (a9, .inl (ca, 3, .inr (.inr (.inr (.inr (mo da)))))), (da 0, .inr (2, oD (tri (F 0) (F 1) F264 0) (ra 0) (ka 0))), (ra 0, .inl (cr 0, 8, .inl (tri (g 0) (g 1) g65 0))), (ka 0, .inl (ck 0, 32, .inl (tri (v 0) (v 1) cd266 0))), (da 1, .inr (2, oD (tri (F 0) (F 1) F264 1) (ra 1) (ka 1))), (ra 1, .inl (cr 1, 8, .inl (tri (g 0) (g 1) g65 1))), (ka 1, .inl (ck 1, 32, .inl (tri (v 0) (v 1) cd266 1))), (da 2, .inr (2, oD (tri (F 0) (F 1) F264 2) (ra 2) (ka 2))), (ra 2, .inl (cr 2, 8, .inl (tri (g 0) (g 1) g65 2))), (ka 2, .inl (ck 2, 32, .inl (tri (v 0) (v 1) cd266 2)))]) [0, 1, 2, 3, 4, 5, 6, 7, 8, 9, 10] (by decide) rfl
            have hK9 := hK.sub (tys' := [(ca, .object "VotedTriple$VotedModule"), (cr 0, .int), (ck 0, .int), (cr 1, .int), (ck 1, .int), (cr 2, .int), (ck 2, .int)]) [0, 1, 2, 3, 4, 5, 6] rfl
            refine W.widen (k := 0) (n := 0) (Nat.le_of_ble_eq_true rfl) (Nat.le_of_ble_eq_true rfl) ?_
            exact W.zret (v := 1) (ty := .boolean) hx hb hr rfl (fun t ht hW => ⟨⟨_, (tri (F 0) (F 1) F264, tri (g 0) (g 1) g65, tri (v 0) (v 1) cd266), rfl, ⟨⟨⟨hF.1, hF.2.1, pf67⟩, ⟨hg.1, hg.2.1, hr63.2.2.2.2⟩⟩, (by rw [← hSP, s_T_swap]; try (rw [if_neg hc3]); try (rw [if_pos hc4]); try (rw [if_neg (by decide)]); try (rw [if_neg (by decide)]); try (rw [← hr48E, bnd_eq]); try (rw [if_pos hc49]); try (rw [if_neg hc61]); try (rw [← hr63E, bnd_eq]); try dsimp only; all_goals rfl)⟩, by rw [ht]; exact hP9, va_K.moved hW.alike hK9, hD9⟩, hS.F ht⟩) hS.2.2 d_T_swap_61
          · --  (bI (cgB uT (r47 - (1 : Int32)))) = 0
            refine lv_iconst (v := 0) hx hb d_T_swap_48 (by decide) ?_
            have hP9 := hP.sub (ws' := [(h0, .inr (0, oT uT p9 a9 e9 n9 o9)), (a9, .inl (ca, 3, .inr (.inr (.inr (.inr (mo da)))))), (da 0, .inr (2, oD (F 0) (ra 0) (ka 0))), (ra 0, .inl (cr 0, 8, .inl (g 0))), (ka 0, .inl (ck 0, 32, .inl (v 0))), (da 1, .inr (2, oD (F 1) (ra 1) (ka 1))), (ra 1, .inl (cr 1, 8, .inl (g 1))), (ka 1, .inl (ck 1, 32, .inl (v 1))), (da 2, .inr (2, oD (F 2) (ra 2) (ka 2))), (ra 2, .inl (cr 2, 8, .inl (g 2))), (ka 2, .inl (ck 2, 32, .inl (v 2)))]) [0, 1, 2, 3, 4, 5, 6, 7, 8, 9, 10] rfl
            have hD9 := hD.sub (ws' := [(h0, .inr (0, oT uT p9 a9 e9 n9 o9)), (a9, .inl (ca, 3, .inr (.inr (.inr (.inr (mo da)))))), (da 0, .inr (2, oD (F 0) (ra 0) (ka 0))), (ra 0, .inl (cr 0, 8, .inl (g 0))), (ka 0, .inl (ck 0, 32, .inl (v 0))), (da 1, .inr (2, oD (F 1) (ra 1) (ka 1))), (ra 1, .inl (cr 1, 8, .inl (g 1))), (ka 1, .inl (ck 1, 32, .inl (v 1))), (da 2, .inr (2, oD (F 2) (ra 2) (ka 2))), (ra 2, .inl (cr 2, 8, .inl (g 2))), (ka 2, .inl (ck 2, 32, .inl (v 2)))]) [0, 1, 2, 3, 4, 5, 6, 7, 8, 9, 10] (by decide) rfl
            have hK9 := hK.sub (tys' := [(ca, .object "VotedTriple$VotedModule"), (cr 0, .int), (ck 0, .int), (cr 1, .int), (ck 1, .int), (cr 2, .int), (ck 2, .int)]) [0, 1, 2, 3, 4, 5, 6] rfl
            refine W.widen (k := 0) (n := 0) (Nat.le_of_ble_eq_true rfl) (Nat.le_of_ble_eq_true rfl) ?_
            exact W.zret (v := 0) (ty := .boolean) hx hb hr rfl (fun t ht hW => ⟨⟨_, (F, g, v), rfl, ⟨⟨hF, hg⟩, (by rw [← hSP, s_T_swap]; try (rw [if_neg hc3]); try (rw [if_pos hc4]); try (rw [if_neg (by decide)]); try (rw [if_neg (by decide)]); try (rw [← hr48E, bnd_eq]); try (rw [if_pos hc49]); try (rw [if_pos hc61]); all_goals rfl)⟩, by rw [ht]; exact hP9, va_K.moved hW.alike hK9, hD9⟩, hS.F ht⟩) hS.2.2 d_T_swap_49
    · --  ¬ (uT 6) = 0
      refine lv_iconst (v := 0) hx hb d_T_swap_15 (by decide) ?_
      have hP9 := hP.sub (ws' := [(h0, .inr (0, oT uT p9 a9 e9 n9 o9)), (a9, .inl (ca, 3, .inr (.inr (.inr (.inr (mo da)))))), (da 0, .inr (2, oD (F 0) (ra 0) (ka 0))), (ra 0, .inl (cr 0, 8, .inl (g 0))), (ka 0, .inl (ck 0, 32, .inl (v 0))), (da 1, .inr (2, oD (F 1) (ra 1) (ka 1))), (ra 1, .inl (cr 1, 8, .inl (g 1))), (ka 1, .inl (ck 1, 32, .inl (v 1))), (da 2, .inr (2, oD (F 2) (ra 2) (ka 2))), (ra 2, .inl (cr 2, 8, .inl (g 2))), (ka 2, .inl (ck 2, 32, .inl (v 2)))]) [0, 1, 2, 3, 4, 5, 6, 7, 8, 9, 10] rfl
      have hD9 := hD.sub (ws' := [(h0, .inr (0, oT uT p9 a9 e9 n9 o9)), (a9, .inl (ca, 3, .inr (.inr (.inr (.inr (mo da)))))), (da 0, .inr (2, oD (F 0) (ra 0) (ka 0))), (ra 0, .inl (cr 0, 8, .inl (g 0))), (ka 0, .inl (ck 0, 32, .inl (v 0))), (da 1, .inr (2, oD (F 1) (ra 1) (ka 1))), (ra 1, .inl (cr 1, 8, .inl (g 1))), (ka 1, .inl (ck 1, 32, .inl (v 1))), (da 2, .inr (2, oD (F 2) (ra 2) (ka 2))), (ra 2, .inl (cr 2, 8, .inl (g 2))), (ka 2, .inl (ck 2, 32, .inl (v 2)))]) [0, 1, 2, 3, 4, 5, 6, 7, 8, 9, 10] (by decide) rfl
      have hK9 := hK.sub (tys' := [(ca, .object "VotedTriple$VotedModule"), (cr 0, .int), (ck 0, .int), (cr 1, .int), (ck 1, .int), (cr 2, .int), (ck 2, .int)]) [0, 1, 2, 3, 4, 5, 6] rfl
      refine W.widen (k := 0) (n := 0) (Nat.le_of_ble_eq_true rfl) (Nat.le_of_ble_eq_true rfl) ?_
      exact W.zret (v := 0) (ty := .boolean) hx hb hr rfl (fun t ht hW => ⟨⟨_, (F, g, v), rfl, ⟨⟨hF, hg⟩, (by rw [← hSP, s_T_swap]; try (rw [if_neg hc3]); try (rw [if_neg hc4]); all_goals rfl)⟩, by rw [ht]; exact hP9, va_K.moved hW.alike hK9, hD9⟩, hS.F ht⟩) hS.2.2 d_T_swap_16

set_option maxHeartbeats 4000000 in
set_option maxRecDepth 100000 in
theorem c_T_allow (l : Launch) (dC : Nat → ClassId) (dI : Nat → Nat → Nat) (h0 : Nat) (p9 : Nat) (a9 : Nat) (e9 : Nat) (n9 : Nat) (o9 : Nat) (uT : Nat → Int32) (zb : Int32) (hz_zb : narrow .boolean (.int zb) = .int zb ∧ fits .boolean (.int zb) = true) (sz : Nat) : Met l y_T_allow (tbw y_T_allow b_T_allow 2 none) ({ frames := 0, cells := 0, slots := 0, locals := 0 }) (va_Pc [.ref h0, .int zb] (fun U => U.heap.size = sz ∧ va_P (dC, dI) classes [(h0, .inr (0, oT uT p9 a9 e9 n9 o9))] U.heap ∧ va_K (dC, dI) classes [] U ∧ va_D (fun _ => True) [(h0, .inr (0, oT uT p9 a9 e9 n9 o9))])) (va_Qv (fun (u9 : (Nat → Int32)) => match u9 with | uT2 => (uT2 5 = uT 5 ∧ uT2 8 = uT 8) ∧ (uT2) = s_T_allow uT zb) (fun (u9 : (Nat → Int32)) t => match u9 with | uT2 => va_P (dC, dI) classes [(h0, .inr (0, oT uT2 p9 a9 e9 n9 o9))] t.heap ∧ va_K (dC, dI) classes [] t ∧ va_D (va_A [(h0, .inr (0, oT uT p9 a9 e9 n9 o9))] sz) [(h0, .inr (0, oT uT2 p9 a9 e9 n9 o9))]) (va_A [(h0, .inr (0, oT uT p9 a9 e9 n9 o9))] sz)) 0 0 (va_A [(h0, .inr (0, oT uT p9 a9 e9 n9 o9))] sz) := by
  refine Met.ofW (cc := b_T_allow) (maxL := 2) (ret := none) (by decide) rfl ?_
  intro p e s m args below meth c s₁ B hml hv
  obtain ⟨rfl, hsz, hP, hK, hD0⟩ := hv
  have hx := B.exec
  have hb := B.bytes
  have hr := B.returns
  have hts := atoms_spec (ws := (tbw y_T_allow b_T_allow 2 none)) B.pre
  have hw : ∀ z9 ∈ tb, z9.before ([.ref h0, .int zb] : List Value).toArray s = true := fun z9 h => hts z9 (List.mem_cons_of_mem _ h)
  have hown : s.vm.findClass "VotedTriple" = some m.cls := findClass_of_methodNamed B.named
  have hlocks := B.notSynchronized
  subst hsz
  replace hD := hD0.self (sz := s.heap.size)
  generalize hAe : va_A [(h0, .inr (0, oT uT p9 a9 e9 n9 o9))] s.heap.size = A at hD ⊢
  have hA : ∀ q : Nat, s.heap.size ≤ q → A q := fun q h => by rw [← hAe]; exact Or.inr h
  have hS : va_S A s.heap s.heap [] := va_S.rf
  replace hl := lv_entry ([.ref h0, .int zb]) (n := 2) (Nat.le_of_ble_eq_true rfl)
  rw [lg_entry_eq]
  generalize (lg_sl ([.ref h0, .int zb]) ++ List.replicate (2 - (lg_sl ([.ref h0, .int zb])).length) Slot.unset).toArray = ls at hl ⊢
  replace hl : lv_has ls 2 [(0, .ref h0), (1, .int zb)] := hl
  generalize hSP : s_T_allow uT zb = SP
  refine lv_aload_n hx hb d_T_allow_0 rfl (lv_at hl 0 rfl) ?_
  refine lv_iload_n hx hb d_T_allow_1 rfl (lv_at hl 1 rfl) ?_
  refine va_put (D := (dC, dI)) (ci := 0) (v := .int zb) (ty := .boolean) (C := "VotedTriple") (T := F_T) (N := 11) hx hb hw in_T ft_T tyok_T nm_T hown hK hP hD hS 0 rfl rfl 7 (by decide) (hw _ k_201) (fun _ h9 => h9) rfl (by decide +kernel) hz_zb.1 hz_zb.2 (Nat.le_of_ble_eq_true rfl) d_T_allow_2 (fun H locs hP hD hS => ?_)
  replace hP : va_P (dC, dI) classes [(h0, .inr (0, [.ref p9, .ref a9, .ref e9, .ref n9, .ref o9, .int (uT 5), .int (uT 6), .int zb, .int (uT 8), .int (uT 9), .int (uT 10)]))] H := hP
  replace hD : va_D A [(h0, .inr (0, [.ref p9, .ref a9, .ref e9, .ref n9, .ref o9, .int (uT 5), .int (uT 6), .int zb, .int (uT 8), .int (uT 9), .int (uT 10)]))] := hD
  have hP9 := hP.sub (ws' := [(h0, .inr (0, oT (upc uT 7 zb) p9 a9 e9 n9 o9))]) [0] rfl
  have hD9 := hD.sub (ws' := [(h0, .inr (0, oT (upc uT 7 zb) p9 a9 e9 n9 o9))]) [0] (by decide) rfl
  have hK9 := hK.sub (tys' := []) [] rfl
  refine W.widen (k := 0) (n := 0) (Nat.le_of_ble_eq_true rfl) (Nat.le_of_ble_eq_true rfl) ?_
  exact W.vret hx hb hr (fun t ht hW => ⟨⟨(upc uT 7 zb), rfl, ⟨⟨rfl, rfl⟩, (by rw [← hSP, s_T_allow]; all_goals rfl)⟩, by rw [ht]; exact hP9, va_K.moved hW.alike hK9, hD9⟩, hS.F ht⟩) hS.2.2 d_T_allow_5

set_option maxHeartbeats 4000000 in
set_option maxRecDepth 100000 in
theorem c_T_module (l : Launch) (dC : Nat → ClassId) (dI : Nat → Nat → Nat) (h0 : Nat) (p9 : Nat) (a9 : Nat) (e9 : Nat) (n9 : Nat) (o9 : Nat) (ca : ClassId) (da : Nat → Nat) (ra : Nat → Nat) (ka : Nat → Nat) (uT : Nat → Int32) (F : Nat → Nat → Int32) (x : Int32) (y : Int32) : Met l y_T_module (tbw y_T_module b_T_module 4 (some .int)) ({ frames := 1, cells := 0, slots := 0, locals := 21 }) (va_Pc [.ref h0, .int x, .int y] (fun U => va_P (dC, dI) classes [(h0, .inr (0, oT uT p9 a9 e9 n9 o9)), (a9, .inl (ca, 3, .inr (.inr (.inr (.inr (mo da)))))), (da 0, .inr (2, oD (F 0) (ra 0) (ka 0))), (da 1, .inr (2, oD (F 1) (ra 1) (ka 1))), (da 2, .inr (2, oD (F 2) (ra 2) (ka 2)))] U.heap ∧ va_K (dC, dI) classes [(ca, .object "VotedTriple$VotedModule")] U)) (vp_Si (fun r => (True) ∧ r = s_T_module uT F x y)) 0 0 (fun _ => False) := by
  refine Met.ofW (cc := b_T_module) (maxL := 4) (ret := (some .int)) (by decide) rfl ?_
  intro p e s m args below meth c s₁ B hml hv
  obtain ⟨rfl, hP, hK⟩ := hv
  have hx := B.exec
  have hb := B.bytes
  have hr := B.returns
  have hts := atoms_spec (ws := (tbw y_T_module b_T_module 4 (some .int))) B.pre
  have hw : ∀ z9 ∈ tb, z9.before ([.ref h0, .int x, .int y] : List Value).toArray s = true := fun z9 h => hts z9 (List.mem_cons_of_mem _ h)
  have hown : s.vm.findClass "VotedTriple" = some m.cls := findClass_of_methodNamed B.named
  have hlocks := B.notSynchronized
  replace hl := lv_entry ([.ref h0, .int x, .int y]) (n := 4) (Nat.le_of_ble_eq_true rfl)
  rw [lg_entry_eq]
  generalize (lg_sl ([.ref h0, .int x, .int y]) ++ List.replicate (4 - (lg_sl ([.ref h0, .int x, .int y])).length) Slot.unset).toArray = ls at hl ⊢
  replace hl : lv_has ls 4 [(0, .ref h0), (1, .int x), (2, .int y)] := hl
  generalize hSP : s_T_module uT F x y = SP
  refine lv_aload_n hx hb d_T_module_0 rfl (lv_at hl 0 rfl) ?_
  refine lv_iload_n hx hb d_T_module_1 rfl (lv_at hl 1 rfl) ?_
  replace hPc := hP.sub (ws' := [(h0, .inr (0, oT uT p9 a9 e9 n9 o9))]) [0] rfl
  replace hKc := hK.sub (tys' := []) [] rfl
  refine vp_callSi (va_runV (C := "VotedTriple") (As := [.int x]) (rest := []) ⟨hx, hb, hml, hown, hw⟩ (c_T_hasModule l dC dI h0 p9 a9 e9 n9 o9 uT x) (cwV 1 hw (gdV (k_339) (k_336) (k_338) (ks_0) (k_1)) rfl rfl rfl (by decide +kernel) ⟨Nat.le_of_ble_eq_true rfl, Nat.le_of_ble_eq_true rfl⟩) ⟨fun a U g mk q => ⟨q.1, q.2.1, va_K.moved (u := U) (U := U.calling g mk a) (Vm.Alike.refl U.vm) q.2.2⟩, va_recv hK hP rfl (q0 := 0) rfl, fun U hU hW => ⟨rfl, by rw [hU]; exact hPc, va_K.moved hW.alike hKc⟩⟩ rfl rfl hl.1 rfl (lv_room (Nat.le_of_ble_eq_true rfl)) d_T_module_2 ⟨Nat.le_of_ble_eq_true rfl, Nat.le_of_ble_eq_true rfl⟩).run (fun r1 hr2 => ?_)
  subst hr2
  refine lv_if_ne (tgt := 10) hx hb d_T_module_5 rfl (fun hc3 => ?_) (fun hc3 => ?_)
  · --  ¬ (bI (hmB uT x)) = 0
    obtain ⟨hs5, rfl | rfl | rfl⟩ := hm_c hc3
    · --  0
      refine lv_aload_n hx hb d_T_module_10 rfl (lv_at hl 0 rfl) ?_
      refine va_get (D := (dC, dI)) (ci := 0) (v := .ref a9) (C := "VotedTriple") (T := F_T) (N := 11) hx hb hw in_T hown hK hP 0 rfl rfl 1 (by decide) (hw _ k_195) (fun _ h9 => h9) rfl d_T_module_11 ?_
      refine lv_iload_n hx hb d_T_module_14 rfl (lv_at hl 1 rfl) ?_
      refine va_aldq hx hb hK hP 1 0 rfl rfl (by unfold vp_in; decide) d_T_module_15 ?_
      refine W.eq (g2 := F0 m 16 ls [.ref (da 0)]) rfl ?_
      refine lv_astore_n hx hb d_T_module_16 rfl hl (by decide) rfl (fun ls hl => ?_)
      replace hl : lv_has ls 4 [(3, .ref (da 0)), (0, .ref h0), (1, .int 0), (2, .int y)] := hl
      refine lv_iload_n hx hb d_T_module_17 rfl (lv_at hl 3 rfl) ?_
      rcases sw5 (y) with hs4 | hs4 | hs4 | hs4 | hs4 | hs4 | hs4
      · refine lv_tableIn (off := 38) (tgt := 56) hx hb d_T_module_18 (by rw [hs4]; decide) (by rw [hs4]; decide) (by rw [hs4]; decide) rfl ?_
        refine lv_aload_n hx hb d_T_module_56 rfl (lv_at hl 0 rfl) ?_
        refine va_get (D := (dC, dI)) (ci := 2) (v := .int (F 0 8)) (C := "VotedTriple$VotedModule") (T := F_D) (N := 19) hx hb hw in_D hown hK hP 2 rfl rfl 8 (by decide) (hw _ k_143) (fun _ h9 => h9) rfl d_T_module_57 ?_
        exact W.iret (v := (F 0 8)) hx hb hr (fun t ht _ => ⟨_, rfl, ⟨trivial, (by rw [← hSP, s_T_module]; try (rw [if_neg hc3]); try (rw [if_pos rfl]); try (rw [if_pos hs4]); all_goals rfl)⟩, ht⟩) (fun _ h => by cases h) d_T_module_60
      · refine lv_tableIn (off := 43) (tgt := 61) hx hb d_T_module_18 (by rw [hs4]; decide) (by rw [hs4]; decide) (by rw [hs4]; decide) rfl ?_
        refine lv_aload_n hx hb d_T_module_61 rfl (lv_at hl 0 rfl) ?_
        replace hPc := hP.sub (ws' := [(da 0, .inr (2, oD (F 0) (ra 0) (ka 0)))]) [2] rfl
        replace hKc := hK.sub (tys' := []) [] rfl
        refine vp_callSi (va_runV (C := "VotedTriple$VotedModule") (As := []) (rest := []) ⟨hx, hb, hml, hown, hw⟩ (c_D_shownMark l dC dI (da 0) (ra 0) (ka 0) (F 0)) (cwV 0 hw (gdV (k_367) (k_364) (k_365) (k_366) (k_7)) rfl rfl rfl (by decide +kernel) ⟨Nat.le_of_ble_eq_true rfl, Nat.le_of_ble_eq_true rfl⟩) ⟨fun a U g mk q => ⟨q.1, q.2.1, va_K.moved (u := U) (U := U.calling g mk a) (Vm.Alike.refl U.vm) q.2.2⟩, va_recv hK hP rfl (q0 := 2) rfl, fun U hU hW => ⟨rfl, by rw [hU]; exact hPc, va_K.moved hW.alike hKc⟩⟩ rfl rfl hl.1 rfl (lv_room (Nat.le_of_ble_eq_true rfl)) d_T_module_62 ⟨Nat.le_of_ble_eq_true rfl, Nat.le_of_ble_eq_true rfl⟩).run (fun r5 hr6 => ?_)
        obtain ⟨hr6, hr6E⟩ := hr6
        exact W.iret (v := r5) hx hb hr (fun t ht _ => ⟨_, rfl, ⟨trivial, (by rw [← hSP, s_T_module]; try (rw [if_neg hc3]); try (rw [if_pos rfl]); try (rw [if_neg (by rw [hs4]; decide)]); try (rw [if_pos hs4]); try (rw [← hr6E, bnd_eq]); all_goals rfl)⟩, ht⟩) (fun _ h => by cases h) d_T_module_65
      · refine lv_tableIn (off := 48) (tgt := 66) hx hb d_T_module_18 (by rw [hs4]; decide) (by rw [hs4]; decide) (by rw [hs4]; decide) rfl ?_
        refine lv_aload_n hx hb d_T_module_66 rfl (lv_at hl 0 rfl) ?_
        refine va_get (D := (dC, dI)) (ci := 2) (v := .int (F 0 10)) (C := "VotedTriple$VotedModule") (T := F_D) (N := 19) hx hb hw in_D hown hK hP 2 rfl rfl 10 (by decide) (hw _ k_147) (fun _ h9 => h9) rfl d_T_module_67 ?_
        exact W.iret (v := (F 0 10)) hx hb hr (fun t ht _ => ⟨_, rfl, ⟨trivial, (by rw [← hSP, s_T_module]; try (rw [if_neg hc3]); try (rw [if_pos rfl]); try (rw [if_neg (by rw [hs4]; decide)]); try (rw [if_neg (by rw [hs4]; decide)]); try (rw [if_pos hs4]); all_goals rfl)⟩, ht⟩) (fun _ h => by cases h) d_T_module_70
      · refine lv_tableIn (off := 53) (tgt := 71) hx hb d_T_module_18 (by rw [hs4]; decide) (by rw [hs4]; decide) (by rw [hs4]; decide) rfl ?_
        refine lv_aload_n hx hb d_T_module_71 rfl (lv_at hl 0 rfl) ?_
        refine va_get (D := (dC, dI)) (ci := 2) (v := .int (F 0 1)) (C := "VotedTriple$VotedModule") (T := F_D) (N := 19) hx hb hw in_D hown hK hP 2 rfl rfl 1 (by decide) (hw _ k_77) (fun x9 h9 => u_same (hw _ k_76) x9 h9) rfl d_T_module_72 ?_
        exact W.iret (v := (F 0 1)) hx hb hr (fun t ht _ => ⟨_, rfl, ⟨trivial, (by rw [← hSP, s_T_module]; try (rw [if_neg hc3]); try (rw [if_pos rfl]); try (rw [if_neg (by rw [hs4]; decide)]); try (rw [if_neg (by rw [hs4]; decide)]); try (rw [if_neg (by rw [hs4]; decide)]); try (rw [if_pos hs4]); all_goals rfl)⟩, ht⟩) (fun _ h => by cases h) d_T_module_75
      · refine lv_tableIn (off := 58) (tgt := 76) hx hb d_T_module_18 (by rw [hs4]; decide) (by rw [hs4]; decide) (by rw [hs4]; decide) rfl ?_
        refine lv_aload_n hx hb d_T_module_76 rfl (lv_at hl 0 rfl) ?_
        refine va_get (D := (dC, dI)) (ci := 2) (v := .int (F 0 13)) (C := "VotedTriple$VotedModule") (T := F_D) (N := 19) hx hb hw in_D hown hK hP 2 rfl rfl 13 (by decide) (hw _ k_153) (fun _ h9 => h9) rfl d_T_module_77 ?_
        exact W.iret (v := (F 0 13)) hx hb hr (fun t ht _ => ⟨_, rfl, ⟨trivial, (by rw [← hSP, s_T_module]; try (rw [if_neg hc3]); try (rw [if_pos rfl]); try (rw [if_neg (by rw [hs4]; decide)]); try (rw [if_neg (by rw [hs4]; decide)]); try (rw [if_neg (by rw [hs4]; decide)]); try (rw [if_neg (by rw [hs4]; decide)]); try (rw [if_pos hs4]); all_goals rfl)⟩, ht⟩) (fun _ h => by cases h) d_T_module_80
      · refine lv_tableIn (off := 63) (tgt := 81) hx hb d_T_module_18 (by rw [hs4]; decide) (by rw [hs4]; decide) (by rw [hs4]; decide) rfl ?_
        refine lv_aload_n hx hb d_T_module_81 rfl (lv_at hl 0 rfl) ?_
        refine va_get (D := (dC, dI)) (ci := 2) (v := .int (F 0 14)) (C := "VotedTriple$VotedModule") (T := F_D) (N := 19) hx hb hw in_D hown hK hP 2 rfl rfl 14 (by decide) (hw _ k_155) (fun _ h9 => h9) rfl d_T_module_82 ?_
        exact W.iret (v := (F 0 14)) hx hb hr (fun t ht _ => ⟨_, rfl, ⟨trivial, (by rw [← hSP, s_T_module]; try (rw [if_neg hc3]); try (rw [if_pos rfl]); try (rw [if_neg (by rw [hs4]; decide)]); try (rw [if_neg (by rw [hs4]; decide)]); try (rw [if_neg (by rw [hs4]; decide)]); try (rw [if_neg (by rw [hs4]; decide)]); try (rw [if_neg (by rw [hs4]; decide)]); try (rw [if_pos hs4]); all_goals rfl)⟩, ht⟩) (fun _ h => by cases h) d_T_module_85
      · refine lv_tableOut (tgt := 86) hx hb d_T_module_18 hs4 rfl ?_
        refine lv_iconst (v := (-1)) hx hb d_T_module_86 (by decide) ?_
        exact W.iret (v := (-1)) hx hb hr (fun t ht _ => ⟨_, rfl, ⟨trivial, (by rw [← hSP, s_T_module]; try (rw [if_neg hc3]); try (rw [if_pos rfl]); try (rw [if_neg (fun e9 => by rw [e9] at hs4; revert hs4; decide)]); try (rw [if_neg (fun e9 => by rw [e9] at hs4; revert hs4; decide)]); try (rw [if_neg (fun e9 => by rw [e9] at hs4; revert hs4; decide)]); try (rw [if_neg (fun e9 => by rw [e9] at hs4; revert hs4; decide)]); try (rw [if_neg (fun e9 => by rw [e9] at hs4; revert hs4; decide)]); try (rw [if_neg (fun e9 => by rw [e9] at hs4; revert hs4; decide)]); all_goals rfl)⟩, ht⟩) (fun _ h => by cases h) d_T_module_87
    · --  1
      refine lv_aload_n hx hb d_T_module_10 rfl (lv_at hl 0 rfl) ?_
      refine va_get (D := (dC, dI)) (ci := 0) (v := .ref a9) (C := "VotedTriple") (T := F_T) (N := 11) hx hb hw in_T hown hK hP 0 rfl rfl 1 (by decide) (hw _ k_195) (fun _ h9 => h9) rfl d_T_module_11 ?_
      refine lv_iload_n hx hb d_T_module_14 rfl (lv_at hl 1 rfl) ?_
      refine va_aldq hx hb hK hP 1 0 rfl rfl (by unfold vp_in; decide) d_T_module_15 ?_
      refine W.eq (g2 := F0 m 16 ls [.ref (da 1)]) rfl ?_
      refine lv_astore_n hx hb d_T_module_16 rfl hl (by decide) rfl (fun ls hl => ?_)
      replace hl : lv_has ls 4 [(3, .ref (da 1)), (0, .ref h0), (1, .int 1), (2, .int y)] := hl
      refine lv_iload_n hx hb d_T_module_17 rfl (lv_at hl 3 rfl) ?_
      rcases sw5 (y) with hs7 | hs7 | hs7 | hs7 | hs7 | hs7 | hs7
      · refine lv_tableIn (off := 38) (tgt := 56) hx hb d_T_module_18 (by rw [hs7]; decide) (by rw [hs7]; decide) (by rw [hs7]; decide) rfl ?_
        refine lv_aload_n hx hb d_T_module_56 rfl (lv_at hl 0 rfl) ?_
        refine va_get (D := (dC, dI)) (ci := 2) (v := .int (F 1 8)) (C := "VotedTriple$VotedModule") (T := F_D) (N := 19) hx hb hw in_D hown hK hP 3 rfl rfl 8 (by decide) (hw _ k_143) (fun _ h9 => h9) rfl d_T_module_57 ?_
        exact W.iret (v := (F 1 8)) hx hb hr (fun t ht _ => ⟨_, rfl, ⟨trivial, (by rw [← hSP, s_T_module]; try (rw [if_neg hc3]); try (rw [if_neg (by decide)]); try (rw [if_pos rfl]); try (rw [if_pos hs7]); all_goals rfl)⟩, ht⟩) (fun _ h => by cases h) d_T_module_60
      · refine lv_tableIn (off := 43) (tgt := 61) hx hb d_T_module_18 (by rw [hs7]; decide) (by rw [hs7]; decide) (by rw [hs7]; decide) rfl ?_
        refine lv_aload_n hx hb d_T_module_61 rfl (lv_at hl 0 rfl) ?_
        replace hPc := hP.sub (ws' := [(da 1, .inr (2, oD (F 1) (ra 1) (ka 1)))]) [3] rfl
        replace hKc := hK.sub (tys' := []) [] rfl
        refine vp_callSi (va_runV (C := "VotedTriple$VotedModule") (As := []) (rest := []) ⟨hx, hb, hml, hown, hw⟩ (c_D_shownMark l dC dI (da 1) (ra 1) (ka 1) (F 1)) (cwV 0 hw (gdV (k_367) (k_364) (k_365) (k_366) (k_7)) rfl rfl rfl (by decide +kernel) ⟨Nat.le_of_ble_eq_true rfl, Nat.le_of_ble_eq_true rfl⟩) ⟨fun a U g mk q => ⟨q.1, q.2.1, va_K.moved (u := U) (U := U.calling g mk a) (Vm.Alike.refl U.vm) q.2.2⟩, va_recv hK hP rfl (q0 := 3) rfl, fun U hU hW => ⟨rfl, by rw [hU]; exact hPc, va_K.moved hW.alike hKc⟩⟩ rfl rfl hl.1 rfl (lv_room (Nat.le_of_ble_eq_true rfl)) d_T_module_62 ⟨Nat.le_of_ble_eq_true rfl, Nat.le_of_ble_eq_true rfl⟩).run (fun r8 hr9 => ?_)
        obtain ⟨hr9, hr9E⟩ := hr9
        exact W.iret (v := r8) hx hb hr (fun t ht _ => ⟨_, rfl, ⟨trivial, (by rw [← hSP, s_T_module]; try (rw [if_neg hc3]); try (rw [if_neg (by decide)]); try (rw [if_pos rfl]); try (rw [if_neg (by rw [hs7]; decide)]); try (rw [if_pos hs7]); try (rw [← hr9E, bnd_eq]); all_goals rfl)⟩, ht⟩) (fun _ h => by cases h) d_T_module_65
      · refine lv_tableIn (off := 48) (tgt := 66) hx hb d_T_module_18 (by rw [hs7]; decide) (by rw [hs7]; decide) (by rw [hs7]; decide) rfl ?_
        refine lv_aload_n hx hb d_T_module_66 rfl (lv_at hl 0 rfl) ?_
        refine va_get (D := (dC, dI)) (ci := 2) (v := .int (F 1 10)) (C := "VotedTriple$VotedModule") (T := F_D) (N := 19) hx hb hw in_D hown hK hP 3 rfl rfl 10 (by decide) (hw _ k_147) (fun _ h9 => h9) rfl d_T_module_67 ?_
        exact W.iret (v := (F 1 10)) hx hb hr (fun t ht _ => ⟨_, rfl, ⟨trivial, (by rw [← hSP, s_T_module]; try (rw [if_neg hc3]); try (rw [if_neg (by decide)]); try (rw [if_pos rfl]); try (rw [if_neg (by rw [hs7]; decide)]); try (rw [if_neg (by rw [hs7]; decide)]); try (rw [if_pos hs7]); all_goals rfl)⟩, ht⟩) (fun _ h => by cases h) d_T_module_70
      · refine lv_tableIn (off := 53) (tgt := 71) hx hb d_T_module_18 (by rw [hs7]; decide) (by rw [hs7]; decide) (by rw [hs7]; decide) rfl ?_
        refine lv_aload_n hx hb d_T_module_71 rfl (lv_at hl 0 rfl) ?_
        refine va_get (D := (dC, dI)) (ci := 2) (v := .int (F 1 1)) (C := "VotedTriple$VotedModule") (T := F_D) (N := 19) hx hb hw in_D hown hK hP 3 rfl rfl 1 (by decide) (hw _ k_77) (fun x9 h9 => u_same (hw _ k_76) x9 h9) rfl d_T_module_72 ?_
        exact W.iret (v := (F 1 1)) hx hb hr (fun t ht _ => ⟨_, rfl, ⟨trivial, (by rw [← hSP, s_T_module]; try (rw [if_neg hc3]); try (rw [if_neg (by decide)]); try (rw [if_pos rfl]); try (rw [if_neg (by rw [hs7]; decide)]); try (rw [if_neg (by rw [hs7]; decide)]); try (rw [if_neg (by rw [hs7]; decide)]); try (rw [if_pos hs7]); all_goals rfl)⟩, ht⟩) (fun _ h => by cases h) d_T_module_75
      · refine lv_tableIn (off := 58) (tgt := 76) hx hb d_T_module_18 (by rw [hs7]; decide) (by rw [hs7]; decide) (by rw [hs7]; decide) rfl ?_
        refine lv_aload_n hx hb d_T_module_76 rfl (lv_at hl 0 rfl) ?_
        refine va_get (D := (dC, dI)) (ci := 2) (v := .int (F 1 13)) (C := "VotedTriple$VotedModule") (T := F_D) (N := 19) hx hb hw in_D hown hK hP 3 rfl rfl 13 (by decide) (hw _ k_153) (fun _ h9 => h9) rfl d_T_module_77 ?_
        exact W.iret (v := (F 1 13)) hx hb hr (fun t ht _ => ⟨_, rfl, ⟨trivial, (by rw [← hSP, s_T_module]; try (rw [if_neg hc3]); try (rw [if_neg (by decide)]); try (rw [if_pos rfl]); try (rw [if_neg (by rw [hs7]; decide)]); try (rw [if_neg (by rw [hs7]; decide)]); try (rw [if_neg (by rw [hs7]; decide)]); try (rw [if_neg (by rw [hs7]; decide)]); try (rw [if_pos hs7]); all_goals rfl)⟩, ht⟩) (fun _ h => by cases h) d_T_module_80
      · refine lv_tableIn (off := 63) (tgt := 81) hx hb d_T_module_18 (by rw [hs7]; decide) (by rw [hs7]; decide) (by rw [hs7]; decide) rfl ?_
        refine lv_aload_n hx hb d_T_module_81 rfl (lv_at hl 0 rfl) ?_
        refine va_get (D := (dC, dI)) (ci := 2) (v := .int (F 1 14)) (C := "VotedTriple$VotedModule") (T := F_D) (N := 19) hx hb hw in_D hown hK hP 3 rfl rfl 14 (by decide) (hw _ k_155) (fun _ h9 => h9) rfl d_T_module_82 ?_
        exact W.iret (v := (F 1 14)) hx hb hr (fun t ht _ => ⟨_, rfl, ⟨trivial, (by rw [← hSP, s_T_module]; try (rw [if_neg hc3]); try (rw [if_neg (by decide)]); try (rw [if_pos rfl]); try (rw [if_neg (by rw [hs7]; decide)]); try (rw [if_neg (by rw [hs7]; decide)]); try (rw [if_neg (by rw [hs7]; decide)]); try (rw [if_neg (by rw [hs7]; decide)]); try (rw [if_neg (by rw [hs7]; decide)]); try (rw [if_pos hs7]); all_goals rfl)⟩, ht⟩) (fun _ h => by cases h) d_T_module_85
      · refine lv_tableOut (tgt := 86) hx hb d_T_module_18 hs7 rfl ?_
        refine lv_iconst (v := (-1)) hx hb d_T_module_86 (by decide) ?_
        exact W.iret (v := (-1)) hx hb hr (fun t ht _ => ⟨_, rfl, ⟨trivial, (by rw [← hSP, s_T_module]; try (rw [if_neg hc3]); try (rw [if_neg (by decide)]); try (rw [if_pos rfl]); try (rw [if_neg (fun e9 => by rw [e9] at hs7; revert hs7; decide)]); try (rw [if_neg (fun e9 => by rw [e9] at hs7; revert hs7; decide)]); try (rw [if_neg (fun e9 => by rw [e9] at hs7; revert hs7; decide)]); try (rw [if_neg (fun e9 => by rw [e9] at hs7; revert hs7; decide)]); try (rw [if_neg (fun e9 => by rw [e9] at hs7; revert hs7; decide)]); try (rw [if_neg (fun e9 => by rw [e9] at hs7; revert hs7; decide)]); all_goals rfl)⟩, ht⟩) (fun _ h => by cases h) d_T_module_87
    · --  2
      refine lv_aload_n hx hb d_T_module_10 rfl (lv_at hl 0 rfl) ?_
      refine va_get (D := (dC, dI)) (ci := 0) (v := .ref a9) (C := "VotedTriple") (T := F_T) (N := 11) hx hb hw in_T hown hK hP 0 rfl rfl 1 (by decide) (hw _ k_195) (fun _ h9 => h9) rfl d_T_module_11 ?_
      refine lv_iload_n hx hb d_T_module_14 rfl (lv_at hl 1 rfl) ?_
      refine va_aldq hx hb hK hP 1 0 rfl rfl (by unfold vp_in; decide) d_T_module_15 ?_
      refine W.eq (g2 := F0 m 16 ls [.ref (da 2)]) rfl ?_
      refine lv_astore_n hx hb d_T_module_16 rfl hl (by decide) rfl (fun ls hl => ?_)
      replace hl : lv_has ls 4 [(3, .ref (da 2)), (0, .ref h0), (1, .int 2), (2, .int y)] := hl
      refine lv_iload_n hx hb d_T_module_17 rfl (lv_at hl 3 rfl) ?_
      rcases sw5 (y) with hs10 | hs10 | hs10 | hs10 | hs10 | hs10 | hs10
      · refine lv_tableIn (off := 38) (tgt := 56) hx hb d_T_module_18 (by rw [hs10]; decide) (by rw [hs10]; decide) (by rw [hs10]; decide) rfl ?_
        refine lv_aload_n hx hb d_T_module_56 rfl (lv_at hl 0 rfl) ?_
        refine va_get (D := (dC, dI)) (ci := 2) (v := .int (F 2 8)) (C := "VotedTriple$VotedModule") (T := F_D) (N := 19) hx hb hw in_D hown hK hP 4 rfl rfl 8 (by decide) (hw _ k_143) (fun _ h9 => h9) rfl d_T_module_57 ?_
        exact W.iret (v := (F 2 8)) hx hb hr (fun t ht _ => ⟨_, rfl, ⟨trivial, (by rw [← hSP, s_T_module]; try (rw [if_neg hc3]); try (rw [if_neg (by decide)]); try (rw [if_neg (by decide)]); try (rw [if_pos hs10]); all_goals rfl)⟩, ht⟩) (fun _ h => by cases h) d_T_module_60
      · refine lv_tableIn (off := 43) (tgt := 61) hx hb d_T_module_18 (by rw [hs10]; decide) (by rw [hs10]; decide) (by rw [hs10]; decide) rfl ?_
        refine lv_aload_n hx hb d_T_module_61 rfl (lv_at hl 0 rfl) ?_
        replace hPc := hP.sub (ws' := [(da 2, .inr (2, oD (F 2) (ra 2) (ka 2)))]) [4] rfl
        replace hKc := hK.sub (tys' := []) [] rfl
        refine vp_callSi (va_runV (C := "VotedTriple$VotedModule") (As := []) (rest := []) ⟨hx, hb, hml, hown, hw⟩ (c_D_shownMark l dC dI (da 2) (ra 2) (ka 2) (F 2)) (cwV 0 hw (gdV (k_367) (k_364) (k_365) (k_366) (k_7)) rfl rfl rfl (by decide +kernel) ⟨Nat.le_of_ble_eq_true rfl, Nat.le_of_ble_eq_true rfl⟩) ⟨fun a U g mk q => ⟨q.1, q.2.1, va_K.moved (u := U) (U := U.calling g mk a) (Vm.Alike.refl U.vm) q.2.2⟩, va_recv hK hP rfl (q0 := 4) rfl, fun U hU hW => ⟨rfl, by rw [hU]; exact hPc, va_K.moved hW.alike hKc⟩⟩ rfl rfl hl.1 rfl (lv_room (Nat.le_of_ble_eq_true rfl)) d_T_module_62 ⟨Nat.le_of_ble_eq_true rfl, Nat.le_of_ble_eq_true rfl⟩).run (fun r11 hr12 => ?_)
        obtain ⟨hr12, hr12E⟩ := hr12
        exact W.iret (v := r11) hx hb hr (fun t ht _ => ⟨_, rfl, ⟨trivial, (by rw [← hSP, s_T_module]; try (rw [if_neg hc3]); try (rw [if_neg (by decide)]); try (rw [if_neg (by decide)]); try (rw [if_neg (by rw [hs10]; decide)]); try (rw [if_pos hs10]); try (rw [← hr12E, bnd_eq]); all_goals rfl)⟩, ht⟩) (fun _ h => by cases h) d_T_module_65
      · refine lv_tableIn (off := 48) (tgt := 66) hx hb d_T_module_18 (by rw [hs10]; decide) (by rw [hs10]; decide) (by rw [hs10]; decide) rfl ?_
        refine lv_aload_n hx hb d_T_module_66 rfl (lv_at hl 0 rfl) ?_
        refine va_get (D := (dC, dI)) (ci := 2) (v := .int (F 2 10)) (C := "VotedTriple$VotedModule") (T := F_D) (N := 19) hx hb hw in_D hown hK hP 4 rfl rfl 10 (by decide) (hw _ k_147) (fun _ h9 => h9) rfl d_T_module_67 ?_
        exact W.iret (v := (F 2 10)) hx hb hr (fun t ht _ => ⟨_, rfl, ⟨trivial, (by rw [← hSP, s_T_module]; try (rw [if_neg hc3]); try (rw [if_neg (by decide)]); try (rw [if_neg (by decide)]); try (rw [if_neg (by rw [hs10]; decide)]); try (rw [if_neg (by rw [hs10]; decide)]); try (rw [if_pos hs10]); all_goals rfl)⟩, ht⟩) (fun _ h => by cases h) d_T_module_70
      · refine lv_tableIn (off := 53) (tgt := 71) hx hb d_T_module_18 (by rw [hs10]; decide) (by rw [hs10]; decide) (by rw [hs10]; decide) rfl ?_
        refine lv_aload_n hx hb d_T_module_71 rfl (lv_at hl 0 rfl) ?_
        refine va_get (D := (dC, dI)) (ci := 2) (v := .int (F 2 1)) (C := "VotedTriple$VotedModule") (T := F_D) (N := 19) hx hb hw in_D hown hK hP 4 rfl rfl 1 (by decide) (hw _ k_77) (fun x9 h9 => u_same (hw _ k_76) x9 h9) rfl d_T_module_72 ?_
        exact W.iret (v := (F 2 1)) hx hb hr (fun t ht _ => ⟨_, rfl, ⟨trivial, (by rw [← hSP, s_T_module]; try (rw [if_neg hc3]); try (rw [if_neg (by decide)]); try (rw [if_neg (by decide)]); try (rw [if_neg (by rw [hs10]; decide)]); try (rw [if_neg (by rw [hs10]; decide)]); try (rw [if_neg (by rw [hs10]; decide)]); try (rw [if_pos hs10]); all_goals rfl)⟩, ht⟩) (fun _ h => by cases h) d_T_module_75
      · refine lv_tableIn (off := 58) (tgt := 76) hx hb d_T_module_18 (by rw [hs10]; decide) (by rw [hs10]; decide) (by rw [hs10]; decide) rfl ?_
        refine lv_aload_n hx hb d_T_module_76 rfl (lv_at hl 0 rfl) ?_
        refine va_get (D := (dC, dI)) (ci := 2) (v := .int (F 2 13)) (C := "VotedTriple$VotedModule") (T := F_D) (N := 19) hx hb hw in_D hown hK hP 4 rfl rfl 13 (by decide) (hw _ k_153) (fun _ h9 => h9) rfl d_T_module_77 ?_
        exact W.iret (v := (F 2 13)) hx hb hr (fun t ht _ => ⟨_, rfl, ⟨trivial, (by rw [← hSP, s_T_module]; try (rw [if_neg hc3]); try (rw [if_neg (by decide)]); try (rw [if_neg (by decide)]); try (rw [if_neg (by rw [hs10]; decide)]); try (rw [if_neg (by rw [hs10]; decide)]); try (rw [if_neg (by rw [hs10]; decide)]); try (rw [if_neg (by rw [hs10]; decide)]); try (rw [if_pos hs10]); all_goals rfl)⟩, ht⟩) (fun _ h => by cases h) d_T_module_80
      · refine lv_tableIn (off := 63) (tgt := 81) hx hb d_T_module_18 (by rw [hs10]; decide) (by rw [hs10]; decide) (by rw [hs10]; decide) rfl ?_
        refine lv_aload_n hx hb d_T_module_81 rfl (lv_at hl 0 rfl) ?_
        refine va_get (D := (dC, dI)) (ci := 2) (v := .int (F 2 14)) (C := "VotedTriple$VotedModule") (T := F_D) (N := 19) hx hb hw in_D hown hK hP 4 rfl rfl 14 (by decide) (hw _ k_155) (fun _ h9 => h9) rfl d_T_module_82 ?_
        exact W.iret (v := (F 2 14)) hx hb hr (fun t ht _ => ⟨_, rfl, ⟨trivial, (by rw [← hSP, s_T_module]; try (rw [if_neg hc3]); try (rw [if_neg (by decide)]); try (rw [if_neg (by decide)]); try (rw [if_neg (by rw [hs10]; decide)]); try (rw [if_neg (by rw [hs10]; decide)]); try (rw [if_neg (by rw [hs10]; decide)]); try (rw [if_neg (by rw [hs10]; decide)]); try (rw [if_neg (by rw [hs10]; decide)]); try (rw [if_pos hs10]); all_goals rfl)⟩, ht⟩) (fun _ h => by cases h) d_T_module_85
      · refine lv_tableOut (tgt := 86) hx hb d_T_module_18 hs10 rfl ?_
        refine lv_iconst (v := (-1)) hx hb d_T_module_86 (by decide) ?_
        exact W.iret (v := (-1)) hx hb hr (fun t ht _ => ⟨_, rfl, ⟨trivial, (by rw [← hSP, s_T_module]; try (rw [if_neg hc3]); try (rw [if_neg (by decide)]); try (rw [if_neg (by decide)]); try (rw [if_neg (fun e9 => by rw [e9] at hs10; revert hs10; decide)]); try (rw [if_neg (fun e9 => by rw [e9] at hs10; revert hs10; decide)]); try (rw [if_neg (fun e9 => by rw [e9] at hs10; revert hs10; decide)]); try (rw [if_neg (fun e9 => by rw [e9] at hs10; revert hs10; decide)]); try (rw [if_neg (fun e9 => by rw [e9] at hs10; revert hs10; decide)]); try (rw [if_neg (fun e9 => by rw [e9] at hs10; revert hs10; decide)]); all_goals rfl)⟩, ht⟩) (fun _ h => by cases h) d_T_module_87
  · --  (bI (hmB uT x)) = 0
    refine lv_iconst (v := (-1)) hx hb d_T_module_8 (by decide) ?_
    exact W.iret (v := (-1)) hx hb hr (fun t ht _ => ⟨_, rfl, ⟨trivial, (by rw [← hSP, s_T_module]; try (rw [if_pos hc3]); all_goals rfl)⟩, ht⟩) (fun _ h => by cases h) d_T_module_9

set_option maxHeartbeats 4000000 in
set_option maxRecDepth 100000 in
theorem c_T_register (l : Launch) (dC : Nat → ClassId) (dI : Nat → Nat → Nat) (h0 : Nat) (p9 : Nat) (a9 : Nat) (e9 : Nat) (n9 : Nat) (o9 : Nat) (ca : ClassId) (da : Nat → Nat) (ra : Nat → Nat) (ka : Nat → Nat) (cr : Nat → ClassId) (uT : Nat → Int32) (F : Nat → Nat → Int32) (g : Nat → Nat → Int32) (x : Int32) (y : Int32) : Met l y_T_register (tbw y_T_register b_T_register 3 (some .int)) ({ frames := 1, cells := 0, slots := 0, locals := 21 }) (va_Pc [.ref h0, .int x, .int y] (fun U => va_P (dC, dI) classes [(h0, .inr (0, oT uT p9 a9 e9 n9 o9)), (a9, .inl (ca, 3, .inr (.inr (.inr (.inr (mo da)))))), (da 0, .inr (2, oD (F 0) (ra 0) (ka 0))), (ra 0, .inl (cr 0, 8, .inl (g 0))), (da 1, .inr (2, oD (F 1) (ra 1) (ka 1))), (ra 1, .inl (cr 1, 8, .inl (g 1))), (da 2, .inr (2, oD (F 2) (ra 2) (ka 2))), (ra 2, .inl (cr 2, 8, .inl (g 2)))] U.heap ∧ va_K (dC, dI) classes [(ca, .object "VotedTriple$VotedModule"), (cr 0, .int), (cr 1, .int), (cr 2, .int)] U)) (vp_Si (fun r => (True) ∧ r = s_T_register uT g x y)) 0 0 (fun _ => False) := by
  refine Met.ofW (cc := b_T_register) (maxL := 3) (ret := (some .int)) (by decide) rfl ?_
  intro p e s m args below meth c s₁ B hml hv
  obtain ⟨rfl, hP, hK⟩ := hv
  have hx := B.exec
  have hb := B.bytes
  have hr := B.returns
  have hts := atoms_spec (ws := (tbw y_T_register b_T_register 3 (some .int))) B.pre
  have hw : ∀ z9 ∈ tb, z9.before ([.ref h0, .int x, .int y] : List Value).toArray s = true := fun z9 h => hts z9 (List.mem_cons_of_mem _ h)
  have hown : s.vm.findClass "VotedTriple" = some m.cls := findClass_of_methodNamed B.named
  have hlocks := B.notSynchronized
  replace hl := lv_entry ([.ref h0, .int x, .int y]) (n := 3) (Nat.le_of_ble_eq_true rfl)
  rw [lg_entry_eq]
  generalize (lg_sl ([.ref h0, .int x, .int y]) ++ List.replicate (3 - (lg_sl ([.ref h0, .int x, .int y])).length) Slot.unset).toArray = ls at hl ⊢
  replace hl : lv_has ls 3 [(0, .ref h0), (1, .int x), (2, .int y)] := hl
  generalize hSP : s_T_register uT g x y = SP
  refine lv_aload_n hx hb d_T_register_0 rfl (lv_at hl 0 rfl) ?_
  refine lv_iload_n hx hb d_T_register_1 rfl (lv_at hl 1 rfl) ?_
  replace hPc := hP.sub (ws' := [(h0, .inr (0, oT uT p9 a9 e9 n9 o9))]) [0] rfl
  replace hKc := hK.sub (tys' := []) [] rfl
  refine vp_callSi (va_runV (C := "VotedTriple") (As := [.int x]) (rest := []) ⟨hx, hb, hml, hown, hw⟩ (c_T_hasModule l dC dI h0 p9 a9 e9 n9 o9 uT x) (cwV 1 hw (gdV (k_339) (k_336) (k_338) (ks_0) (k_1)) rfl rfl rfl (by decide +kernel) ⟨Nat.le_of_ble_eq_true rfl, Nat.le_of_ble_eq_true rfl⟩) ⟨fun a U g mk q => ⟨q.1, q.2.1, va_K.moved (u := U) (U := U.calling g mk a) (Vm.Alike.refl U.vm) q.2.2⟩, va_recv hK hP rfl (q0 := 0) rfl, fun U hU hW => ⟨rfl, by rw [hU]; exact hPc, va_K.moved hW.alike hKc⟩⟩ rfl rfl hl.1 rfl (lv_room (Nat.le_of_ble_eq_true rfl)) d_T_register_2 ⟨Nat.le_of_ble_eq_true rfl, Nat.le_of_ble_eq_true rfl⟩).run (fun r1 hr2 => ?_)
  subst hr2
  refine lv_if_eq (tgt := 18) hx hb d_T_register_5 rfl (fun hc3 => ?_) (fun hc3 => ?_)
  · --  (bI (hmB uT x)) = 0
    refine lv_iconst (v := (-1)) hx hb d_T_register_18 (by decide) ?_
    exact W.iret (v := (-1)) hx hb hr (fun t ht _ => ⟨_, rfl, ⟨trivial, (by rw [← hSP, s_T_register]; try (rw [if_pos hc3]); all_goals rfl)⟩, ht⟩) (fun _ h => by cases h) d_T_register_19
  · --  ¬ (bI (hmB uT x)) = 0
    obtain ⟨hs5, rfl | rfl | rfl⟩ := hm_c hc3
    · --  0
      refine lv_iload_n hx hb d_T_register_8 rfl (lv_at hl 2 rfl) ?_
      refine lv_if_lt (tgt := 18) hx hb d_T_register_9 rfl (fun hc4 => ?_) (fun hc4 => ?_)
      · --  y < 0
        refine lv_iconst (v := (-1)) hx hb d_T_register_18 (by decide) ?_
        exact W.iret (v := (-1)) hx hb hr (fun t ht _ => ⟨_, rfl, ⟨trivial, (by rw [← hSP, s_T_register]; try (rw [if_neg hc3]); try (rw [if_pos rfl]); try (rw [if_pos hc4]); all_goals rfl)⟩, ht⟩) (fun _ h => by cases h) d_T_register_19
      · --  ¬ y < 0
        refine lv_iload_n hx hb d_T_register_12 rfl (lv_at hl 2 rfl) ?_
        refine lv_bipush (v := 8) hx hb d_T_register_13 (by decide) ?_
        refine lv_icmp_lt (tgt := 20) hx hb d_T_register_15 rfl (fun hc5 => ?_) (fun hc5 => ?_)
        · --  y < 8
          refine lv_aload_n hx hb d_T_register_20 rfl (lv_at hl 0 rfl) ?_
          refine va_get (D := (dC, dI)) (ci := 0) (v := .ref a9) (C := "VotedTriple") (T := F_T) (N := 11) hx hb hw in_T hown hK hP 0 rfl rfl 1 (by decide) (hw _ k_195) (fun _ h9 => h9) rfl d_T_register_21 ?_
          refine lv_iload_n hx hb d_T_register_24 rfl (lv_at hl 1 rfl) ?_
          refine va_aldq hx hb hK hP 1 0 rfl rfl (by unfold vp_in; decide) d_T_register_25 ?_
          refine W.eq (g2 := F0 m 26 ls [.ref (da 0)]) rfl ?_
          refine va_get (D := (dC, dI)) (ci := 2) (v := .ref (ra 0)) (C := "VotedTriple$VotedModule") (T := F_D) (N := 19) hx hb hw in_D hown hK hP 2 rfl rfl 0 (by decide) (hw _ k_73) (fun x9 h9 => u_same (hw _ k_72) x9 h9) rfl d_T_register_26 ?_
          refine lv_iload_n hx hb d_T_register_29 rfl (lv_at hl 2 rfl) ?_
          refine va_iald hx hb hK hP 3 1 rfl rfl (in_of (N := 8) rfl (by simpa using hc4) (by simpa using hc5)) d_T_register_30 ?_
          exact W.iret (v := ((g 0) (Int32.toNatClampNeg y))) hx hb hr (fun t ht _ => ⟨_, rfl, ⟨trivial, (by rw [← hSP, s_T_register]; try (rw [if_neg hc3]); try (rw [if_pos rfl]); try (rw [if_neg hc4]); try (rw [if_pos hc5]); all_goals rfl)⟩, ht⟩) (fun _ h => by cases h) d_T_register_31
        · --  ¬ y < 8
          refine lv_iconst (v := (-1)) hx hb d_T_register_18 (by decide) ?_
          exact W.iret (v := (-1)) hx hb hr (fun t ht _ => ⟨_, rfl, ⟨trivial, (by rw [← hSP, s_T_register]; try (rw [if_neg hc3]); try (rw [if_pos rfl]); try (rw [if_neg hc4]); try (rw [if_neg hc5]); all_goals rfl)⟩, ht⟩) (fun _ h => by cases h) d_T_register_19
    · --  1
      refine lv_iload_n hx hb d_T_register_8 rfl (lv_at hl 2 rfl) ?_
      refine lv_if_lt (tgt := 18) hx hb d_T_register_9 rfl (fun hc6 => ?_) (fun hc6 => ?_)
      · --  y < 0
        refine lv_iconst (v := (-1)) hx hb d_T_register_18 (by decide) ?_
        exact W.iret (v := (-1)) hx hb hr (fun t ht _ => ⟨_, rfl, ⟨trivial, (by rw [← hSP, s_T_register]; try (rw [if_neg hc3]); try (rw [if_neg (by decide)]); try (rw [if_pos rfl]); try (rw [if_pos hc6]); all_goals rfl)⟩, ht⟩) (fun _ h => by cases h) d_T_register_19
      · --  ¬ y < 0
        refine lv_iload_n hx hb d_T_register_12 rfl (lv_at hl 2 rfl) ?_
        refine lv_bipush (v := 8) hx hb d_T_register_13 (by decide) ?_
        refine lv_icmp_lt (tgt := 20) hx hb d_T_register_15 rfl (fun hc7 => ?_) (fun hc7 => ?_)
        · --  y < 8
          refine lv_aload_n hx hb d_T_register_20 rfl (lv_at hl 0 rfl) ?_
          refine va_get (D := (dC, dI)) (ci := 0) (v := .ref a9) (C := "VotedTriple") (T := F_T) (N := 11) hx hb hw in_T hown hK hP 0 rfl rfl 1 (by decide) (hw _ k_195) (fun _ h9 => h9) rfl d_T_register_21 ?_
          refine lv_iload_n hx hb d_T_register_24 rfl (lv_at hl 1 rfl) ?_
          refine va_aldq hx hb hK hP 1 0 rfl rfl (by unfold vp_in; decide) d_T_register_25 ?_
          refine W.eq (g2 := F0 m 26 ls [.ref (da 1)]) rfl ?_
          refine va_get (D := (dC, dI)) (ci := 2) (v := .ref (ra 1)) (C := "VotedTriple$VotedModule") (T := F_D) (N := 19) hx hb hw in_D hown hK hP 4 rfl rfl 0 (by decide) (hw _ k_73) (fun x9 h9 => u_same (hw _ k_72) x9 h9) rfl d_T_register_26 ?_
          refine lv_iload_n hx hb d_T_register_29 rfl (lv_at hl 2 rfl) ?_
          refine va_iald hx hb hK hP 5 2 rfl rfl (in_of (N := 8) rfl (by simpa using hc6) (by simpa using hc7)) d_T_register_30 ?_
          exact W.iret (v := ((g 1) (Int32.toNatClampNeg y))) hx hb hr (fun t ht _ => ⟨_, rfl, ⟨trivial, (by rw [← hSP, s_T_register]; try (rw [if_neg hc3]); try (rw [if_neg (by decide)]); try (rw [if_pos rfl]); try (rw [if_neg hc6]); try (rw [if_pos hc7]); all_goals rfl)⟩, ht⟩) (fun _ h => by cases h) d_T_register_31
        · --  ¬ y < 8
          refine lv_iconst (v := (-1)) hx hb d_T_register_18 (by decide) ?_
          exact W.iret (v := (-1)) hx hb hr (fun t ht _ => ⟨_, rfl, ⟨trivial, (by rw [← hSP, s_T_register]; try (rw [if_neg hc3]); try (rw [if_neg (by decide)]); try (rw [if_pos rfl]); try (rw [if_neg hc6]); try (rw [if_neg hc7]); all_goals rfl)⟩, ht⟩) (fun _ h => by cases h) d_T_register_19
    · --  2
      refine lv_iload_n hx hb d_T_register_8 rfl (lv_at hl 2 rfl) ?_
      refine lv_if_lt (tgt := 18) hx hb d_T_register_9 rfl (fun hc8 => ?_) (fun hc8 => ?_)
      · --  y < 0
        refine lv_iconst (v := (-1)) hx hb d_T_register_18 (by decide) ?_
        exact W.iret (v := (-1)) hx hb hr (fun t ht _ => ⟨_, rfl, ⟨trivial, (by rw [← hSP, s_T_register]; try (rw [if_neg hc3]); try (rw [if_neg (by decide)]); try (rw [if_neg (by decide)]); try (rw [if_pos hc8]); all_goals rfl)⟩, ht⟩) (fun _ h => by cases h) d_T_register_19
      · --  ¬ y < 0
        refine lv_iload_n hx hb d_T_register_12 rfl (lv_at hl 2 rfl) ?_
        refine lv_bipush (v := 8) hx hb d_T_register_13 (by decide) ?_
        refine lv_icmp_lt (tgt := 20) hx hb d_T_register_15 rfl (fun hc9 => ?_) (fun hc9 => ?_)
        · --  y < 8
          refine lv_aload_n hx hb d_T_register_20 rfl (lv_at hl 0 rfl) ?_
          refine va_get (D := (dC, dI)) (ci := 0) (v := .ref a9) (C := "VotedTriple") (T := F_T) (N := 11) hx hb hw in_T hown hK hP 0 rfl rfl 1 (by decide) (hw _ k_195) (fun _ h9 => h9) rfl d_T_register_21 ?_
          refine lv_iload_n hx hb d_T_register_24 rfl (lv_at hl 1 rfl) ?_
          refine va_aldq hx hb hK hP 1 0 rfl rfl (by unfold vp_in; decide) d_T_register_25 ?_
          refine W.eq (g2 := F0 m 26 ls [.ref (da 2)]) rfl ?_
          refine va_get (D := (dC, dI)) (ci := 2) (v := .ref (ra 2)) (C := "VotedTriple$VotedModule") (T := F_D) (N := 19) hx hb hw in_D hown hK hP 6 rfl rfl 0 (by decide) (hw _ k_73) (fun x9 h9 => u_same (hw _ k_72) x9 h9) rfl d_T_register_26 ?_
          refine lv_iload_n hx hb d_T_register_29 rfl (lv_at hl 2 rfl) ?_
          refine va_iald hx hb hK hP 7 3 rfl rfl (in_of (N := 8) rfl (by simpa using hc8) (by simpa using hc9)) d_T_register_30 ?_
          exact W.iret (v := ((g 2) (Int32.toNatClampNeg y))) hx hb hr (fun t ht _ => ⟨_, rfl, ⟨trivial, (by rw [← hSP, s_T_register]; try (rw [if_neg hc3]); try (rw [if_neg (by decide)]); try (rw [if_neg (by decide)]); try (rw [if_neg hc8]); try (rw [if_pos hc9]); all_goals rfl)⟩, ht⟩) (fun _ h => by cases h) d_T_register_31
        · --  ¬ y < 8
          refine lv_iconst (v := (-1)) hx hb d_T_register_18 (by decide) ?_
          exact W.iret (v := (-1)) hx hb hr (fun t ht _ => ⟨_, rfl, ⟨trivial, (by rw [← hSP, s_T_register]; try (rw [if_neg hc3]); try (rw [if_neg (by decide)]); try (rw [if_neg (by decide)]); try (rw [if_neg hc8]); try (rw [if_neg hc9]); all_goals rfl)⟩, ht⟩) (fun _ h => by cases h) d_T_register_19

set_option maxHeartbeats 4000000 in
set_option maxRecDepth 100000 in
theorem c_T_code (l : Launch) (dC : Nat → ClassId) (dI : Nat → Nat → Nat) (h0 : Nat) (p9 : Nat) (a9 : Nat) (e9 : Nat) (n9 : Nat) (o9 : Nat) (ca : ClassId) (da : Nat → Nat) (ra : Nat → Nat) (ka : Nat → Nat) (ck : Nat → ClassId) (uT : Nat → Int32) (F : Nat → Nat → Int32) (v : Nat → Nat → Int32) (x : Int32) (y : Int32) : Met l y_T_code (tbw y_T_code b_T_code 3 (some .int)) ({ frames := 1, cells := 0, slots := 0, locals := 21 }) (va_Pc [.ref h0, .int x, .int y] (fun U => va_P (dC, dI) classes [(h0, .inr (0, oT uT p9 a9 e9 n9 o9)), (a9, .inl (ca, 3, .inr (.inr (.inr (.inr (mo da)))))), (da 0, .inr (2, oD (F 0) (ra 0) (ka 0))), (ka 0, .inl (ck 0, 32, .inl (v 0))), (da 1, .inr (2, oD (F 1) (ra 1) (ka 1))), (ka 1, .inl (ck 1, 32, .inl (v 1))), (da 2, .inr (2, oD (F 2) (ra 2) (ka 2))), (ka 2, .inl (ck 2, 32, .inl (v 2)))] U.heap ∧ va_K (dC, dI) classes [(ca, .object "VotedTriple$VotedModule"), (ck 0, .int), (ck 1, .int), (ck 2, .int)] U)) (vp_Si (fun r => (True) ∧ r = s_T_code uT v x y)) 0 0 (fun _ => False) := by
  refine Met.ofW (cc := b_T_code) (maxL := 3) (ret := (some .int)) (by decide) rfl ?_
  intro p e s m args below meth c s₁ B hml hv
  obtain ⟨rfl, hP, hK⟩ := hv
  have hx := B.exec
  have hb := B.bytes
  have hr := B.returns
  have hts := atoms_spec (ws := (tbw y_T_code b_T_code 3 (some .int))) B.pre
  have hw : ∀ z9 ∈ tb, z9.before ([.ref h0, .int x, .int y] : List Value).toArray s = true := fun z9 h => hts z9 (List.mem_cons_of_mem _ h)
  have hown : s.vm.findClass "VotedTriple" = some m.cls := findClass_of_methodNamed B.named
  have hlocks := B.notSynchronized
  replace hl := lv_entry ([.ref h0, .int x, .int y]) (n := 3) (Nat.le_of_ble_eq_true rfl)
  rw [lg_entry_eq]
  generalize (lg_sl ([.ref h0, .int x, .int y]) ++ List.replicate (3 - (lg_sl ([.ref h0, .int x, .int y])).length) Slot.unset).toArray = ls at hl ⊢
  replace hl : lv_has ls 3 [(0, .ref h0), (1, .int x), (2, .int y)] := hl
  generalize hSP : s_T_code uT v x y = SP
  refine lv_aload_n hx hb d_T_code_0 rfl (lv_at hl 0 rfl) ?_
  refine lv_iload_n hx hb d_T_code_1 rfl (lv_at hl 1 rfl) ?_
  replace hPc := hP.sub (ws' := [(h0, .inr (0, oT uT p9 a9 e9 n9 o9))]) [0] rfl
  replace hKc := hK.sub (tys' := []) [] rfl
  refine vp_callSi (va_runV (C := "VotedTriple") (As := [.int x]) (rest := []) ⟨hx, hb, hml, hown, hw⟩ (c_T_hasModule l dC dI h0 p9 a9 e9 n9 o9 uT x) (cwV 1 hw (gdV (k_339) (k_336) (k_338) (ks_0) (k_1)) rfl rfl rfl (by decide +kernel) ⟨Nat.le_of_ble_eq_true rfl, Nat.le_of_ble_eq_true rfl⟩) ⟨fun a U g mk q => ⟨q.1, q.2.1, va_K.moved (u := U) (U := U.calling g mk a) (Vm.Alike.refl U.vm) q.2.2⟩, va_recv hK hP rfl (q0 := 0) rfl, fun U hU hW => ⟨rfl, by rw [hU]; exact hPc, va_K.moved hW.alike hKc⟩⟩ rfl rfl hl.1 rfl (lv_room (Nat.le_of_ble_eq_true rfl)) d_T_code_2 ⟨Nat.le_of_ble_eq_true rfl, Nat.le_of_ble_eq_true rfl⟩).run (fun r1 hr2 => ?_)
  subst hr2
  refine lv_if_eq (tgt := 18) hx hb d_T_code_5 rfl (fun hc3 => ?_) (fun hc3 => ?_)
  · --  (bI (hmB uT x)) = 0
    refine lv_iconst (v := (-1)) hx hb d_T_code_18 (by decide) ?_
    exact W.iret (v := (-1)) hx hb hr (fun t ht _ => ⟨_, rfl, ⟨trivial, (by rw [← hSP, s_T_code]; try (rw [if_pos hc3]); all_goals rfl)⟩, ht⟩) (fun _ h => by cases h) d_T_code_19
  · --  ¬ (bI (hmB uT x)) = 0
    obtain ⟨hs5, rfl | rfl | rfl⟩ := hm_c hc3
    · --  0
      refine lv_iload_n hx hb d_T_code_8 rfl (lv_at hl 2 rfl) ?_
      refine lv_if_lt (tgt := 18) hx hb d_T_code_9 rfl (fun hc4 => ?_) (fun hc4 => ?_)
      · --  y < 0
        refine lv_iconst (v := (-1)) hx hb d_T_code_18 (by decide) ?_
        exact W.iret (v := (-1)) hx hb hr (fun t ht _ => ⟨_, rfl, ⟨trivial, (by rw [← hSP, s_T_code]; try (rw [if_neg hc3]); try (rw [if_pos rfl]); try (rw [if_pos hc4]); all_goals rfl)⟩, ht⟩) (fun _ h => by cases h) d_T_code_19
      · --  ¬ y < 0
        refine lv_iload_n hx hb d_T_code_12 rfl (lv_at hl 2 rfl) ?_
        refine lv_bipush (v := 32) hx hb d_T_code_13 (by decide) ?_
        refine lv_icmp_lt (tgt := 20) hx hb d_T_code_15 rfl (fun hc5 => ?_) (fun hc5 => ?_)
        · --  y < 32
          refine lv_aload_n hx hb d_T_code_20 rfl (lv_at hl 0 rfl) ?_
          refine va_get (D := (dC, dI)) (ci := 0) (v := .ref a9) (C := "VotedTriple") (T := F_T) (N := 11) hx hb hw in_T hown hK hP 0 rfl rfl 1 (by decide) (hw _ k_195) (fun _ h9 => h9) rfl d_T_code_21 ?_
          refine lv_iload_n hx hb d_T_code_24 rfl (lv_at hl 1 rfl) ?_
          refine va_aldq hx hb hK hP 1 0 rfl rfl (by unfold vp_in; decide) d_T_code_25 ?_
          refine W.eq (g2 := F0 m 26 ls [.ref (da 0)]) rfl ?_
          refine va_get (D := (dC, dI)) (ci := 2) (v := .ref (ka 0)) (C := "VotedTriple$VotedModule") (T := F_D) (N := 19) hx hb hw in_D hown hK hP 2 rfl rfl 7 (by decide) (hw _ k_141) (fun _ h9 => h9) rfl d_T_code_26 ?_
          refine lv_iload_n hx hb d_T_code_29 rfl (lv_at hl 2 rfl) ?_
          refine va_iald hx hb hK hP 3 1 rfl rfl (in_of (N := 32) rfl (by simpa using hc4) (by simpa using hc5)) d_T_code_30 ?_
          exact W.iret (v := ((v 0) (Int32.toNatClampNeg y))) hx hb hr (fun t ht _ => ⟨_, rfl, ⟨trivial, (by rw [← hSP, s_T_code]; try (rw [if_neg hc3]); try (rw [if_pos rfl]); try (rw [if_neg hc4]); try (rw [if_pos hc5]); all_goals rfl)⟩, ht⟩) (fun _ h => by cases h) d_T_code_31
        · --  ¬ y < 32
          refine lv_iconst (v := (-1)) hx hb d_T_code_18 (by decide) ?_
          exact W.iret (v := (-1)) hx hb hr (fun t ht _ => ⟨_, rfl, ⟨trivial, (by rw [← hSP, s_T_code]; try (rw [if_neg hc3]); try (rw [if_pos rfl]); try (rw [if_neg hc4]); try (rw [if_neg hc5]); all_goals rfl)⟩, ht⟩) (fun _ h => by cases h) d_T_code_19
    · --  1
      refine lv_iload_n hx hb d_T_code_8 rfl (lv_at hl 2 rfl) ?_
      refine lv_if_lt (tgt := 18) hx hb d_T_code_9 rfl (fun hc6 => ?_) (fun hc6 => ?_)
      · --  y < 0
        refine lv_iconst (v := (-1)) hx hb d_T_code_18 (by decide) ?_
        exact W.iret (v := (-1)) hx hb hr (fun t ht _ => ⟨_, rfl, ⟨trivial, (by rw [← hSP, s_T_code]; try (rw [if_neg hc3]); try (rw [if_neg (by decide)]); try (rw [if_pos rfl]); try (rw [if_pos hc6]); all_goals rfl)⟩, ht⟩) (fun _ h => by cases h) d_T_code_19
      · --  ¬ y < 0
        refine lv_iload_n hx hb d_T_code_12 rfl (lv_at hl 2 rfl) ?_
        refine lv_bipush (v := 32) hx hb d_T_code_13 (by decide) ?_
        refine lv_icmp_lt (tgt := 20) hx hb d_T_code_15 rfl (fun hc7 => ?_) (fun hc7 => ?_)
        · --  y < 32
          refine lv_aload_n hx hb d_T_code_20 rfl (lv_at hl 0 rfl) ?_
          refine va_get (D := (dC, dI)) (ci := 0) (v := .ref a9) (C := "VotedTriple") (T := F_T) (N := 11) hx hb hw in_T hown hK hP 0 rfl rfl 1 (by decide) (hw _ k_195) (fun _ h9 => h9) rfl d_T_code_21 ?_
          refine lv_iload_n hx hb d_T_code_24 rfl (lv_at hl 1 rfl) ?_
          refine va_aldq hx hb hK hP 1 0 rfl rfl (by unfold vp_in; decide) d_T_code_25 ?_
          refine W.eq (g2 := F0 m 26 ls [.ref (da 1)]) rfl ?_
          refine va_get (D := (dC, dI)) (ci := 2) (v := .ref (ka 1)) (C := "VotedTriple$VotedModule") (T := F_D) (N := 19) hx hb hw in_D hown hK hP 4 rfl rfl 7 (by decide) (hw _ k_141) (fun _ h9 => h9) rfl d_T_code_26 ?_
          refine lv_iload_n hx hb d_T_code_29 rfl (lv_at hl 2 rfl) ?_
          refine va_iald hx hb hK hP 5 2 rfl rfl (in_of (N := 32) rfl (by simpa using hc6) (by simpa using hc7)) d_T_code_30 ?_
          exact W.iret (v := ((v 1) (Int32.toNatClampNeg y))) hx hb hr (fun t ht _ => ⟨_, rfl, ⟨trivial, (by rw [← hSP, s_T_code]; try (rw [if_neg hc3]); try (rw [if_neg (by decide)]); try (rw [if_pos rfl]); try (rw [if_neg hc6]); try (rw [if_pos hc7]); all_goals rfl)⟩, ht⟩) (fun _ h => by cases h) d_T_code_31
        · --  ¬ y < 32
          refine lv_iconst (v := (-1)) hx hb d_T_code_18 (by decide) ?_
          exact W.iret (v := (-1)) hx hb hr (fun t ht _ => ⟨_, rfl, ⟨trivial, (by rw [← hSP, s_T_code]; try (rw [if_neg hc3]); try (rw [if_neg (by decide)]); try (rw [if_pos rfl]); try (rw [if_neg hc6]); try (rw [if_neg hc7]); all_goals rfl)⟩, ht⟩) (fun _ h => by cases h) d_T_code_19
    · --  2
      refine lv_iload_n hx hb d_T_code_8 rfl (lv_at hl 2 rfl) ?_
      refine lv_if_lt (tgt := 18) hx hb d_T_code_9 rfl (fun hc8 => ?_) (fun hc8 => ?_)
      · --  y < 0
        refine lv_iconst (v := (-1)) hx hb d_T_code_18 (by decide) ?_
        exact W.iret (v := (-1)) hx hb hr (fun t ht _ => ⟨_, rfl, ⟨trivial, (by rw [← hSP, s_T_code]; try (rw [if_neg hc3]); try (rw [if_neg (by decide)]); try (rw [if_neg (by decide)]); try (rw [if_pos hc8]); all_goals rfl)⟩, ht⟩) (fun _ h => by cases h) d_T_code_19
      · --  ¬ y < 0
        refine lv_iload_n hx hb d_T_code_12 rfl (lv_at hl 2 rfl) ?_
        refine lv_bipush (v := 32) hx hb d_T_code_13 (by decide) ?_
        refine lv_icmp_lt (tgt := 20) hx hb d_T_code_15 rfl (fun hc9 => ?_) (fun hc9 => ?_)
        · --  y < 32
          refine lv_aload_n hx hb d_T_code_20 rfl (lv_at hl 0 rfl) ?_
          refine va_get (D := (dC, dI)) (ci := 0) (v := .ref a9) (C := "VotedTriple") (T := F_T) (N := 11) hx hb hw in_T hown hK hP 0 rfl rfl 1 (by decide) (hw _ k_195) (fun _ h9 => h9) rfl d_T_code_21 ?_
          refine lv_iload_n hx hb d_T_code_24 rfl (lv_at hl 1 rfl) ?_
          refine va_aldq hx hb hK hP 1 0 rfl rfl (by unfold vp_in; decide) d_T_code_25 ?_
          refine W.eq (g2 := F0 m 26 ls [.ref (da 2)]) rfl ?_
          refine va_get (D := (dC, dI)) (ci := 2) (v := .ref (ka 2)) (C := "VotedTriple$VotedModule") (T := F_D) (N := 19) hx hb hw in_D hown hK hP 6 rfl rfl 7 (by decide) (hw _ k_141) (fun _ h9 => h9) rfl d_T_code_26 ?_
          refine lv_iload_n hx hb d_T_code_29 rfl (lv_at hl 2 rfl) ?_
          refine va_iald hx hb hK hP 7 3 rfl rfl (in_of (N := 32) rfl (by simpa using hc8) (by simpa using hc9)) d_T_code_30 ?_
          exact W.iret (v := ((v 2) (Int32.toNatClampNeg y))) hx hb hr (fun t ht _ => ⟨_, rfl, ⟨trivial, (by rw [← hSP, s_T_code]; try (rw [if_neg hc3]); try (rw [if_neg (by decide)]); try (rw [if_neg (by decide)]); try (rw [if_neg hc8]); try (rw [if_pos hc9]); all_goals rfl)⟩, ht⟩) (fun _ h => by cases h) d_T_code_31
        · --  ¬ y < 32
          refine lv_iconst (v := (-1)) hx hb d_T_code_18 (by decide) ?_
          exact W.iret (v := (-1)) hx hb hr (fun t ht _ => ⟨_, rfl, ⟨trivial, (by rw [← hSP, s_T_code]; try (rw [if_neg hc3]); try (rw [if_neg (by decide)]); try (rw [if_neg (by decide)]); try (rw [if_neg hc8]); try (rw [if_neg hc9]); all_goals rfl)⟩, ht⟩) (fun _ h => by cases h) d_T_code_19

set_option maxHeartbeats 4000000 in
set_option maxRecDepth 100000 in
theorem c_T_state (l : Launch) (dC : Nat → ClassId) (dI : Nat → Nat → Nat) (h0 : Nat) (p9 : Nat) (a9 : Nat) (e9 : Nat) (n9 : Nat) (o9 : Nat) (ca : ClassId) (da : Nat → Nat) (ra : Nat → Nat) (ka : Nat → Nat) (nw9 : Nat) (cN : ClassId) (ok9 : Nat) (cO : ClassId) (er9 : Nat) (ce : ClassId) (eo9 : Nat) (ew9 : Nat) (cw : ClassId) (ek9 : Nat) (cq : ClassId) (uT : Nat → Int32) (F : Nat → Nat → Int32) (kN : Nat) (wN : Nat → Int32) (ko : Nat) (kp : Nat → Int32) (Z : Nat → Int32) (eg : Nat → Int32) (ew : Nat → Int32) (ke : Nat) (pe : Nat → Int32) (x : Int32) : Met l y_T_state (tbw y_T_state b_T_state 2 (some .int)) ({ frames := 2, cells := 0, slots := 0, locals := 42 }) (va_Pc [.ref h0, .int x] (fun U => va_P (dC, dI) classes [(h0, .inr (0, oT uT p9 a9 e9 n9 o9)), (a9, .inl (ca, 3, .inr (.inr (.inr (.inr (mo da)))))), (da 0, .inr (2, oD (F 0) (ra 0) (ka 0))), (da 1, .inr (2, oD (F 1) (ra 1) (ka 1))), (da 2, .inr (2, oD (F 2) (ra 2) (ka 2))), (n9, .inr (4, [.ref nw9, .int (nI kN)])), (nw9, .inl (cN, 64, .inl wN)), (o9, .inr (5, [.ref ok9, .int (nI ko)])), (ok9, .inl (cO, 300, .inl kp)), (e9, .inr (3, oE Z er9 eo9 ew9)), (er9, .inl (ce, 8, .inl eg)), (ew9, .inl (cw, 32, .inl ew)), (eo9, .inr (5, [.ref ek9, .int (nI ke)])), (ek9, .inl (cq, 300, .inl pe))] U.heap ∧ va_K (dC, dI) classes [(ca, .object "VotedTriple$VotedModule"), (cN, .int), (cO, .int), (ce, .int), (cw, .int), (cq, .int)] U)) (vp_Si (fun r => (True) ∧ r = s_T_state uT F kN ko ke x)) 0 0 (fun _ => False) := by
  refine Met.ofW (cc := b_T_state) (maxL := 2) (ret := (some .int)) (by decide) rfl ?_
  intro p e s m args below meth c s₁ B hml hv
  obtain ⟨rfl, hP, hK⟩ := hv
  have hx := B.exec
  have hb := B.bytes
  have hr := B.returns
  have hts := atoms_spec (ws := (tbw y_T_state b_T_state 2 (some .int))) B.pre
  have hw : ∀ z9 ∈ tb, z9.before ([.ref h0, .int x] : List Value).toArray s = true := fun z9 h => hts z9 (List.mem_cons_of_mem _ h)
  have hown : s.vm.findClass "VotedTriple" = some m.cls := findClass_of_methodNamed B.named
  have hlocks := B.notSynchronized
  replace hl := lv_entry ([.ref h0, .int x]) (n := 2) (Nat.le_of_ble_eq_true rfl)
  rw [lg_entry_eq]
  generalize (lg_sl ([.ref h0, .int x]) ++ List.replicate (2 - (lg_sl ([.ref h0, .int x])).length) Slot.unset).toArray = ls at hl ⊢
  replace hl : lv_has ls 2 [(0, .ref h0), (1, .int x)] := hl
  generalize hSP : s_T_state uT F kN ko ke x = SP
  refine lv_iload_n hx hb d_T_state_0 rfl (lv_at hl 1 rfl) ?_
  rcases sw6 (x) with hs1 | hs1 | hs1 | hs1 | hs1 | hs1 | hs1 | hs1
  · refine lv_tableIn (off := 43) (tgt := 44) hx hb d_T_state_1 (by rw [hs1]; decide) (by rw [hs1]; decide) (by rw [hs1]; decide) rfl ?_
    refine lv_aload_n hx hb d_T_state_44 rfl (lv_at hl 0 rfl) ?_
    replace hPc := hP.sub (ws' := [(h0, .inr (0, oT uT p9 a9 e9 n9 o9)), (a9, .inl (ca, 3, .inr (.inr (.inr (.inr (mo da)))))), (da 0, .inr (2, oD (F 0) (ra 0) (ka 0))), (da 1, .inr (2, oD (F 1) (ra 1) (ka 1))), (da 2, .inr (2, oD (F 2) (ra 2) (ka 2)))]) [0, 1, 2, 3, 4] rfl
    replace hKc := hK.sub (tys' := [(ca, .object "VotedTriple$VotedModule")]) [0] rfl
    refine vp_callSi (va_runV (C := "VotedTriple") (As := []) (rest := []) ⟨hx, hb, hml, hown, hw⟩ (c_T_currentMode l dC dI h0 p9 a9 e9 n9 o9 ca da ra ka uT F) (cwV 0 hw (gdV (k_383) (k_380) (k_382) (ks_3) (k_1)) rfl rfl rfl (by decide +kernel) ⟨Nat.le_of_ble_eq_true rfl, Nat.le_of_ble_eq_true rfl⟩) ⟨fun a U g mk q => ⟨q.1, q.2.1, va_K.moved (u := U) (U := U.calling g mk a) (Vm.Alike.refl U.vm) q.2.2⟩, va_recv hK hP rfl (q0 := 0) rfl, fun U hU hW => ⟨rfl, by rw [hU]; exact hPc, va_K.moved hW.alike hKc⟩⟩ rfl rfl hl.1 rfl (lv_room (Nat.le_of_ble_eq_true rfl)) d_T_state_45 ⟨Nat.le_of_ble_eq_true rfl, Nat.le_of_ble_eq_true rfl⟩).run (fun r2 hr3 => ?_)
    obtain ⟨hr3, hr3E⟩ := hr3
    exact W.iret (v := r2) hx hb hr (fun t ht _ => ⟨_, rfl, ⟨trivial, (by rw [← hSP, s_T_state]; try (rw [if_pos hs1]); try (rw [← hr3E, bnd_eq]); all_goals rfl)⟩, ht⟩) (fun _ h => by cases h) d_T_state_48
  · refine lv_tableIn (off := 48) (tgt := 49) hx hb d_T_state_1 (by rw [hs1]; decide) (by rw [hs1]; decide) (by rw [hs1]; decide) rfl ?_
    refine lv_aload_n hx hb d_T_state_49 rfl (lv_at hl 0 rfl) ?_
    refine va_get (D := (dC, dI)) (ci := 0) (v := .int (uT 8)) (C := "VotedTriple") (T := F_T) (N := 11) hx hb hw in_T hown hK hP 0 rfl rfl 8 (by decide) (hw _ k_202) (fun _ h9 => h9) rfl d_T_state_50 ?_
    exact W.iret (v := (uT 8)) hx hb hr (fun t ht _ => ⟨_, rfl, ⟨trivial, (by rw [← hSP, s_T_state]; try (rw [if_neg (by rw [hs1]; decide)]); try (rw [if_pos hs1]); all_goals rfl)⟩, ht⟩) (fun _ h => by cases h) d_T_state_53
  · refine lv_tableIn (off := 53) (tgt := 54) hx hb d_T_state_1 (by rw [hs1]; decide) (by rw [hs1]; decide) (by rw [hs1]; decide) rfl ?_
    refine lv_aload_n hx hb d_T_state_54 rfl (lv_at hl 0 rfl) ?_
    refine va_get (D := (dC, dI)) (ci := 0) (v := .int (uT 9)) (C := "VotedTriple") (T := F_T) (N := 11) hx hb hw in_T hown hK hP 0 rfl rfl 9 (by decide) (hw _ k_203) (fun _ h9 => h9) rfl d_T_state_55 ?_
    exact W.iret (v := (uT 9)) hx hb hr (fun t ht _ => ⟨_, rfl, ⟨trivial, (by rw [← hSP, s_T_state]; try (rw [if_neg (by rw [hs1]; decide)]); try (rw [if_neg (by rw [hs1]; decide)]); try (rw [if_pos hs1]); all_goals rfl)⟩, ht⟩) (fun _ h => by cases h) d_T_state_58
  · refine lv_tableIn (off := 58) (tgt := 59) hx hb d_T_state_1 (by rw [hs1]; decide) (by rw [hs1]; decide) (by rw [hs1]; decide) rfl ?_
    refine lv_aload_n hx hb d_T_state_59 rfl (lv_at hl 0 rfl) ?_
    refine va_get (D := (dC, dI)) (ci := 0) (v := .ref o9) (C := "VotedTriple") (T := F_T) (N := 11) hx hb hw in_T hown hK hP 0 rfl rfl 4 (by decide) (hw _ k_198) (fun _ h9 => h9) rfl d_T_state_60 ?_
    refine va_get (D := (dC, dI)) (ci := 5) (v := .int (nI ko)) (C := "VotedTriple$WordsOut") (T := F_O) (N := 2) hx hb hw in_O hown hK hP 7 rfl rfl 1 (by decide) (hw _ k_60) (fun _ h9 => h9) rfl d_T_state_63 ?_
    exact W.iret (v := (nI ko)) hx hb hr (fun t ht _ => ⟨_, rfl, ⟨trivial, (by rw [← hSP, s_T_state]; try (rw [if_neg (by rw [hs1]; decide)]); try (rw [if_neg (by rw [hs1]; decide)]); try (rw [if_neg (by rw [hs1]; decide)]); try (rw [if_pos hs1]); all_goals rfl)⟩, ht⟩) (fun _ h => by cases h) d_T_state_66
  · refine lv_tableIn (off := 66) (tgt := 67) hx hb d_T_state_1 (by rw [hs1]; decide) (by rw [hs1]; decide) (by rw [hs1]; decide) rfl ?_
    refine lv_aload_n hx hb d_T_state_67 rfl (lv_at hl 0 rfl) ?_
    refine va_get (D := (dC, dI)) (ci := 0) (v := .ref e9) (C := "VotedTriple") (T := F_T) (N := 11) hx hb hw in_T hown hK hP 0 rfl rfl 2 (by decide) (hw _ k_196) (fun _ h9 => h9) rfl d_T_state_68 ?_
    refine va_get (D := (dC, dI)) (ci := 3) (v := .ref eo9) (C := "VotedTriple$PerfectOne") (T := F_E) (N := 10) hx hb hw in_E hown hK hP 9 rfl rfl 7 (by decide) (hw _ k_67) (fun _ h9 => h9) rfl d_T_state_71 ?_
    refine va_get (D := (dC, dI)) (ci := 5) (v := .int (nI ke)) (C := "VotedTriple$WordsOut") (T := F_O) (N := 2) hx hb hw in_O hown hK hP 12 rfl rfl 1 (by decide) (hw _ k_60) (fun _ h9 => h9) rfl d_T_state_74 ?_
    exact W.iret (v := (nI ke)) hx hb hr (fun t ht _ => ⟨_, rfl, ⟨trivial, (by rw [← hSP, s_T_state]; try (rw [if_neg (by rw [hs1]; decide)]); try (rw [if_neg (by rw [hs1]; decide)]); try (rw [if_neg (by rw [hs1]; decide)]); try (rw [if_neg (by rw [hs1]; decide)]); try (rw [if_pos hs1]); all_goals rfl)⟩, ht⟩) (fun _ h => by cases h) d_T_state_77
  · refine lv_tableIn (off := 77) (tgt := 78) hx hb d_T_state_1 (by rw [hs1]; decide) (by rw [hs1]; decide) (by rw [hs1]; decide) rfl ?_
    refine lv_aload_n hx hb d_T_state_78 rfl (lv_at hl 0 rfl) ?_
    refine va_get (D := (dC, dI)) (ci := 0) (v := .ref n9) (C := "VotedTriple") (T := F_T) (N := 11) hx hb hw in_T hown hK hP 0 rfl rfl 3 (by decide) (hw _ k_197) (fun _ h9 => h9) rfl d_T_state_79 ?_
    refine va_get (D := (dC, dI)) (ci := 4) (v := .int (nI kN)) (C := "VotedTriple$WordsIn") (T := F_N) (N := 2) hx hb hw in_N hown hK hP 5 rfl rfl 1 (by decide) (hw _ k_127) (fun _ h9 => h9) rfl d_T_state_82 ?_
    refine lv_aload_n hx hb d_T_state_85 rfl (lv_at hl 0 rfl) ?_
    refine va_get (D := (dC, dI)) (ci := 0) (v := .int (uT 10)) (C := "VotedTriple") (T := F_T) (N := 11) hx hb hw in_T hown hK hP 0 rfl rfl 10 (by decide) (hw _ k_204) (fun _ h9 => h9) rfl d_T_state_86 ?_
    refine lv_isub hx hb d_T_state_89 ?_
    exact W.iret (v := ((nI kN) - (uT 10))) hx hb hr (fun t ht _ => ⟨_, rfl, ⟨trivial, (by rw [← hSP, s_T_state]; try (rw [if_neg (by rw [hs1]; decide)]); try (rw [if_neg (by rw [hs1]; decide)]); try (rw [if_neg (by rw [hs1]; decide)]); try (rw [if_neg (by rw [hs1]; decide)]); try (rw [if_neg (by rw [hs1]; decide)]); try (rw [if_pos hs1]); all_goals rfl)⟩, ht⟩) (fun _ h => by cases h) d_T_state_90
  · refine lv_tableIn (off := 90) (tgt := 91) hx hb d_T_state_1 (by rw [hs1]; decide) (by rw [hs1]; decide) (by rw [hs1]; decide) rfl ?_
    refine lv_aload_n hx hb d_T_state_91 rfl (lv_at hl 0 rfl) ?_
    refine va_get (D := (dC, dI)) (ci := 0) (v := .int (uT 7)) (C := "VotedTriple") (T := F_T) (N := 11) hx hb hw in_T hown hK hP 0 rfl rfl 7 (by decide) (hw _ k_201) (fun _ h9 => h9) rfl d_T_state_92 ?_
    refine lv_if_eq (tgt := 102) hx hb d_T_state_95 rfl (fun hc4 => ?_) (fun hc4 => ?_)
    · --  (uT 7) = 0
      refine lv_iconst (v := 0) hx hb d_T_state_102 (by decide) ?_
      exact W.iret (v := 0) hx hb hr (fun t ht _ => ⟨_, rfl, ⟨trivial, (by rw [← hSP, s_T_state]; try (rw [if_neg (by rw [hs1]; decide)]); try (rw [if_neg (by rw [hs1]; decide)]); try (rw [if_neg (by rw [hs1]; decide)]); try (rw [if_neg (by rw [hs1]; decide)]); try (rw [if_neg (by rw [hs1]; decide)]); try (rw [if_neg (by rw [hs1]; decide)]); try (rw [if_pos hs1]); try (rw [if_pos hc4]); all_goals rfl)⟩, ht⟩) (fun _ h => by cases h) d_T_state_103
    · --  ¬ (uT 7) = 0
      refine lv_iconst (v := 1) hx hb d_T_state_98 (by decide) ?_
      refine lv_goto (tgt := 103) hx hb d_T_state_99 rfl ?_
      exact W.iret (v := 1) hx hb hr (fun t ht _ => ⟨_, rfl, ⟨trivial, (by rw [← hSP, s_T_state]; try (rw [if_neg (by rw [hs1]; decide)]); try (rw [if_neg (by rw [hs1]; decide)]); try (rw [if_neg (by rw [hs1]; decide)]); try (rw [if_neg (by rw [hs1]; decide)]); try (rw [if_neg (by rw [hs1]; decide)]); try (rw [if_neg (by rw [hs1]; decide)]); try (rw [if_pos hs1]); try (rw [if_neg hc4]); all_goals rfl)⟩, ht⟩) (fun _ h => by cases h) d_T_state_103
  · refine lv_tableOut (tgt := 104) hx hb d_T_state_1 hs1 rfl ?_
    refine lv_iconst (v := (-1)) hx hb d_T_state_104 (by decide) ?_
    exact W.iret (v := (-1)) hx hb hr (fun t ht _ => ⟨_, rfl, ⟨trivial, (by rw [← hSP, s_T_state]; try (rw [if_neg (fun e9 => by rw [e9] at hs1; revert hs1; decide)]); try (rw [if_neg (fun e9 => by rw [e9] at hs1; revert hs1; decide)]); try (rw [if_neg (fun e9 => by rw [e9] at hs1; revert hs1; decide)]); try (rw [if_neg (fun e9 => by rw [e9] at hs1; revert hs1; decide)]); try (rw [if_neg (fun e9 => by rw [e9] at hs1; revert hs1; decide)]); try (rw [if_neg (fun e9 => by rw [e9] at hs1; revert hs1; decide)]); try (rw [if_neg (fun e9 => by rw [e9] at hs1; revert hs1; decide)]); all_goals rfl)⟩, ht⟩) (fun _ h => by cases h) d_T_state_105

set_option maxHeartbeats 4000000 in
set_option maxRecDepth 100000 in
theorem c_T_flip (l : Launch) (dC : Nat → ClassId) (dI : Nat → Nat → Nat) (h0 : Nat) (p9 : Nat) (a9 : Nat) (e9 : Nat) (n9 : Nat) (o9 : Nat) (ca : ClassId) (da : Nat → Nat) (ra : Nat → Nat) (ka : Nat → Nat) (cr : Nat → ClassId) (ck : Nat → ClassId) (q9 : Nat) (cp : ClassId) (uT : Nat → Int32) (F : Nat → Nat → Int32) (g : Nat → Nat → Int32) (v : Nat → Nat → Int32) (cn : Nat) (f : Nat → Int32) (x : Int32) (y : Int32) (z : Int32) (u : Int32) (hF : f3 F) (hg : g3 g) (hc : prI cn f) (hm1 : hmB uT x = true) (hb1 : hbB y z u = true) (sz : Nat) : Met l y_T_flip (tbw y_T_flip b_T_flip 6 none) ({ frames := 2, cells := 0, slots := 0, locals := 43 }) (va_Pc [.ref h0, .int x, .int y, .int z, .int u] (fun U => U.heap.size = sz ∧ va_P (dC, dI) classes [(h0, .inr (0, oT uT p9 a9 e9 n9 o9)), (a9, .inl (ca, 3, .inr (.inr (.inr (.inr (mo da)))))), (da 0, .inr (2, oD (F 0) (ra 0) (ka 0))), (ra 0, .inl (cr 0, 8, .inl (g 0))), (ka 0, .inl (ck 0, 32, .inl (v 0))), (da 1, .inr (2, oD (F 1) (ra 1) (ka 1))), (ra 1, .inl (cr 1, 8, .inl (g 1))), (ka 1, .inl (ck 1, 32, .inl (v 1))), (da 2, .inr (2, oD (F 2) (ra 2) (ka 2))), (ra 2, .inl (cr 2, 8, .inl (g 2))), (ka 2, .inl (ck 2, 32, .inl (v 2))), (p9, .inr (1, [.ref q9, .int (nI cn)])), (q9, .inl (cp, 64, .inl f))] U.heap ∧ va_K (dC, dI) classes [(ca, .object "VotedTriple$VotedModule"), (cr 0, .int), (ck 0, .int), (cr 1, .int), (ck 1, .int), (cr 2, .int), (ck 2, .int), (cp, .int)] U ∧ va_D (fun _ => True) [(h0, .inr (0, oT uT p9 a9 e9 n9 o9)), (a9, .inl (ca, 3, .inr (.inr (.inr (.inr (mo da)))))), (da 0, .inr (2, oD (F 0) (ra 0) (ka 0))), (ra 0, .inl (cr 0, 8, .inl (g 0))), (ka 0, .inl (ck 0, 32, .inl (v 0))), (da 1, .inr (2, oD (F 1) (ra 1) (ka 1))), (ra 1, .inl (cr 1, 8, .inl (g 1))), (ka 1, .inl (ck 1, 32, .inl (v 1))), (da 2, .inr (2, oD (F 2) (ra 2) (ka 2))), (ra 2, .inl (cr 2, 8, .inl (g 2))), (ka 2, .inl (ck 2, 32, .inl (v 2))), (p9, .inr (1, [.ref q9, .int (nI cn)])), (q9, .inl (cp, 64, .inl f))])) (va_Qv (fun (u9 : (Nat → Nat → Int32) × (Nat → Nat → Int32) × (Nat → Nat → Int32)) => match u9 with | (F2, g2, v2) => (f3 F2 ∧ g3 g2) ∧ (F2, g2, v2) = s_T_flip F g v cn x y z u) (fun (u9 : (Nat → Nat → Int32) × (Nat → Nat → Int32) × (Nat → Nat → Int32)) t => match u9 with | (F2, g2, v2) => va_P (dC, dI) classes [(h0, .inr (0, oT uT p9 a9 e9 n9 o9)), (a9, .inl (ca, 3, .inr (.inr (.inr (.inr (mo da)))))), (da 0, .inr (2, oD (F2 0) (ra 0) (ka 0))), (ra 0, .inl (cr 0, 8, .inl (g2 0))), (ka 0, .inl (ck 0, 32, .inl (v2 0))), (da 1, .inr (2, oD (F2 1) (ra 1) (ka 1))), (ra 1, .inl (cr 1, 8, .inl (g2 1))), (ka 1, .inl (ck 1, 32, .inl (v2 1))), (da 2, .inr (2, oD (F2 2) (ra 2) (ka 2))), (ra 2, .inl (cr 2, 8, .inl (g2 2))), (ka 2, .inl (ck 2, 32, .inl (v2 2))), (p9, .inr (1, [.ref q9, .int (nI cn)])), (q9, .inl (cp, 64, .inl f))] t.heap ∧ va_K (dC, dI) classes [(ca, .object "VotedTriple$VotedModule"), (cr 0, .int), (ck 0, .int), (cr 1, .int), (ck 1, .int), (cr 2, .int), (ck 2, .int), (cp, .int)] t ∧ va_D (va_A [(h0, .inr (0, oT uT p9 a9 e9 n9 o9)), (a9, .inl (ca, 3, .inr (.inr (.inr (.inr (mo da)))))), (da 0, .inr (2, oD (F 0) (ra 0) (ka 0))), (ra 0, .inl (cr 0, 8, .inl (g 0))), (ka 0, .inl (ck 0, 32, .inl (v 0))), (da 1, .inr (2, oD (F 1) (ra 1) (ka 1))), (ra 1, .inl (cr 1, 8, .inl (g 1))), (ka 1, .inl (ck 1, 32, .inl (v 1))), (da 2, .inr (2, oD (F 2) (ra 2) (ka 2))), (ra 2, .inl (cr 2, 8, .inl (g 2))), (ka 2, .inl (ck 2, 32, .inl (v 2))), (p9, .inr (1, [.ref q9, .int (nI cn)])), (q9, .inl (cp, 64, .inl f))] sz) [(h0, .inr (0, oT uT p9 a9 e9 n9 o9)), (a9, .inl (ca, 3, .inr (.inr (.inr (.inr (mo da)))))), (da 0, .inr (2, oD (F2 0) (ra 0) (ka 0))), (ra 0, .inl (cr 0, 8, .inl (g2 0))), (ka 0, .inl (ck 0, 32, .inl (v2 0))), (da 1, .inr (2, oD (F2 1) (ra 1) (ka 1))), (ra 1, .inl (cr 1, 8, .inl (g2 1))), (ka 1, .inl (ck 1, 32, .inl (v2 1))), (da 2, .inr (2, oD (F2 2) (ra 2) (ka 2))), (ra 2, .inl (cr 2, 8, .inl (g2 2))), (ka 2, .inl (ck 2, 32, .inl (v2 2))), (p9, .inr (1, [.ref q9, .int (nI cn)])), (q9, .inl (cp, 64, .inl f))]) (va_A [(h0, .inr (0, oT uT p9 a9 e9 n9 o9)), (a9, .inl (ca, 3, .inr (.inr (.inr (.inr (mo da)))))), (da 0, .inr (2, oD (F 0) (ra 0) (ka 0))), (ra 0, .inl (cr 0, 8, .inl (g 0))), (ka 0, .inl (ck 0, 32, .inl (v 0))), (da 1, .inr (2, oD (F 1) (ra 1) (ka 1))), (ra 1, .inl (cr 1, 8, .inl (g 1))), (ka 1, .inl (ck 1, 32, .inl (v 1))), (da 2, .inr (2, oD (F 2) (ra 2) (ka 2))), (ra 2, .inl (cr 2, 8, .inl (g 2))), (ka 2, .inl (ck 2, 32, .inl (v 2))), (p9, .inr (1, [.ref q9, .int (nI cn)])), (q9, .inl (cp, 64, .inl f))] sz)) 0 0 (va_A [(h0, .inr (0, oT uT p9 a9 e9 n9 o9)), (a9, .inl (ca, 3, .inr (.inr (.inr (.inr (mo da)))))), (da 0, .inr (2, oD (F 0) (ra 0) (ka 0))), (ra 0, .inl (cr 0, 8, .inl (g 0))), (ka 0, .inl (ck 0, 32, .inl (v 0))), (da 1, .inr (2, oD (F 1) (ra 1) (ka 1))), (ra 1, .inl (cr 1, 8, .inl (g 1))), (ka 1, .inl (ck 1, 32, .inl (v 1))), (da 2, .inr (2, oD (F 2) (ra 2) (ka 2))), (ra 2, .inl (cr 2, 8, .inl (g 2))), (ka 2, .inl (ck 2, 32, .inl (v 2))), (p9, .inr (1, [.ref q9, .int (nI cn)])), (q9, .inl (cp, 64, .inl f))] sz) := by
  refine Met.ofW (cc := b_T_flip) (maxL := 6) (ret := none) (by decide) rfl ?_
  intro p e s m args below meth c s₁ B hml hv
  obtain ⟨rfl, hsz, hP, hK, hD0⟩ := hv
  have hx := B.exec
  have hb := B.bytes
  have hr := B.returns
  have hts := atoms_spec (ws := (tbw y_T_flip b_T_flip 6 none)) B.pre
  have hw : ∀ z9 ∈ tb, z9.before ([.ref h0, .int x, .int y, .int z, .int u] : List Value).toArray s = true := fun z9 h => hts z9 (List.mem_cons_of_mem _ h)
  have hown : s.vm.findClass "VotedTriple" = some m.cls := findClass_of_methodNamed B.named
  have hlocks := B.notSynchronized
  subst hsz
  replace hD := hD0.self (sz := s.heap.size)
  generalize hAe : va_A [(h0, .inr (0, oT uT p9 a9 e9 n9 o9)), (a9, .inl (ca, 3, .inr (.inr (.inr (.inr (mo da)))))), (da 0, .inr (2, oD (F 0) (ra 0) (ka 0))), (ra 0, .inl (cr 0, 8, .inl (g 0))), (ka 0, .inl (ck 0, 32, .inl (v 0))), (da 1, .inr (2, oD (F 1) (ra 1) (ka 1))), (ra 1, .inl (cr 1, 8, .inl (g 1))), (ka 1, .inl (ck 1, 32, .inl (v 1))), (da 2, .inr (2, oD (F 2) (ra 2) (ka 2))), (ra 2, .inl (cr 2, 8, .inl (g 2))), (ka 2, .inl (ck 2, 32, .inl (v 2))), (p9, .inr (1, [.ref q9, .int (nI cn)])), (q9, .inl (cp, 64, .inl f))] s.heap.size = A at hD ⊢
  have hA : ∀ q : Nat, s.heap.size ≤ q → A q := fun q h => by rw [← hAe]; exact Or.inr h
  have hS : va_S A s.heap s.heap [] := va_S.rf
  replace hl := lv_entry ([.ref h0, .int x, .int y, .int z, .int u]) (n := 6) (Nat.le_of_ble_eq_true rfl)
  rw [lg_entry_eq]
  generalize (lg_sl ([.ref h0, .int x, .int y, .int z, .int u]) ++ List.replicate (6 - (lg_sl ([.ref h0, .int x, .int y, .int z, .int u])).length) Slot.unset).toArray = ls at hl ⊢
  replace hl : lv_has ls 6 [(0, .ref h0), (1, .int x), (2, .int y), (3, .int z), (4, .int u)] := hl
  generalize hSP : s_T_flip F g v cn x y z u = SP
  refine lv_aload_n hx hb d_T_flip_0 rfl (lv_at hl 0 rfl) ?_
  refine lv_iload_n hx hb d_T_flip_1 rfl (lv_at hl 1 rfl) ?_
  replace hPc := hP.sub (ws' := [(h0, .inr (0, oT uT p9 a9 e9 n9 o9))]) [0] rfl
  replace hKc := hK.sub (tys' := []) [] rfl
  refine vp_callSi (va_runV (C := "VotedTriple") (As := [.int x]) (rest := []) ⟨hx, hb, hml, hown, hw⟩ (c_T_hasModule l dC dI h0 p9 a9 e9 n9 o9 uT x) (cwV 1 hw (gdV (k_339) (k_336) (k_338) (ks_0) (k_1)) rfl rfl rfl (by decide +kernel) ⟨Nat.le_of_ble_eq_true rfl, Nat.le_of_ble_eq_true rfl⟩) ⟨fun a U g mk q => ⟨q.1, q.2.1, va_K.moved (u := U) (U := U.calling g mk a) (Vm.Alike.refl U.vm) q.2.2⟩, va_recv hK hP rfl (q0 := 0) rfl, fun U hU hW => ⟨rfl, by rw [hU]; exact hPc, va_K.moved hW.alike hKc⟩⟩ rfl rfl hl.1 rfl (lv_room (Nat.le_of_ble_eq_true rfl)) d_T_flip_2 ⟨Nat.le_of_ble_eq_true rfl, Nat.le_of_ble_eq_true rfl⟩).run (fun r1 hr2 => ?_)
  subst hr2
  refine lv_if_eq (tgt := 18) hx hb d_T_flip_5 rfl (fun hc3 => by first | exact absurd hc3 (by rw [hm1]; decide) | exact absurd (by rw [hm1]; decide) hc3) (fun hc3 => ?_)
  refine lv_iload_n hx hb d_T_flip_8 rfl (lv_at hl 2 rfl) ?_
  refine lv_iload_n hx hb d_T_flip_9 rfl (lv_at hl 3 rfl) ?_
  refine lv_iload hx hb d_T_flip_10 (lv_at hl 4 rfl) ?_
  refine vp_callSi (va_runS (As := [.int y, .int z, .int u]) (rest := []) ⟨hx, hb, hml, hown, hw⟩ (c_T_hasBit l dC dI y z u) (va_cwS 3 hw (gdS (k_712) (k_710) (k_711) (k_1)) rfl rfl rfl (by decide +kernel) ⟨Nat.le_of_ble_eq_true rfl, Nat.le_of_ble_eq_true rfl⟩) ⟨fun _ _ _ _ q => q, fun _ _ _ => ⟨rfl, trivial⟩⟩ rfl rfl hl.1 rfl (lv_room (Nat.le_of_ble_eq_true rfl)) d_T_flip_12 ⟨Nat.le_of_ble_eq_true rfl, Nat.le_of_ble_eq_true rfl⟩).run (fun r4 hr5 => ?_)
  subst hr5
  refine lv_if_ne (tgt := 28) hx hb d_T_flip_15 rfl (fun hc6 => ?_) (fun hc6 => by first | exact absurd (by rw [hb1]; decide) hc6 | exact absurd hc6 (by rw [hb1]; decide))
  obtain ⟨hs5, rfl | rfl | rfl⟩ := (hmT hm1)
  · --  0
    rcases hb_c hb1 with ⟨rfl, hz9, hu9⟩ | ⟨rfl, hz9, hu9⟩ | ⟨rfl, rfl, hu9⟩
    · --  0
      refine lv_iconst (v := 1) hx hb d_T_flip_28 (by decide) ?_
      refine lv_iload hx hb d_T_flip_29 (lv_at hl 4 rfl) ?_
      refine lv_ishl hx hb d_T_flip_31 ?_
      refine lv_istore hx hb d_T_flip_32 hl (by decide) rfl (fun ls hl => ?_)
      replace hl : lv_has ls 6 [(5, .int ((1 : Int32) <<< (u &&& 31))), (0, .ref h0), (1, .int 0), (2, .int 0), (3, .int z), (4, .int u)] := hl
      refine lv_iload_n hx hb d_T_flip_34 rfl (lv_at hl 3 rfl) ?_
      refine lv_if_ne (tgt := 57) hx hb d_T_flip_35 rfl (fun hc7 => by first | exact absurd hc7 (by decide) | exact absurd (by decide) hc7) (fun hc7 => ?_)
      refine lv_aload_n hx hb d_T_flip_38 rfl (lv_at hl 1 rfl) ?_
      refine va_get (D := (dC, dI)) (ci := 0) (v := .ref a9) (C := "VotedTriple") (T := F_T) (N := 11) hx hb hw in_T hown hK hP 0 rfl rfl 1 (by decide) (hw _ k_195) (fun _ h9 => h9) rfl d_T_flip_39 ?_
      refine lv_iload_n hx hb d_T_flip_42 rfl (lv_at hl 2 rfl) ?_
      refine va_aldq hx hb hK hP 1 0 rfl rfl (by unfold vp_in; decide) d_T_flip_43 ?_
      refine W.eq (g2 := F0 m 44 ls [.ref (da 0)]) rfl ?_
      refine va_get (D := (dC, dI)) (ci := 2) (v := .ref (ra 0)) (C := "VotedTriple$VotedModule") (T := F_D) (N := 19) hx hb hw in_D hown hK hP 2 rfl rfl 0 (by decide) (hw _ k_73) (fun x9 h9 => u_same (hw _ k_72) x9 h9) rfl d_T_flip_44 ?_
      refine lv_iload_n hx hb d_T_flip_47 rfl (lv_at hl 4 rfl) ?_
      refine lv_dup2_11 hx hb d_T_flip_48 rfl rfl ?_
      refine va_iald hx hb hK hP 3 1 rfl rfl hz9 d_T_flip_49 ?_
      refine lv_iload hx hb d_T_flip_50 (lv_at hl 0 rfl) ?_
      refine lv_ixor hx hb d_T_flip_52 ?_
      refine va_iast hx hb hK hP hD hS 3 1 rfl rfl hz9 d_T_flip_53 (fun H locs hP hD hS => ?_)
      replace hP : va_P (dC, dI) classes [(h0, .inr (0, oT uT p9 a9 e9 n9 o9)), (a9, .inl (ca, 3, .inr (.inr (.inr (.inr (mo da)))))), (da 0, .inr (2, oD (F 0) (ra 0) (ka 0))), (ra 0, .inl (cr 0, 8, .inl (upd (g 0) (Int32.toNatClampNeg z) (((g 0) (Int32.toNatClampNeg z)) ^^^ ((1 : Int32) <<< (u &&& 31)))))), (ka 0, .inl (ck 0, 32, .inl (v 0))), (da 1, .inr (2, oD (F 1) (ra 1) (ka 1))), (ra 1, .inl (cr 1, 8, .inl (g 1))), (ka 1, .inl (ck 1, 32, .inl (v 1))), (da 2, .inr (2, oD (F 2) (ra 2) (ka 2))), (ra 2, .inl (cr 2, 8, .inl (g 2))), (ka 2, .inl (ck 2, 32, .inl (v 2))), (p9, .inr (1, [.ref q9, .int (nI cn)])), (q9, .inl (cp, 64, .inl f))] H := hP
      replace hD : va_D A [(h0, .inr (0, oT uT p9 a9 e9 n9 o9)), (a9, .inl (ca, 3, .inr (.inr (.inr (.inr (mo da)))))), (da 0, .inr (2, oD (F 0) (ra 0) (ka 0))), (ra 0, .inl (cr 0, 8, .inl (upd (g 0) (Int32.toNatClampNeg z) (((g 0) (Int32.toNatClampNeg z)) ^^^ ((1 : Int32) <<< (u &&& 31)))))), (ka 0, .inl (ck 0, 32, .inl (v 0))), (da 1, .inr (2, oD (F 1) (ra 1) (ka 1))), (ra 1, .inl (cr 1, 8, .inl (g 1))), (ka 1, .inl (ck 1, 32, .inl (v 1))), (da 2, .inr (2, oD (F 2) (ra 2) (ka 2))), (ra 2, .inl (cr 2, 8, .inl (g 2))), (ka 2, .inl (ck 2, 32, .inl (v 2))), (p9, .inr (1, [.ref q9, .int (nI cn)])), (q9, .inl (cp, 64, .inl f))] := hD
      have pg9 := rgI_upd (k := Int32.toNatClampNeg z) hg.1 (is16_xor (rg_at hg.1 hz9 (by decide)) (sh16 (n := 16) (by decide) hu9))
      refine lv_goto (tgt := 109) hx hb d_T_flip_54 rfl ?_
      have hP9 := hP.sub (ws' := [(h0, .inr (0, oT uT p9 a9 e9 n9 o9)), (a9, .inl (ca, 3, .inr (.inr (.inr (.inr (mo da)))))), (da 0, .inr (2, oD (F 0) (ra 0) (ka 0))), (ra 0, .inl (cr 0, 8, .inl (tri (upd (g 0) (Int32.toNatClampNeg z) (((g 0) (Int32.toNatClampNeg z)) ^^^ ((1 : Int32) <<< (u &&& 31)))) (g 1) (g 2) 0))), (ka 0, .inl (ck 0, 32, .inl (v 0))), (da 1, .inr (2, oD (F 1) (ra 1) (ka 1))), (ra 1, .inl (cr 1, 8, .inl (tri (upd (g 0) (Int32.toNatClampNeg z) (((g 0) (Int32.toNatClampNeg z)) ^^^ ((1 : Int32) <<< (u &&& 31)))) (g 1) (g 2) 1))), (ka 1, .inl (ck 1, 32, .inl (v 1))), (da 2, .inr (2, oD (F 2) (ra 2) (ka 2))), (ra 2, .inl (cr 2, 8, .inl (tri (upd (g 0) (Int32.toNatClampNeg z) (((g 0) (Int32.toNatClampNeg z)) ^^^ ((1 : Int32) <<< (u &&& 31)))) (g 1) (g 2) 2))), (ka 2, .inl (ck 2, 32, .inl (v 2))), (p9, .inr (1, [.ref q9, .int (nI cn)])), (q9, .inl (cp, 64, .inl f))]) [0, 1, 2, 3, 4, 5, 6, 7, 8, 9, 10, 11, 12] rfl
      have hD9 := hD.sub (ws' := [(h0, .inr (0, oT uT p9 a9 e9 n9 o9)), (a9, .inl (ca, 3, .inr (.inr (.inr (.inr (mo da)))))), (da 0, .inr (2, oD (F 0) (ra 0) (ka 0))), (ra 0, .inl (cr 0, 8, .inl (tri (upd (g 0) (Int32.toNatClampNeg z) (((g 0) (Int32.toNatClampNeg z)) ^^^ ((1 : Int32) <<< (u &&& 31)))) (g 1) (g 2) 0))), (ka 0, .inl (ck 0, 32, .inl (v 0))), (da 1, .inr (2, oD (F 1) (ra 1) (ka 1))), (ra 1, .inl (cr 1, 8, .inl (tri (upd (g 0) (Int32.toNatClampNeg z) (((g 0) (Int32.toNatClampNeg z)) ^^^ ((1 : Int32) <<< (u &&& 31)))) (g 1) (g 2) 1))), (ka 1, .inl (ck 1, 32, .inl (v 1))), (da 2, .inr (2, oD (F 2) (ra 2) (ka 2))), (ra 2, .inl (cr 2, 8, .inl (tri (upd (g 0) (Int32.toNatClampNeg z) (((g 0) (Int32.toNatClampNeg z)) ^^^ ((1 : Int32) <<< (u &&& 31)))) (g 1) (g 2) 2))), (ka 2, .inl (ck 2, 32, .inl (v 2))), (p9, .inr (1, [.ref q9, .int (nI cn)])), (q9, .inl (cp, 64, .inl f))]) [0, 1, 2, 3, 4, 5, 6, 7, 8, 9, 10, 11, 12] (by decide) rfl
      have hK9 := hK.sub (tys' := [(ca, .object "VotedTriple$VotedModule"), (cr 0, .int), (ck 0, .int), (cr 1, .int), (ck 1, .int), (cr 2, .int), (ck 2, .int), (cp, .int)]) [0, 1, 2, 3, 4, 5, 6, 7] rfl
      refine W.widen (k := 0) (n := 0) (Nat.le_of_ble_eq_true rfl) (Nat.le_of_ble_eq_true rfl) ?_
      exact W.vret hx hb hr (fun t ht hW => ⟨⟨(F, tri (upd (g 0) (Int32.toNatClampNeg z) (((g 0) (Int32.toNatClampNeg z)) ^^^ ((1 : Int32) <<< (u &&& 31)))) (g 1) (g 2), v), rfl, ⟨⟨hF, ⟨pg9, hg.2.1, hg.2.2⟩⟩, (by rw [← hSP, s_T_flip]; try (rw [if_pos rfl]); try (rw [if_pos rfl]); all_goals rfl)⟩, by rw [ht]; exact hP9, va_K.moved hW.alike hK9, hD9⟩, hS.F ht⟩) hS.2.2 d_T_flip_109
    · --  1
      refine lv_iconst (v := 1) hx hb d_T_flip_28 (by decide) ?_
      refine lv_iload hx hb d_T_flip_29 (lv_at hl 4 rfl) ?_
      refine lv_ishl hx hb d_T_flip_31 ?_
      refine lv_istore hx hb d_T_flip_32 hl (by decide) rfl (fun ls hl => ?_)
      replace hl : lv_has ls 6 [(5, .int ((1 : Int32) <<< (u &&& 31))), (0, .ref h0), (1, .int 0), (2, .int 1), (3, .int z), (4, .int u)] := hl
      refine lv_iload_n hx hb d_T_flip_34 rfl (lv_at hl 3 rfl) ?_
      refine lv_if_ne (tgt := 57) hx hb d_T_flip_35 rfl (fun hc8 => ?_) (fun hc8 => by first | exact absurd (by decide) hc8 | exact absurd hc8 (by decide))
      refine lv_iload_n hx hb d_T_flip_57 rfl (lv_at hl 3 rfl) ?_
      refine lv_iconst (v := 1) hx hb d_T_flip_58 (by decide) ?_
      refine lv_icmp_ne (tgt := 81) hx hb d_T_flip_59 rfl (fun hc9 => by first | exact absurd hc9 (fun hh => hh rfl) | exact absurd (fun hh => hh rfl) hc9) (fun hc9 => ?_)
      refine lv_aload_n hx hb d_T_flip_62 rfl (lv_at hl 1 rfl) ?_
      refine va_get (D := (dC, dI)) (ci := 0) (v := .ref a9) (C := "VotedTriple") (T := F_T) (N := 11) hx hb hw in_T hown hK hP 0 rfl rfl 1 (by decide) (hw _ k_195) (fun _ h9 => h9) rfl d_T_flip_63 ?_
      refine lv_iload_n hx hb d_T_flip_66 rfl (lv_at hl 2 rfl) ?_
      refine va_aldq hx hb hK hP 1 0 rfl rfl (by unfold vp_in; decide) d_T_flip_67 ?_
      refine W.eq (g2 := F0 m 68 ls [.ref (da 0)]) rfl ?_
      refine va_get (D := (dC, dI)) (ci := 2) (v := .ref (ka 0)) (C := "VotedTriple$VotedModule") (T := F_D) (N := 19) hx hb hw in_D hown hK hP 2 rfl rfl 7 (by decide) (hw _ k_141) (fun _ h9 => h9) rfl d_T_flip_68 ?_
      refine lv_iload_n hx hb d_T_flip_71 rfl (lv_at hl 4 rfl) ?_
      refine lv_dup2_11 hx hb d_T_flip_72 rfl rfl ?_
      refine va_iald hx hb hK hP 4 2 rfl rfl hz9 d_T_flip_73 ?_
      refine lv_iload hx hb d_T_flip_74 (lv_at hl 0 rfl) ?_
      refine lv_ixor hx hb d_T_flip_76 ?_
      refine va_iast hx hb hK hP hD hS 4 2 rfl rfl hz9 d_T_flip_77 (fun H locs hP hD hS => ?_)
      replace hP : va_P (dC, dI) classes [(h0, .inr (0, oT uT p9 a9 e9 n9 o9)), (a9, .inl (ca, 3, .inr (.inr (.inr (.inr (mo da)))))), (da 0, .inr (2, oD (F 0) (ra 0) (ka 0))), (ra 0, .inl (cr 0, 8, .inl (g 0))), (ka 0, .inl (ck 0, 32, .inl (upd (v 0) (Int32.toNatClampNeg z) (((v 0) (Int32.toNatClampNeg z)) ^^^ ((1 : Int32) <<< (u &&& 31)))))), (da 1, .inr (2, oD (F 1) (ra 1) (ka 1))), (ra 1, .inl (cr 1, 8, .inl (g 1))), (ka 1, .inl (ck 1, 32, .inl (v 1))), (da 2, .inr (2, oD (F 2) (ra 2) (ka 2))), (ra 2, .inl (cr 2, 8, .inl (g 2))), (ka 2, .inl (ck 2, 32, .inl (v 2))), (p9, .inr (1, [.ref q9, .int (nI cn)])), (q9, .inl (cp, 64, .inl f))] H := hP
      replace hD : va_D A [(h0, .inr (0, oT uT p9 a9 e9 n9 o9)), (a9, .inl (ca, 3, .inr (.inr (.inr (.inr (mo da)))))), (da 0, .inr (2, oD (F 0) (ra 0) (ka 0))), (ra 0, .inl (cr 0, 8, .inl (g 0))), (ka 0, .inl (ck 0, 32, .inl (upd (v 0) (Int32.toNatClampNeg z) (((v 0) (Int32.toNatClampNeg z)) ^^^ ((1 : Int32) <<< (u &&& 31)))))), (da 1, .inr (2, oD (F 1) (ra 1) (ka 1))), (ra 1, .inl (cr 1, 8, .inl (g 1))), (ka 1, .inl (ck 1, 32, .inl (v 1))), (da 2, .inr (2, oD (F 2) (ra 2) (ka 2))), (ra 2, .inl (cr 2, 8, .inl (g 2))), (ka 2, .inl (ck 2, 32, .inl (v 2))), (p9, .inr (1, [.ref q9, .int (nI cn)])), (q9, .inl (cp, 64, .inl f))] := hD
      refine lv_goto (tgt := 109) hx hb d_T_flip_78 rfl ?_
      have hP9 := hP.sub (ws' := [(h0, .inr (0, oT uT p9 a9 e9 n9 o9)), (a9, .inl (ca, 3, .inr (.inr (.inr (.inr (mo da)))))), (da 0, .inr (2, oD (F 0) (ra 0) (ka 0))), (ra 0, .inl (cr 0, 8, .inl (g 0))), (ka 0, .inl (ck 0, 32, .inl (tri (upd (v 0) (Int32.toNatClampNeg z) (((v 0) (Int32.toNatClampNeg z)) ^^^ ((1 : Int32) <<< (u &&& 31)))) (v 1) (v 2) 0))), (da 1, .inr (2, oD (F 1) (ra 1) (ka 1))), (ra 1, .inl (cr 1, 8, .inl (g 1))), (ka 1, .inl (ck 1, 32, .inl (tri (upd (v 0) (Int32.toNatClampNeg z) (((v 0) (Int32.toNatClampNeg z)) ^^^ ((1 : Int32) <<< (u &&& 31)))) (v 1) (v 2) 1))), (da 2, .inr (2, oD (F 2) (ra 2) (ka 2))), (ra 2, .inl (cr 2, 8, .inl (g 2))), (ka 2, .inl (ck 2, 32, .inl (tri (upd (v 0) (Int32.toNatClampNeg z) (((v 0) (Int32.toNatClampNeg z)) ^^^ ((1 : Int32) <<< (u &&& 31)))) (v 1) (v 2) 2))), (p9, .inr (1, [.ref q9, .int (nI cn)])), (q9, .inl (cp, 64, .inl f))]) [0, 1, 2, 3, 4, 5, 6, 7, 8, 9, 10, 11, 12] rfl
      have hD9 := hD.sub (ws' := [(h0, .inr (0, oT uT p9 a9 e9 n9 o9)), (a9, .inl (ca, 3, .inr (.inr (.inr (.inr (mo da)))))), (da 0, .inr (2, oD (F 0) (ra 0) (ka 0))), (ra 0, .inl (cr 0, 8, .inl (g 0))), (ka 0, .inl (ck 0, 32, .inl (tri (upd (v 0) (Int32.toNatClampNeg z) (((v 0) (Int32.toNatClampNeg z)) ^^^ ((1 : Int32) <<< (u &&& 31)))) (v 1) (v 2) 0))), (da 1, .inr (2, oD (F 1) (ra 1) (ka 1))), (ra 1, .inl (cr 1, 8, .inl (g 1))), (ka 1, .inl (ck 1, 32, .inl (tri (upd (v 0) (Int32.toNatClampNeg z) (((v 0) (Int32.toNatClampNeg z)) ^^^ ((1 : Int32) <<< (u &&& 31)))) (v 1) (v 2) 1))), (da 2, .inr (2, oD (F 2) (ra 2) (ka 2))), (ra 2, .inl (cr 2, 8, .inl (g 2))), (ka 2, .inl (ck 2, 32, .inl (tri (upd (v 0) (Int32.toNatClampNeg z) (((v 0) (Int32.toNatClampNeg z)) ^^^ ((1 : Int32) <<< (u &&& 31)))) (v 1) (v 2) 2))), (p9, .inr (1, [.ref q9, .int (nI cn)])), (q9, .inl (cp, 64, .inl f))]) [0, 1, 2, 3, 4, 5, 6, 7, 8, 9, 10, 11, 12] (by decide) rfl
      have hK9 := hK.sub (tys' := [(ca, .object "VotedTriple$VotedModule"), (cr 0, .int), (ck 0, .int), (cr 1, .int), (ck 1, .int), (cr 2, .int), (ck 2, .int), (cp, .int)]) [0, 1, 2, 3, 4, 5, 6, 7] rfl
      refine W.widen (k := 0) (n := 0) (Nat.le_of_ble_eq_true rfl) (Nat.le_of_ble_eq_true rfl) ?_
      exact W.vret hx hb hr (fun t ht hW => ⟨⟨(F, g, tri (upd (v 0) (Int32.toNatClampNeg z) (((v 0) (Int32.toNatClampNeg z)) ^^^ ((1 : Int32) <<< (u &&& 31)))) (v 1) (v 2)), rfl, ⟨⟨hF, hg⟩, (by rw [← hSP, s_T_flip]; try (rw [if_pos rfl]); try (rw [if_neg (by decide)]); try (rw [if_pos rfl]); all_goals rfl)⟩, by rw [ht]; exact hP9, va_K.moved hW.alike hK9, hD9⟩, hS.F ht⟩) hS.2.2 d_T_flip_109
    · --  2
      refine lv_iconst (v := 1) hx hb d_T_flip_28 (by decide) ?_
      refine lv_iload hx hb d_T_flip_29 (lv_at hl 4 rfl) ?_
      refine lv_ishl hx hb d_T_flip_31 ?_
      refine lv_istore hx hb d_T_flip_32 hl (by decide) rfl (fun ls hl => ?_)
      replace hl : lv_has ls 6 [(5, .int ((1 : Int32) <<< (u &&& 31))), (0, .ref h0), (1, .int 0), (2, .int 2), (3, .int 0), (4, .int u)] := hl
      refine lv_iload_n hx hb d_T_flip_34 rfl (lv_at hl 3 rfl) ?_
      refine lv_if_ne (tgt := 57) hx hb d_T_flip_35 rfl (fun hc10 => ?_) (fun hc10 => by first | exact absurd (by decide) hc10 | exact absurd hc10 (by decide))
      refine lv_iload_n hx hb d_T_flip_57 rfl (lv_at hl 3 rfl) ?_
      refine lv_iconst (v := 1) hx hb d_T_flip_58 (by decide) ?_
      refine lv_icmp_ne (tgt := 81) hx hb d_T_flip_59 rfl (fun hc11 => ?_) (fun hc11 => by first | exact absurd (by decide) hc11 | exact absurd hc11 (by decide))
      refine lv_aload_n hx hb d_T_flip_81 rfl (lv_at hl 1 rfl) ?_
      refine va_get (D := (dC, dI)) (ci := 0) (v := .ref a9) (C := "VotedTriple") (T := F_T) (N := 11) hx hb hw in_T hown hK hP 0 rfl rfl 1 (by decide) (hw _ k_195) (fun _ h9 => h9) rfl d_T_flip_82 ?_
      refine lv_iload_n hx hb d_T_flip_85 rfl (lv_at hl 2 rfl) ?_
      refine va_aldq hx hb hK hP 1 0 rfl rfl (by unfold vp_in; decide) d_T_flip_86 ?_
      refine W.eq (g2 := F0 m 87 ls [.ref (da 0)]) rfl ?_
      refine lv_aload_n hx hb d_T_flip_87 rfl (lv_at hl 1 rfl) ?_
      refine va_get (D := (dC, dI)) (ci := 0) (v := .ref p9) (C := "VotedTriple") (T := F_T) (N := 11) hx hb hw in_T hown hK hP 0 rfl rfl 0 (by decide) (hw _ k_194) (fun _ h9 => h9) rfl d_T_flip_88 ?_
      refine lv_aload_n hx hb d_T_flip_91 rfl (lv_at hl 1 rfl) ?_
      refine va_get (D := (dC, dI)) (ci := 0) (v := .ref a9) (C := "VotedTriple") (T := F_T) (N := 11) hx hb hw in_T hown hK hP 0 rfl rfl 1 (by decide) (hw _ k_195) (fun _ h9 => h9) rfl d_T_flip_92 ?_
      refine lv_iload_n hx hb d_T_flip_95 rfl (lv_at hl 2 rfl) ?_
      refine va_aldq hx hb hK hP 1 0 rfl rfl (by unfold vp_in; decide) d_T_flip_96 ?_
      refine W.eq (g2 := F0 m 97 ls [.ref (da 0), .ref p9, .ref (da 0)]) rfl ?_
      refine va_get (D := (dC, dI)) (ci := 2) (v := .int (F 0 1)) (C := "VotedTriple$VotedModule") (T := F_D) (N := 19) hx hb hw in_D hown hK hP 2 rfl rfl 1 (by decide) (hw _ k_77) (fun x9 h9 => u_same (hw _ k_76) x9 h9) rfl d_T_flip_97 ?_
      refine lv_iload hx hb d_T_flip_100 (lv_at hl 0 rfl) ?_
      refine lv_ixor hx hb d_T_flip_102 ?_
      replace hPc := hP.sub (ws' := [(p9, .inr (1, [.ref q9, .int (nI cn)]))]) [11] rfl
      replace hKc := hK.sub (tys' := []) [] rfl
      refine vp_callSi (va_runV (C := "VotedTriple$Program") (As := [.int ((F 0 1) ^^^ ((1 : Int32) <<< (u &&& 31)))]) (rest := [.ref (da 0)]) ⟨hx, hb, hml, hown, hw⟩ (c_P_wrap l dC dI p9 q9 cn ((F 0 1) ^^^ ((1 : Int32) <<< (u &&& 31))) hc.1 (cnt_xor hF.1.1 hu9)) (cwV 1 hw (gdV (k_501) (k_717) (k_499) (k_500) (k_2)) rfl rfl rfl (by decide +kernel) ⟨Nat.le_of_ble_eq_true rfl, Nat.le_of_ble_eq_true rfl⟩) ⟨fun a U g mk q => ⟨q.1, q.2.1, va_K.moved (u := U) (U := U.calling g mk a) (Vm.Alike.refl U.vm) q.2.2⟩, va_recv hK hP rfl (q0 := 11) rfl, fun U hU hW => ⟨rfl, by rw [hU]; exact hPc, va_K.moved hW.alike hKc⟩⟩ rfl rfl hl.1 rfl (lv_room (Nat.le_of_ble_eq_true rfl)) d_T_flip_103 ⟨Nat.le_of_ble_eq_true rfl, Nat.le_of_ble_eq_true rfl⟩).run (fun r12 hr13 => ?_)
      obtain ⟨hr13, hr13E⟩ := hr13
      have pf9 := modF_1 hF.1 (cntI_w hc.1 hr13)
      refine va_put (D := (dC, dI)) (ci := 2) (v := .int r12) (ty := .int) (C := "VotedTriple$VotedModule") (T := F_D) (N := 19) hx hb hw in_D ft_D tyok_D nm_D hown hK hP hD hS 2 rfl rfl 1 (by decide) (hw _ k_77) (fun x9 h9 => u_same (hw _ k_76) x9 h9) rfl (by decide +kernel) rfl rfl (Nat.le_of_ble_eq_true rfl) d_T_flip_106 (fun H locs hP hD hS => ?_)
      replace hP : va_P (dC, dI) classes [(h0, .inr (0, oT uT p9 a9 e9 n9 o9)), (a9, .inl (ca, 3, .inr (.inr (.inr (.inr (mo da)))))), (da 0, .inr (2, [.ref (ra 0), .int r12, .int (F 0 2), .int (F 0 3), .int (F 0 4), .int (F 0 5), .int (F 0 6), .ref (ka 0), .int (F 0 8), .int (F 0 9), .int (F 0 10), .int (F 0 11), .int (F 0 12), .int (F 0 13), .int (F 0 14), .int (F 0 15), .int (F 0 16), .int (F 0 17), .int (F 0 18)])), (ra 0, .inl (cr 0, 8, .inl (g 0))), (ka 0, .inl (ck 0, 32, .inl (v 0))), (da 1, .inr (2, oD (F 1) (ra 1) (ka 1))), (ra 1, .inl (cr 1, 8, .inl (g 1))), (ka 1, .inl (ck 1, 32, .inl (v 1))), (da 2, .inr (2, oD (F 2) (ra 2) (ka 2))), (ra 2, .inl (cr 2, 8, .inl (g 2))), (ka 2, .inl (ck 2, 32, .inl (v 2))), (p9, .inr (1, [.ref q9, .int (nI cn)])), (q9, .inl (cp, 64, .inl f))] H := hP
      replace hD : va_D A [(h0, .inr (0, oT uT p9 a9 e9 n9 o9)), (a9, .inl (ca, 3, .inr (.inr (.inr (.inr (mo da)))))), (da 0, .inr (2, [.ref (ra 0), .int r12, .int (F 0 2), .int (F 0 3), .int (F 0 4), .int (F 0 5), .int (F 0 6), .ref (ka 0), .int (F 0 8), .int (F 0 9), .int (F 0 10), .int (F 0 11), .int (F 0 12), .int (F 0 13), .int (F 0 14), .int (F 0 15), .int (F 0 16), .int (F 0 17), .int (F 0 18)])), (ra 0, .inl (cr 0, 8, .inl (g 0))), (ka 0, .inl (ck 0, 32, .inl (v 0))), (da 1, .inr (2, oD (F 1) (ra 1) (ka 1))), (ra 1, .inl (cr 1, 8, .inl (g 1))), (ka 1, .inl (ck 1, 32, .inl (v 1))), (da 2, .inr (2, oD (F 2) (ra 2) (ka 2))), (ra 2, .inl (cr 2, 8, .inl (g 2))), (ka 2, .inl (ck 2, 32, .inl (v 2))), (p9, .inr (1, [.ref q9, .int (nI cn)])), (q9, .inl (cp, 64, .inl f))] := hD
      have hP9 := hP.sub (ws' := [(h0, .inr (0, oT uT p9 a9 e9 n9 o9)), (a9, .inl (ca, 3, .inr (.inr (.inr (.inr (mo da)))))), (da 0, .inr (2, oD (tri (upc (F 0) 1 r12) (F 1) (F 2) 0) (ra 0) (ka 0))), (ra 0, .inl (cr 0, 8, .inl (g 0))), (ka 0, .inl (ck 0, 32, .inl (v 0))), (da 1, .inr (2, oD (tri (upc (F 0) 1 r12) (F 1) (F 2) 1) (ra 1) (ka 1))), (ra 1, .inl (cr 1, 8, .inl (g 1))), (ka 1, .inl (ck 1, 32, .inl (v 1))), (da 2, .inr (2, oD (tri (upc (F 0) 1 r12) (F 1) (F 2) 2) (ra 2) (ka 2))), (ra 2, .inl (cr 2, 8, .inl (g 2))), (ka 2, .inl (ck 2, 32, .inl (v 2))), (p9, .inr (1, [.ref q9, .int (nI cn)])), (q9, .inl (cp, 64, .inl f))]) [0, 1, 2, 3, 4, 5, 6, 7, 8, 9, 10, 11, 12] rfl
      have hD9 := hD.sub (ws' := [(h0, .inr (0, oT uT p9 a9 e9 n9 o9)), (a9, .inl (ca, 3, .inr (.inr (.inr (.inr (mo da)))))), (da 0, .inr (2, oD (tri (upc (F 0) 1 r12) (F 1) (F 2) 0) (ra 0) (ka 0))), (ra 0, .inl (cr 0, 8, .inl (g 0))), (ka 0, .inl (ck 0, 32, .inl (v 0))), (da 1, .inr (2, oD (tri (upc (F 0) 1 r12) (F 1) (F 2) 1) (ra 1) (ka 1))), (ra 1, .inl (cr 1, 8, .inl (g 1))), (ka 1, .inl (ck 1, 32, .inl (v 1))), (da 2, .inr (2, oD (tri (upc (F 0) 1 r12) (F 1) (F 2) 2) (ra 2) (ka 2))), (ra 2, .inl (cr 2, 8, .inl (g 2))), (ka 2, .inl (ck 2, 32, .inl (v 2))), (p9, .inr (1, [.ref q9, .int (nI cn)])), (q9, .inl (cp, 64, .inl f))]) [0, 1, 2, 3, 4, 5, 6, 7, 8, 9, 10, 11, 12] (by decide) rfl
      have hK9 := hK.sub (tys' := [(ca, .object "VotedTriple$VotedModule"), (cr 0, .int), (ck 0, .int), (cr 1, .int), (ck 1, .int), (cr 2, .int), (ck 2, .int), (cp, .int)]) [0, 1, 2, 3, 4, 5, 6, 7] rfl
      refine W.widen (k := 0) (n := 0) (Nat.le_of_ble_eq_true rfl) (Nat.le_of_ble_eq_true rfl) ?_
      exact W.vret hx hb hr (fun t ht hW => ⟨⟨(tri (upc (F 0) 1 r12) (F 1) (F 2), g, v), rfl, ⟨⟨⟨pf9, hF.2.1, hF.2.2⟩, hg⟩, (by rw [← hSP, s_T_flip]; try (rw [if_pos rfl]); try (rw [if_neg (by decide)]); try (rw [if_neg (by decide)]); try (rw [← hr13E, bnd_eq]); all_goals rfl)⟩, by rw [ht]; exact hP9, va_K.moved hW.alike hK9, hD9⟩, hS.F ht⟩) hS.2.2 d_T_flip_109
  · --  1
    rcases hb_c hb1 with ⟨rfl, hz9, hu9⟩ | ⟨rfl, hz9, hu9⟩ | ⟨rfl, rfl, hu9⟩
    · --  0
      refine lv_iconst (v := 1) hx hb d_T_flip_28 (by decide) ?_
      refine lv_iload hx hb d_T_flip_29 (lv_at hl 4 rfl) ?_
      refine lv_ishl hx hb d_T_flip_31 ?_
      refine lv_istore hx hb d_T_flip_32 hl (by decide) rfl (fun ls hl => ?_)
      replace hl : lv_has ls 6 [(5, .int ((1 : Int32) <<< (u &&& 31))), (0, .ref h0), (1, .int 1), (2, .int 0), (3, .int z), (4, .int u)] := hl
      refine lv_iload_n hx hb d_T_flip_34 rfl (lv_at hl 3 rfl) ?_
      refine lv_if_ne (tgt := 57) hx hb d_T_flip_35 rfl (fun hc14 => by first | exact absurd hc14 (by decide) | exact absurd (by decide) hc14) (fun hc14 => ?_)
      refine lv_aload_n hx hb d_T_flip_38 rfl (lv_at hl 1 rfl) ?_
      refine va_get (D := (dC, dI)) (ci := 0) (v := .ref a9) (C := "VotedTriple") (T := F_T) (N := 11) hx hb hw in_T hown hK hP 0 rfl rfl 1 (by decide) (hw _ k_195) (fun _ h9 => h9) rfl d_T_flip_39 ?_
      refine lv_iload_n hx hb d_T_flip_42 rfl (lv_at hl 2 rfl) ?_
      refine va_aldq hx hb hK hP 1 0 rfl rfl (by unfold vp_in; decide) d_T_flip_43 ?_
      refine W.eq (g2 := F0 m 44 ls [.ref (da 1)]) rfl ?_
      refine va_get (D := (dC, dI)) (ci := 2) (v := .ref (ra 1)) (C := "VotedTriple$VotedModule") (T := F_D) (N := 19) hx hb hw in_D hown hK hP 5 rfl rfl 0 (by decide) (hw _ k_73) (fun x9 h9 => u_same (hw _ k_72) x9 h9) rfl d_T_flip_44 ?_
      refine lv_iload_n hx hb d_T_flip_47 rfl (lv_at hl 4 rfl) ?_
      refine lv_dup2_11 hx hb d_T_flip_48 rfl rfl ?_
      refine va_iald hx hb hK hP 6 3 rfl rfl hz9 d_T_flip_49 ?_
      refine lv_iload hx hb d_T_flip_50 (lv_at hl 0 rfl) ?_
      refine lv_ixor hx hb d_T_flip_52 ?_
      refine va_iast hx hb hK hP hD hS 6 3 rfl rfl hz9 d_T_flip_53 (fun H locs hP hD hS => ?_)
      replace hP : va_P (dC, dI) classes [(h0, .inr (0, oT uT p9 a9 e9 n9 o9)), (a9, .inl (ca, 3, .inr (.inr (.inr (.inr (mo da)))))), (da 0, .inr (2, oD (F 0) (ra 0) (ka 0))), (ra 0, .inl (cr 0, 8, .inl (g 0))), (ka 0, .inl (ck 0, 32, .inl (v 0))), (da 1, .inr (2, oD (F 1) (ra 1) (ka 1))), (ra 1, .inl (cr 1, 8, .inl (upd (g 1) (Int32.toNatClampNeg z) (((g 1) (Int32.toNatClampNeg z)) ^^^ ((1 : Int32) <<< (u &&& 31)))))), (ka 1, .inl (ck 1, 32, .inl (v 1))), (da 2, .inr (2, oD (F 2) (ra 2) (ka 2))), (ra 2, .inl (cr 2, 8, .inl (g 2))), (ka 2, .inl (ck 2, 32, .inl (v 2))), (p9, .inr (1, [.ref q9, .int (nI cn)])), (q9, .inl (cp, 64, .inl f))] H := hP
      replace hD : va_D A [(h0, .inr (0, oT uT p9 a9 e9 n9 o9)), (a9, .inl (ca, 3, .inr (.inr (.inr (.inr (mo da)))))), (da 0, .inr (2, oD (F 0) (ra 0) (ka 0))), (ra 0, .inl (cr 0, 8, .inl (g 0))), (ka 0, .inl (ck 0, 32, .inl (v 0))), (da 1, .inr (2, oD (F 1) (ra 1) (ka 1))), (ra 1, .inl (cr 1, 8, .inl (upd (g 1) (Int32.toNatClampNeg z) (((g 1) (Int32.toNatClampNeg z)) ^^^ ((1 : Int32) <<< (u &&& 31)))))), (ka 1, .inl (ck 1, 32, .inl (v 1))), (da 2, .inr (2, oD (F 2) (ra 2) (ka 2))), (ra 2, .inl (cr 2, 8, .inl (g 2))), (ka 2, .inl (ck 2, 32, .inl (v 2))), (p9, .inr (1, [.ref q9, .int (nI cn)])), (q9, .inl (cp, 64, .inl f))] := hD
      have pg9 := rgI_upd (k := Int32.toNatClampNeg z) hg.2.1 (is16_xor (rg_at hg.2.1 hz9 (by decide)) (sh16 (n := 16) (by decide) hu9))
      refine lv_goto (tgt := 109) hx hb d_T_flip_54 rfl ?_
      have hP9 := hP.sub (ws' := [(h0, .inr (0, oT uT p9 a9 e9 n9 o9)), (a9, .inl (ca, 3, .inr (.inr (.inr (.inr (mo da)))))), (da 0, .inr (2, oD (F 0) (ra 0) (ka 0))), (ra 0, .inl (cr 0, 8, .inl (tri (g 0) (upd (g 1) (Int32.toNatClampNeg z) (((g 1) (Int32.toNatClampNeg z)) ^^^ ((1 : Int32) <<< (u &&& 31)))) (g 2) 0))), (ka 0, .inl (ck 0, 32, .inl (v 0))), (da 1, .inr (2, oD (F 1) (ra 1) (ka 1))), (ra 1, .inl (cr 1, 8, .inl (tri (g 0) (upd (g 1) (Int32.toNatClampNeg z) (((g 1) (Int32.toNatClampNeg z)) ^^^ ((1 : Int32) <<< (u &&& 31)))) (g 2) 1))), (ka 1, .inl (ck 1, 32, .inl (v 1))), (da 2, .inr (2, oD (F 2) (ra 2) (ka 2))), (ra 2, .inl (cr 2, 8, .inl (tri (g 0) (upd (g 1) (Int32.toNatClampNeg z) (((g 1) (Int32.toNatClampNeg z)) ^^^ ((1 : Int32) <<< (u &&& 31)))) (g 2) 2))), (ka 2, .inl (ck 2, 32, .inl (v 2))), (p9, .inr (1, [.ref q9, .int (nI cn)])), (q9, .inl (cp, 64, .inl f))]) [0, 1, 2, 3, 4, 5, 6, 7, 8, 9, 10, 11, 12] rfl
      have hD9 := hD.sub (ws' := [(h0, .inr (0, oT uT p9 a9 e9 n9 o9)), (a9, .inl (ca, 3, .inr (.inr (.inr (.inr (mo da)))))), (da 0, .inr (2, oD (F 0) (ra 0) (ka 0))), (ra 0, .inl (cr 0, 8, .inl (tri (g 0) (upd (g 1) (Int32.toNatClampNeg z) (((g 1) (Int32.toNatClampNeg z)) ^^^ ((1 : Int32) <<< (u &&& 31)))) (g 2) 0))), (ka 0, .inl (ck 0, 32, .inl (v 0))), (da 1, .inr (2, oD (F 1) (ra 1) (ka 1))), (ra 1, .inl (cr 1, 8, .inl (tri (g 0) (upd (g 1) (Int32.toNatClampNeg z) (((g 1) (Int32.toNatClampNeg z)) ^^^ ((1 : Int32) <<< (u &&& 31)))) (g 2) 1))), (ka 1, .inl (ck 1, 32, .inl (v 1))), (da 2, .inr (2, oD (F 2) (ra 2) (ka 2))), (ra 2, .inl (cr 2, 8, .inl (tri (g 0) (upd (g 1) (Int32.toNatClampNeg z) (((g 1) (Int32.toNatClampNeg z)) ^^^ ((1 : Int32) <<< (u &&& 31)))) (g 2) 2))), (ka 2, .inl (ck 2, 32, .inl (v 2))), (p9, .inr (1, [.ref q9, .int (nI cn)])), (q9, .inl (cp, 64, .inl f))]) [0, 1, 2, 3, 4, 5, 6, 7, 8, 9, 10, 11, 12] (by decide) rfl
      have hK9 := hK.sub (tys' := [(ca, .object "VotedTriple$VotedModule"), (cr 0, .int), (ck 0, .int), (cr 1, .int), (ck 1, .int), (cr 2, .int), (ck 2, .int), (cp, .int)]) [0, 1, 2, 3, 4, 5, 6, 7] rfl
      refine W.widen (k := 0) (n := 0) (Nat.le_of_ble_eq_true rfl) (Nat.le_of_ble_eq_true rfl) ?_
      exact W.vret hx hb hr (fun t ht hW => ⟨⟨(F, tri (g 0) (upd (g 1) (Int32.toNatClampNeg z) (((g 1) (Int32.toNatClampNeg z)) ^^^ ((1 : Int32) <<< (u &&& 31)))) (g 2), v), rfl, ⟨⟨hF, ⟨hg.1, pg9, hg.2.2⟩⟩, (by rw [← hSP, s_T_flip]; try (rw [if_neg (by decide)]); try (rw [if_pos rfl]); try (rw [if_pos rfl]); all_goals rfl)⟩, by rw [ht]; exact hP9, va_K.moved hW.alike hK9, hD9⟩, hS.F ht⟩) hS.2.2 d_T_flip_109
    · --  1
      refine lv_iconst (v := 1) hx hb d_T_flip_28 (by decide) ?_
      refine lv_iload hx hb d_T_flip_29 (lv_at hl 4 rfl) ?_
      refine lv_ishl hx hb d_T_flip_31 ?_
      refine lv_istore hx hb d_T_flip_32 hl (by decide) rfl (fun ls hl => ?_)
      replace hl : lv_has ls 6 [(5, .int ((1 : Int32) <<< (u &&& 31))), (0, .ref h0), (1, .int 1), (2, .int 1), (3, .int z), (4, .int u)] := hl
      refine lv_iload_n hx hb d_T_flip_34 rfl (lv_at hl 3 rfl) ?_
      refine lv_if_ne (tgt := 57) hx hb d_T_flip_35 rfl (fun hc15 => ?_) (fun hc15 => by first | exact absurd (by decide) hc15 | exact absurd hc15 (by decide))
      refine lv_iload_n hx hb d_T_flip_57 rfl (lv_at hl 3 rfl) ?_
      refine lv_iconst (v := 1) hx hb d_T_flip_58 (by decide) ?_
      refine lv_icmp_ne (tgt := 81) hx hb d_T_flip_59 rfl (fun hc16 => by first | exact absurd hc16 (fun hh => hh rfl) | exact absurd (fun hh => hh rfl) hc16) (fun hc16 => ?_)
      refine lv_aload_n hx hb d_T_flip_62 rfl (lv_at hl 1 rfl) ?_
      refine va_get (D := (dC, dI)) (ci := 0) (v := .ref a9) (C := "VotedTriple") (T := F_T) (N := 11) hx hb hw in_T hown hK hP 0 rfl rfl 1 (by decide) (hw _ k_195) (fun _ h9 => h9) rfl d_T_flip_63 ?_
      refine lv_iload_n hx hb d_T_flip_66 rfl (lv_at hl 2 rfl) ?_
      refine va_aldq hx hb hK hP 1 0 rfl rfl (by unfold vp_in; decide) d_T_flip_67 ?_
      refine W.eq (g2 := F0 m 68 ls [.ref (da 1)]) rfl ?_
      refine va_get (D := (dC, dI)) (ci := 2) (v := .ref (ka 1)) (C := "VotedTriple$VotedModule") (T := F_D) (N := 19) hx hb hw in_D hown hK hP 5 rfl rfl 7 (by decide) (hw _ k_141) (fun _ h9 => h9) rfl d_T_flip_68 ?_
      refine lv_iload_n hx hb d_T_flip_71 rfl (lv_at hl 4 rfl) ?_
      refine lv_dup2_11 hx hb d_T_flip_72 rfl rfl ?_
      refine va_iald hx hb hK hP 7 4 rfl rfl hz9 d_T_flip_73 ?_
      refine lv_iload hx hb d_T_flip_74 (lv_at hl 0 rfl) ?_
      refine lv_ixor hx hb d_T_flip_76 ?_
      refine va_iast hx hb hK hP hD hS 7 4 rfl rfl hz9 d_T_flip_77 (fun H locs hP hD hS => ?_)
      replace hP : va_P (dC, dI) classes [(h0, .inr (0, oT uT p9 a9 e9 n9 o9)), (a9, .inl (ca, 3, .inr (.inr (.inr (.inr (mo da)))))), (da 0, .inr (2, oD (F 0) (ra 0) (ka 0))), (ra 0, .inl (cr 0, 8, .inl (g 0))), (ka 0, .inl (ck 0, 32, .inl (v 0))), (da 1, .inr (2, oD (F 1) (ra 1) (ka 1))), (ra 1, .inl (cr 1, 8, .inl (g 1))), (ka 1, .inl (ck 1, 32, .inl (upd (v 1) (Int32.toNatClampNeg z) (((v 1) (Int32.toNatClampNeg z)) ^^^ ((1 : Int32) <<< (u &&& 31)))))), (da 2, .inr (2, oD (F 2) (ra 2) (ka 2))), (ra 2, .inl (cr 2, 8, .inl (g 2))), (ka 2, .inl (ck 2, 32, .inl (v 2))), (p9, .inr (1, [.ref q9, .int (nI cn)])), (q9, .inl (cp, 64, .inl f))] H := hP
      replace hD : va_D A [(h0, .inr (0, oT uT p9 a9 e9 n9 o9)), (a9, .inl (ca, 3, .inr (.inr (.inr (.inr (mo da)))))), (da 0, .inr (2, oD (F 0) (ra 0) (ka 0))), (ra 0, .inl (cr 0, 8, .inl (g 0))), (ka 0, .inl (ck 0, 32, .inl (v 0))), (da 1, .inr (2, oD (F 1) (ra 1) (ka 1))), (ra 1, .inl (cr 1, 8, .inl (g 1))), (ka 1, .inl (ck 1, 32, .inl (upd (v 1) (Int32.toNatClampNeg z) (((v 1) (Int32.toNatClampNeg z)) ^^^ ((1 : Int32) <<< (u &&& 31)))))), (da 2, .inr (2, oD (F 2) (ra 2) (ka 2))), (ra 2, .inl (cr 2, 8, .inl (g 2))), (ka 2, .inl (ck 2, 32, .inl (v 2))), (p9, .inr (1, [.ref q9, .int (nI cn)])), (q9, .inl (cp, 64, .inl f))] := hD
      refine lv_goto (tgt := 109) hx hb d_T_flip_78 rfl ?_
      have hP9 := hP.sub (ws' := [(h0, .inr (0, oT uT p9 a9 e9 n9 o9)), (a9, .inl (ca, 3, .inr (.inr (.inr (.inr (mo da)))))), (da 0, .inr (2, oD (F 0) (ra 0) (ka 0))), (ra 0, .inl (cr 0, 8, .inl (g 0))), (ka 0, .inl (ck 0, 32, .inl (tri (v 0) (upd (v 1) (Int32.toNatClampNeg z) (((v 1) (Int32.toNatClampNeg z)) ^^^ ((1 : Int32) <<< (u &&& 31)))) (v 2) 0))), (da 1, .inr (2, oD (F 1) (ra 1) (ka 1))), (ra 1, .inl (cr 1, 8, .inl (g 1))), (ka 1, .inl (ck 1, 32, .inl (tri (v 0) (upd (v 1) (Int32.toNatClampNeg z) (((v 1) (Int32.toNatClampNeg z)) ^^^ ((1 : Int32) <<< (u &&& 31)))) (v 2) 1))), (da 2, .inr (2, oD (F 2) (ra 2) (ka 2))), (ra 2, .inl (cr 2, 8, .inl (g 2))), (ka 2, .inl (ck 2, 32, .inl (tri (v 0) (upd (v 1) (Int32.toNatClampNeg z) (((v 1) (Int32.toNatClampNeg z)) ^^^ ((1 : Int32) <<< (u &&& 31)))) (v 2) 2))), (p9, .inr (1, [.ref q9, .int (nI cn)])), (q9, .inl (cp, 64, .inl f))]) [0, 1, 2, 3, 4, 5, 6, 7, 8, 9, 10, 11, 12] rfl
      have hD9 := hD.sub (ws' := [(h0, .inr (0, oT uT p9 a9 e9 n9 o9)), (a9, .inl (ca, 3, .inr (.inr (.inr (.inr (mo da)))))), (da 0, .inr (2, oD (F 0) (ra 0) (ka 0))), (ra 0, .inl (cr 0, 8, .inl (g 0))), (ka 0, .inl (ck 0, 32, .inl (tri (v 0) (upd (v 1) (Int32.toNatClampNeg z) (((v 1) (Int32.toNatClampNeg z)) ^^^ ((1 : Int32) <<< (u &&& 31)))) (v 2) 0))), (da 1, .inr (2, oD (F 1) (ra 1) (ka 1))), (ra 1, .inl (cr 1, 8, .inl (g 1))), (ka 1, .inl (ck 1, 32, .inl (tri (v 0) (upd (v 1) (Int32.toNatClampNeg z) (((v 1) (Int32.toNatClampNeg z)) ^^^ ((1 : Int32) <<< (u &&& 31)))) (v 2) 1))), (da 2, .inr (2, oD (F 2) (ra 2) (ka 2))), (ra 2, .inl (cr 2, 8, .inl (g 2))), (ka 2, .inl (ck 2, 32, .inl (tri (v 0) (upd (v 1) (Int32.toNatClampNeg z) (((v 1) (Int32.toNatClampNeg z)) ^^^ ((1 : Int32) <<< (u &&& 31)))) (v 2) 2))), (p9, .inr (1, [.ref q9, .int (nI cn)])), (q9, .inl (cp, 64, .inl f))]) [0, 1, 2, 3, 4, 5, 6, 7, 8, 9, 10, 11, 12] (by decide) rfl
      have hK9 := hK.sub (tys' := [(ca, .object "VotedTriple$VotedModule"), (cr 0, .int), (ck 0, .int), (cr 1, .int), (ck 1, .int), (cr 2, .int), (ck 2, .int), (cp, .int)]) [0, 1, 2, 3, 4, 5, 6, 7] rfl
      refine W.widen (k := 0) (n := 0) (Nat.le_of_ble_eq_true rfl) (Nat.le_of_ble_eq_true rfl) ?_
      exact W.vret hx hb hr (fun t ht hW => ⟨⟨(F, g, tri (v 0) (upd (v 1) (Int32.toNatClampNeg z) (((v 1) (Int32.toNatClampNeg z)) ^^^ ((1 : Int32) <<< (u &&& 31)))) (v 2)), rfl, ⟨⟨hF, hg⟩, (by rw [← hSP, s_T_flip]; try (rw [if_neg (by decide)]); try (rw [if_pos rfl]); try (rw [if_neg (by decide)]); try (rw [if_pos rfl]); all_goals rfl)⟩, by rw [ht]; exact hP9, va_K.moved hW.alike hK9, hD9⟩, hS.F ht⟩) hS.2.2 d_T_flip_109
    · --  2
      refine lv_iconst (v := 1) hx hb d_T_flip_28 (by decide) ?_
      refine lv_iload hx hb d_T_flip_29 (lv_at hl 4 rfl) ?_
      refine lv_ishl hx hb d_T_flip_31 ?_
      refine lv_istore hx hb d_T_flip_32 hl (by decide) rfl (fun ls hl => ?_)
      replace hl : lv_has ls 6 [(5, .int ((1 : Int32) <<< (u &&& 31))), (0, .ref h0), (1, .int 1), (2, .int 2), (3, .int 0), (4, .int u)] := hl
      refine lv_iload_n hx hb d_T_flip_34 rfl (lv_at hl 3 rfl) ?_
      refine lv_if_ne (tgt := 57) hx hb d_T_flip_35 rfl (fun hc17 => ?_) (fun hc17 => by first | exact absurd (by decide) hc17 | exact absurd hc17 (by decide))
      refine lv_iload_n hx hb d_T_flip_57 rfl (lv_at hl 3 rfl) ?_
      refine lv_iconst (v := 1) hx hb d_T_flip_58 (by decide) ?_
      refine lv_icmp_ne (tgt := 81) hx hb d_T_flip_59 rfl (fun hc18 => ?_) (fun hc18 => by first | exact absurd (by decide) hc18 | exact absurd hc18 (by decide))
      refine lv_aload_n hx hb d_T_flip_81 rfl (lv_at hl 1 rfl) ?_
      refine va_get (D := (dC, dI)) (ci := 0) (v := .ref a9) (C := "VotedTriple") (T := F_T) (N := 11) hx hb hw in_T hown hK hP 0 rfl rfl 1 (by decide) (hw _ k_195) (fun _ h9 => h9) rfl d_T_flip_82 ?_
      refine lv_iload_n hx hb d_T_flip_85 rfl (lv_at hl 2 rfl) ?_
      refine va_aldq hx hb hK hP 1 0 rfl rfl (by unfold vp_in; decide) d_T_flip_86 ?_
      refine W.eq (g2 := F0 m 87 ls [.ref (da 1)]) rfl ?_
      refine lv_aload_n hx hb d_T_flip_87 rfl (lv_at hl 1 rfl) ?_
      refine va_get (D := (dC, dI)) (ci := 0) (v := .ref p9) (C := "VotedTriple") (T := F_T) (N := 11) hx hb hw in_T hown hK hP 0 rfl rfl 0 (by decide) (hw _ k_194) (fun _ h9 => h9) rfl d_T_flip_88 ?_
      refine lv_aload_n hx hb d_T_flip_91 rfl (lv_at hl 1 rfl) ?_
      refine va_get (D := (dC, dI)) (ci := 0) (v := .ref a9) (C := "VotedTriple") (T := F_T) (N := 11) hx hb hw in_T hown hK hP 0 rfl rfl 1 (by decide) (hw _ k_195) (fun _ h9 => h9) rfl d_T_flip_92 ?_
      refine lv_iload_n hx hb d_T_flip_95 rfl (lv_at hl 2 rfl) ?_
      refine va_aldq hx hb hK hP 1 0 rfl rfl (by unfold vp_in; decide) d_T_flip_96 ?_
      refine W.eq (g2 := F0 m 97 ls [.ref (da 1), .ref p9, .ref (da 1)]) rfl ?_
      refine va_get (D := (dC, dI)) (ci := 2) (v := .int (F 1 1)) (C := "VotedTriple$VotedModule") (T := F_D) (N := 19) hx hb hw in_D hown hK hP 5 rfl rfl 1 (by decide) (hw _ k_77) (fun x9 h9 => u_same (hw _ k_76) x9 h9) rfl d_T_flip_97 ?_
      refine lv_iload hx hb d_T_flip_100 (lv_at hl 0 rfl) ?_
      refine lv_ixor hx hb d_T_flip_102 ?_
      replace hPc := hP.sub (ws' := [(p9, .inr (1, [.ref q9, .int (nI cn)]))]) [11] rfl
      replace hKc := hK.sub (tys' := []) [] rfl
      refine vp_callSi (va_runV (C := "VotedTriple$Program") (As := [.int ((F 1 1) ^^^ ((1 : Int32) <<< (u &&& 31)))]) (rest := [.ref (da 1)]) ⟨hx, hb, hml, hown, hw⟩ (c_P_wrap l dC dI p9 q9 cn ((F 1 1) ^^^ ((1 : Int32) <<< (u &&& 31))) hc.1 (cnt_xor hF.2.1.1 hu9)) (cwV 1 hw (gdV (k_501) (k_717) (k_499) (k_500) (k_2)) rfl rfl rfl (by decide +kernel) ⟨Nat.le_of_ble_eq_true rfl, Nat.le_of_ble_eq_true rfl⟩) ⟨fun a U g mk q => ⟨q.1, q.2.1, va_K.moved (u := U) (U := U.calling g mk a) (Vm.Alike.refl U.vm) q.2.2⟩, va_recv hK hP rfl (q0 := 11) rfl, fun U hU hW => ⟨rfl, by rw [hU]; exact hPc, va_K.moved hW.alike hKc⟩⟩ rfl rfl hl.1 rfl (lv_room (Nat.le_of_ble_eq_true rfl)) d_T_flip_103 ⟨Nat.le_of_ble_eq_true rfl, Nat.le_of_ble_eq_true rfl⟩).run (fun r19 hr20 => ?_)
      obtain ⟨hr20, hr20E⟩ := hr20
      have pf9 := modF_1 hF.2.1 (cntI_w hc.1 hr20)
      refine va_put (D := (dC, dI)) (ci := 2) (v := .int r19) (ty := .int) (C := "VotedTriple$VotedModule") (T := F_D) (N := 19) hx hb hw in_D ft_D tyok_D nm_D hown hK hP hD hS 5 rfl rfl 1 (by decide) (hw _ k_77) (fun x9 h9 => u_same (hw _ k_76) x9 h9) rfl (by decide +kernel) rfl rfl (Nat.le_of_ble_eq_true rfl) d_T_flip_106 (fun H locs hP hD hS => ?_)
      replace hP : va_P (dC, dI) classes [(h0, .inr (0, oT uT p9 a9 e9 n9 o9)), (a9, .inl (ca, 3, .inr (.inr (.inr (.inr (mo da)))))), (da 0, .inr (2, oD (F 0) (ra 0) (ka 0))), (ra 0, .inl (cr 0, 8, .inl (g 0))), (ka 0, .inl (ck 0, 32, .inl (v 0))), (da 1, .inr (2, [.ref (ra 1), .int r19, .int (F 1 2), .int (F 1 3), .int (F 1 4), .int (F 1 5), .int (F 1 6), .ref (ka 1), .int (F 1 8), .int (F 1 9), .int (F 1 10), .int (F 1 11), .int (F 1 12), .int (F 1 13), .int (F 1 14), .int (F 1 15), .int (F 1 16), .int (F 1 17), .int (F 1 18)])), (ra 1, .inl (cr 1, 8, .inl (g 1))), (ka 1, .inl (ck 1, 32, .inl (v 1))), (da 2, .inr (2, oD (F 2) (ra 2) (ka 2))), (ra 2, .inl (cr 2, 8, .inl (g 2))), (ka 2, .inl (ck 2, 32, .inl (v 2))), (p9, .inr (1, [.ref q9, .int (nI cn)])), (q9, .inl (cp, 64, .inl f))] H := hP
      replace hD : va_D A [(h0, .inr (0, oT uT p9 a9 e9 n9 o9)), (a9, .inl (ca, 3, .inr (.inr (.inr (.inr (mo da)))))), (da 0, .inr (2, oD (F 0) (ra 0) (ka 0))), (ra 0, .inl (cr 0, 8, .inl (g 0))), (ka 0, .inl (ck 0, 32, .inl (v 0))), (da 1, .inr (2, [.ref (ra 1), .int r19, .int (F 1 2), .int (F 1 3), .int (F 1 4), .int (F 1 5), .int (F 1 6), .ref (ka 1), .int (F 1 8), .int (F 1 9), .int (F 1 10), .int (F 1 11), .int (F 1 12), .int (F 1 13), .int (F 1 14), .int (F 1 15), .int (F 1 16), .int (F 1 17), .int (F 1 18)])), (ra 1, .inl (cr 1, 8, .inl (g 1))), (ka 1, .inl (ck 1, 32, .inl (v 1))), (da 2, .inr (2, oD (F 2) (ra 2) (ka 2))), (ra 2, .inl (cr 2, 8, .inl (g 2))), (ka 2, .inl (ck 2, 32, .inl (v 2))), (p9, .inr (1, [.ref q9, .int (nI cn)])), (q9, .inl (cp, 64, .inl f))] := hD
      have hP9 := hP.sub (ws' := [(h0, .inr (0, oT uT p9 a9 e9 n9 o9)), (a9, .inl (ca, 3, .inr (.inr (.inr (.inr (mo da)))))), (da 0, .inr (2, oD (tri (F 0) (upc (F 1) 1 r19) (F 2) 0) (ra 0) (ka 0))), (ra 0, .inl (cr 0, 8, .inl (g 0))), (ka 0, .inl (ck 0, 32, .inl (v 0))), (da 1, .inr (2, oD (tri (F 0) (upc (F 1) 1 r19) (F 2) 1) (ra 1) (ka 1))), (ra 1, .inl (cr 1, 8, .inl (g 1))), (ka 1, .inl (ck 1, 32, .inl (v 1))), (da 2, .inr (2, oD (tri (F 0) (upc (F 1) 1 r19) (F 2) 2) (ra 2) (ka 2))), (ra 2, .inl (cr 2, 8, .inl (g 2))), (ka 2, .inl (ck 2, 32, .inl (v 2))), (p9, .inr (1, [.ref q9, .int (nI cn)])), (q9, .inl (cp, 64, .inl f))]) [0, 1, 2, 3, 4, 5, 6, 7, 8, 9, 10, 11, 12] rfl
      have hD9 := hD.sub (ws' := [(h0, .inr (0, oT uT p9 a9 e9 n9 o9)), (a9, .inl (ca, 3, .inr (.inr (.inr (.inr (mo da)))))), (da 0, .inr (2, oD (tri (F 0) (upc (F 1) 1 r19) (F 2) 0) (ra 0) (ka 0))), (ra 0, .inl (cr 0, 8, .inl (g 0))), (ka 0, .inl (ck 0, 32, .inl (v 0))), (da 1, .inr (2, oD (tri (F 0) (upc (F 1) 1 r19) (F 2) 1) (ra 1) (ka 1))), (ra 1, .inl (cr 1, 8, .inl (g 1))), (ka 1, .inl (ck 1, 32, .inl (v 1))), (da 2, .inr (2, oD (tri (F 0) (upc (F 1) 1 r19) (F 2) 2) (ra 2) (ka 2))), (ra 2, .inl (cr 2, 8, .inl (g 2))), (ka 2, .inl (ck 2, 32, .inl (v 2))), (p9, .inr (1, [.ref q9, .int (nI cn)])), (q9, .inl (cp, 64, .inl f))]) [0, 1, 2, 3, 4, 5, 6, 7, 8, 9, 10, 11, 12] (by decide) rfl
      have hK9 := hK.sub (tys' := [(ca, .object "VotedTriple$VotedModule"), (cr 0, .int), (ck 0, .int), (cr 1, .int), (ck 1, .int), (cr 2, .int), (ck 2, .int), (cp, .int)]) [0, 1, 2, 3, 4, 5, 6, 7] rfl
      refine W.widen (k := 0) (n := 0) (Nat.le_of_ble_eq_true rfl) (Nat.le_of_ble_eq_true rfl) ?_
      exact W.vret hx hb hr (fun t ht hW => ⟨⟨(tri (F 0) (upc (F 1) 1 r19) (F 2), g, v), rfl, ⟨⟨⟨hF.1, pf9, hF.2.2⟩, hg⟩, (by rw [← hSP, s_T_flip]; try (rw [if_neg (by decide)]); try (rw [if_pos rfl]); try (rw [if_neg (by decide)]); try (rw [if_neg (by decide)]); try (rw [← hr20E, bnd_eq]); all_goals rfl)⟩, by rw [ht]; exact hP9, va_K.moved hW.alike hK9, hD9⟩, hS.F ht⟩) hS.2.2 d_T_flip_109
  · --  2
    rcases hb_c hb1 with ⟨rfl, hz9, hu9⟩ | ⟨rfl, hz9, hu9⟩ | ⟨rfl, rfl, hu9⟩
    · --  0
      refine lv_iconst (v := 1) hx hb d_T_flip_28 (by decide) ?_
      refine lv_iload hx hb d_T_flip_29 (lv_at hl 4 rfl) ?_
      refine lv_ishl hx hb d_T_flip_31 ?_
      refine lv_istore hx hb d_T_flip_32 hl (by decide) rfl (fun ls hl => ?_)
      replace hl : lv_has ls 6 [(5, .int ((1 : Int32) <<< (u &&& 31))), (0, .ref h0), (1, .int 2), (2, .int 0), (3, .int z), (4, .int u)] := hl
      refine lv_iload_n hx hb d_T_flip_34 rfl (lv_at hl 3 rfl) ?_
      refine lv_if_ne (tgt := 57) hx hb d_T_flip_35 rfl (fun hc21 => by first | exact absurd hc21 (by decide) | exact absurd (by decide) hc21) (fun hc21 => ?_)
      refine lv_aload_n hx hb d_T_flip_38 rfl (lv_at hl 1 rfl) ?_
      refine va_get (D := (dC, dI)) (ci := 0) (v := .ref a9) (C := "VotedTriple") (T := F_T) (N := 11) hx hb hw in_T hown hK hP 0 rfl rfl 1 (by decide) (hw _ k_195) (fun _ h9 => h9) rfl d_T_flip_39 ?_
      refine lv_iload_n hx hb d_T_flip_42 rfl (lv_at hl 2 rfl) ?_
      refine va_aldq hx hb hK hP 1 0 rfl rfl (by unfold vp_in; decide) d_T_flip_43 ?_
      refine W.eq (g2 := F0 m 44 ls [.ref (da 2)]) rfl ?_
      refine va_get (D := (dC, dI)) (ci := 2) (v := .ref (ra 2)) (C := "VotedTriple$VotedModule") (T := F_D) (N := 19) hx hb hw in_D hown hK hP 8 rfl rfl 0 (by decide) (hw _ k_73) (fun x9 h9 => u_same (hw _ k_72) x9 h9) rfl d_T_flip_44 ?_
      refine lv_iload_n hx hb d_T_flip_47 rfl (lv_at hl 4 rfl) ?_
      refine lv_dup2_11 hx hb d_T_flip_48 rfl rfl ?_
      refine va_iald hx hb hK hP 9 5 rfl rfl hz9 d_T_flip_49 ?_
      refine lv_iload hx hb d_T_flip_50 (lv_at hl 0 rfl) ?_
      refine lv_ixor hx hb d_T_flip_52 ?_
      refine va_iast hx hb hK hP hD hS 9 5 rfl rfl hz9 d_T_flip_53 (fun H locs hP hD hS => ?_)
      replace hP : va_P (dC, dI) classes [(h0, .inr (0, oT uT p9 a9 e9 n9 o9)), (a9, .inl (ca, 3, .inr (.inr (.inr (.inr (mo da)))))), (da 0, .inr (2, oD (F 0) (ra 0) (ka 0))), (ra 0, .inl (cr 0, 8, .inl (g 0))), (ka 0, .inl (ck 0, 32, .inl (v 0))), (da 1, .inr (2, oD (F 1) (ra 1) (ka 1))), (ra 1, .inl (cr 1, 8, .inl (g 1))), (ka 1, .inl (ck 1, 32, .inl (v 1))), (da 2, .inr (2, oD (F 2) (ra 2) (ka 2))), (ra 2, .inl (cr 2, 8, .inl (upd (g 2) (Int32.toNatClampNeg z) (((g 2) (Int32.toNatClampNeg z)) ^^^ ((1 : Int32) <<< (u &&& 31)))))), (ka 2, .inl (ck 2, 32, .inl (v 2))), (p9, .inr (1, [.ref q9, .int (nI cn)])), (q9, .inl (cp, 64, .inl f))] H := hP
      replace hD : va_D A [(h0, .inr (0, oT uT p9 a9 e9 n9 o9)), (a9, .inl (ca, 3, .inr (.inr (.inr (.inr (mo da)))))), (da 0, .inr (2, oD (F 0) (ra 0) (ka 0))), (ra 0, .inl (cr 0, 8, .inl (g 0))), (ka 0, .inl (ck 0, 32, .inl (v 0))), (da 1, .inr (2, oD (F 1) (ra 1) (ka 1))), (ra 1, .inl (cr 1, 8, .inl (g 1))), (ka 1, .inl (ck 1, 32, .inl (v 1))), (da 2, .inr (2, oD (F 2) (ra 2) (ka 2))), (ra 2, .inl (cr 2, 8, .inl (upd (g 2) (Int32.toNatClampNeg z) (((g 2) (Int32.toNatClampNeg z)) ^^^ ((1 : Int32) <<< (u &&& 31)))))), (ka 2, .inl (ck 2, 32, .inl (v 2))), (p9, .inr (1, [.ref q9, .int (nI cn)])), (q9, .inl (cp, 64, .inl f))] := hD
      have pg9 := rgI_upd (k := Int32.toNatClampNeg z) hg.2.2 (is16_xor (rg_at hg.2.2 hz9 (by decide)) (sh16 (n := 16) (by decide) hu9))
      refine lv_goto (tgt := 109) hx hb d_T_flip_54 rfl ?_
      have hP9 := hP.sub (ws' := [(h0, .inr (0, oT uT p9 a9 e9 n9 o9)), (a9, .inl (ca, 3, .inr (.inr (.inr (.inr (mo da)))))), (da 0, .inr (2, oD (F 0) (ra 0) (ka 0))), (ra 0, .inl (cr 0, 8, .inl (tri (g 0) (g 1) (upd (g 2) (Int32.toNatClampNeg z) (((g 2) (Int32.toNatClampNeg z)) ^^^ ((1 : Int32) <<< (u &&& 31)))) 0))), (ka 0, .inl (ck 0, 32, .inl (v 0))), (da 1, .inr (2, oD (F 1) (ra 1) (ka 1))), (ra 1, .inl (cr 1, 8, .inl (tri (g 0) (g 1) (upd (g 2) (Int32.toNatClampNeg z) (((g 2) (Int32.toNatClampNeg z)) ^^^ ((1 : Int32) <<< (u &&& 31)))) 1))), (ka 1, .inl (ck 1, 32, .inl (v 1))), (da 2, .inr (2, oD (F 2) (ra 2) (ka 2))), (ra 2, .inl (cr 2, 8, .inl (tri (g 0) (g 1) (upd (g 2) (Int32.toNatClampNeg z) (((g 2) (Int32.toNatClampNeg z)) ^^^ ((1 : Int32) <<< (u &&& 31)))) 2))), (ka 2, .inl (ck 2, 32, .inl (v 2))), (p9, .inr (1, [.ref q9, .int (nI cn)])), (q9, .inl (cp, 64, .inl f))]) [0, 1, 2, 3, 4, 5, 6, 7, 8, 9, 10, 11, 12] rfl
      have hD9 := hD.sub (ws' := [(h0, .inr (0, oT uT p9 a9 e9 n9 o9)), (a9, .inl (ca, 3, .inr (.inr (.inr (.inr (mo da)))))), (da 0, .inr (2, oD (F 0) (ra 0) (ka 0))), (ra 0, .inl (cr 0, 8, .inl (tri (g 0) (g 1) (upd (g 2) (Int32.toNatClampNeg z) (((g 2) (Int32.toNatClampNeg z)) ^^^ ((1 : Int32) <<< (u &&& 31)))) 0))), (ka 0, .inl (ck 0, 32, .inl (v 0))), (da 1, .inr (2, oD (F 1) (ra 1) (ka 1))), (ra 1, .inl (cr 1, 8, .inl (tri (g 0) (g 1) (upd (g 2) (Int32.toNatClampNeg z) (((g 2) (Int32.toNatClampNeg z)) ^^^ ((1 : Int32) <<< (u &&& 31)))) 1))), (ka 1, .inl (ck 1, 32, .inl (v 1))), (da 2, .inr (2, oD (F 2) (ra 2) (ka 2))), (ra 2, .inl (cr 2, 8, .inl (tri (g 0) (g 1) (upd (g 2) (Int32.toNatClampNeg z) (((g 2) (Int32.toNatClampNeg z)) ^^^ ((1 : Int32) <<< (u &&& 31)))) 2))), (ka 2, .inl (ck 2, 32, .inl (v 2))), (p9, .inr (1, [.ref q9, .int (nI cn)])), (q9, .inl (cp, 64, .inl f))]) [0, 1, 2, 3, 4, 5, 6, 7, 8, 9, 10, 11, 12] (by decide) rfl
      have hK9 := hK.sub (tys' := [(ca, .object "VotedTriple$VotedModule"), (cr 0, .int), (ck 0, .int), (cr 1, .int), (ck 1, .int), (cr 2, .int), (ck 2, .int), (cp, .int)]) [0, 1, 2, 3, 4, 5, 6, 7] rfl
      refine W.widen (k := 0) (n := 0) (Nat.le_of_ble_eq_true rfl) (Nat.le_of_ble_eq_true rfl) ?_
      exact W.vret hx hb hr (fun t ht hW => ⟨⟨(F, tri (g 0) (g 1) (upd (g 2) (Int32.toNatClampNeg z) (((g 2) (Int32.toNatClampNeg z)) ^^^ ((1 : Int32) <<< (u &&& 31)))), v), rfl, ⟨⟨hF, ⟨hg.1, hg.2.1, pg9⟩⟩, (by rw [← hSP, s_T_flip]; try (rw [if_neg (by decide)]); try (rw [if_neg (by decide)]); try (rw [if_pos rfl]); all_goals rfl)⟩, by rw [ht]; exact hP9, va_K.moved hW.alike hK9, hD9⟩, hS.F ht⟩) hS.2.2 d_T_flip_109
    · --  1
      refine lv_iconst (v := 1) hx hb d_T_flip_28 (by decide) ?_
      refine lv_iload hx hb d_T_flip_29 (lv_at hl 4 rfl) ?_
      refine lv_ishl hx hb d_T_flip_31 ?_
      refine lv_istore hx hb d_T_flip_32 hl (by decide) rfl (fun ls hl => ?_)
      replace hl : lv_has ls 6 [(5, .int ((1 : Int32) <<< (u &&& 31))), (0, .ref h0), (1, .int 2), (2, .int 1), (3, .int z), (4, .int u)] := hl
      refine lv_iload_n hx hb d_T_flip_34 rfl (lv_at hl 3 rfl) ?_
      refine lv_if_ne (tgt := 57) hx hb d_T_flip_35 rfl (fun hc22 => ?_) (fun hc22 => by first | exact absurd (by decide) hc22 | exact absurd hc22 (by decide))
      refine lv_iload_n hx hb d_T_flip_57 rfl (lv_at hl 3 rfl) ?_
      refine lv_iconst (v := 1) hx hb d_T_flip_58 (by decide) ?_
      refine lv_icmp_ne (tgt := 81) hx hb d_T_flip_59 rfl (fun hc23 => by first | exact absurd hc23 (fun hh => hh rfl) | exact absurd (fun hh => hh rfl) hc23) (fun hc23 => ?_)
      refine lv_aload_n hx hb d_T_flip_62 rfl (lv_at hl 1 rfl) ?_
      refine va_get (D := (dC, dI)) (ci := 0) (v := .ref a9) (C := "VotedTriple") (T := F_T) (N := 11) hx hb hw in_T hown hK hP 0 rfl rfl 1 (by decide) (hw _ k_195) (fun _ h9 => h9) rfl d_T_flip_63 ?_
      refine lv_iload_n hx hb d_T_flip_66 rfl (lv_at hl 2 rfl) ?_
      refine va_aldq hx hb hK hP 1 0 rfl rfl (by unfold vp_in; decide) d_T_flip_67 ?_
      refine W.eq (g2 := F0 m 68 ls [.ref (da 2)]) rfl ?_
      refine va_get (D := (dC, dI)) (ci := 2) (v := .ref (ka 2)) (C := "VotedTriple$VotedModule") (T := F_D) (N := 19) hx hb hw in_D hown hK hP 8 rfl rfl 7 (by decide) (hw _ k_141) (fun _ h9 => h9) rfl d_T_flip_68 ?_
      refine lv_iload_n hx hb d_T_flip_71 rfl (lv_at hl 4 rfl) ?_
      refine lv_dup2_11 hx hb d_T_flip_72 rfl rfl ?_
      refine va_iald hx hb hK hP 10 6 rfl rfl hz9 d_T_flip_73 ?_
      refine lv_iload hx hb d_T_flip_74 (lv_at hl 0 rfl) ?_
      refine lv_ixor hx hb d_T_flip_76 ?_
      refine va_iast hx hb hK hP hD hS 10 6 rfl rfl hz9 d_T_flip_77 (fun H locs hP hD hS => ?_)
      replace hP : va_P (dC, dI) classes [(h0, .inr (0, oT uT p9 a9 e9 n9 o9)), (a9, .inl (ca, 3, .inr (.inr (.inr (.inr (mo da)))))), (da 0, .inr (2, oD (F 0) (ra 0) (ka 0))), (ra 0, .inl (cr 0, 8, .inl (g 0))), (ka 0, .inl (ck 0, 32, .inl (v 0))), (da 1, .inr (2, oD (F 1) (ra 1) (ka 1))), (ra 1, .inl (cr 1, 8, .inl (g 1))), (ka 1, .inl (ck 1, 32, .inl (v 1))), (da 2, .inr (2, oD (F 2) (ra 2) (ka 2))), (ra 2, .inl (cr 2, 8, .inl (g 2))), (ka 2, .inl (ck 2, 32, .inl (upd (v 2) (Int32.toNatClampNeg z) (((v 2) (Int32.toNatClampNeg z)) ^^^ ((1 : Int32) <<< (u &&& 31)))))), (p9, .inr (1, [.ref q9, .int (nI cn)])), (q9, .inl (cp, 64, .inl f))] H := hP
      replace hD : va_D A [(h0, .inr (0, oT uT p9 a9 e9 n9 o9)), (a9, .inl (ca, 3, .inr (.inr (.inr (.inr (mo da)))))), (da 0, .inr (2, oD (F 0) (ra 0) (ka 0))), (ra 0, .inl (cr 0, 8, .inl (g 0))), (ka 0, .inl (ck 0, 32, .inl (v 0))), (da 1, .inr (2, oD (F 1) (ra 1) (ka 1))), (ra 1, .inl (cr 1, 8, .inl (g 1))), (ka 1, .inl (ck 1, 32, .inl (v 1))), (da 2, .inr (2, oD (F 2) (ra 2) (ka 2))), (ra 2, .inl (cr 2, 8, .inl (g 2))), (ka 2, .inl (ck 2, 32, .inl (upd (v 2) (Int32.toNatClampNeg z) (((v 2) (Int32.toNatClampNeg z)) ^^^ ((1 : Int32) <<< (u &&& 31)))))), (p9, .inr (1, [.ref q9, .int (nI cn)])), (q9, .inl (cp, 64, .inl f))] := hD
      refine lv_goto (tgt := 109) hx hb d_T_flip_78 rfl ?_
      have hP9 := hP.sub (ws' := [(h0, .inr (0, oT uT p9 a9 e9 n9 o9)), (a9, .inl (ca, 3, .inr (.inr (.inr (.inr (mo da)))))), (da 0, .inr (2, oD (F 0) (ra 0) (ka 0))), (ra 0, .inl (cr 0, 8, .inl (g 0))), (ka 0, .inl (ck 0, 32, .inl (tri (v 0) (v 1) (upd (v 2) (Int32.toNatClampNeg z) (((v 2) (Int32.toNatClampNeg z)) ^^^ ((1 : Int32) <<< (u &&& 31)))) 0))), (da 1, .inr (2, oD (F 1) (ra 1) (ka 1))), (ra 1, .inl (cr 1, 8, .inl (g 1))), (ka 1, .inl (ck 1, 32, .inl (tri (v 0) (v 1) (upd (v 2) (Int32.toNatClampNeg z) (((v 2) (Int32.toNatClampNeg z)) ^^^ ((1 : Int32) <<< (u &&& 31)))) 1))), (da 2, .inr (2, oD (F 2) (ra 2) (ka 2))), (ra 2, .inl (cr 2, 8, .inl (g 2))), (ka 2, .inl (ck 2, 32, .inl (tri (v 0) (v 1) (upd (v 2) (Int32.toNatClampNeg z) (((v 2) (Int32.toNatClampNeg z)) ^^^ ((1 : Int32) <<< (u &&& 31)))) 2))), (p9, .inr (1, [.ref q9, .int (nI cn)])), (q9, .inl (cp, 64, .inl f))]) [0, 1, 2, 3, 4, 5, 6, 7, 8, 9, 10, 11, 12] rfl
      have hD9 := hD.sub (ws' := [(h0, .inr (0, oT uT p9 a9 e9 n9 o9)), (a9, .inl (ca, 3, .inr (.inr (.inr (.inr (mo da)))))), (da 0, .inr (2, oD (F 0) (ra 0) (ka 0))), (ra 0, .inl (cr 0, 8, .inl (g 0))), (ka 0, .inl (ck 0, 32, .inl (tri (v 0) (v 1) (upd (v 2) (Int32.toNatClampNeg z) (((v 2) (Int32.toNatClampNeg z)) ^^^ ((1 : Int32) <<< (u &&& 31)))) 0))), (da 1, .inr (2, oD (F 1) (ra 1) (ka 1))), (ra 1, .inl (cr 1, 8, .inl (g 1))), (ka 1, .inl (ck 1, 32, .inl (tri (v 0) (v 1) (upd (v 2) (Int32.toNatClampNeg z) (((v 2) (Int32.toNatClampNeg z)) ^^^ ((1 : Int32) <<< (u &&& 31)))) 1))), (da 2, .inr (2, oD (F 2) (ra 2) (ka 2))), (ra 2, .inl (cr 2, 8, .inl (g 2))), (ka 2, .inl (ck 2, 32, .inl (tri (v 0) (v 1) (upd (v 2) (Int32.toNatClampNeg z) (((v 2) (Int32.toNatClampNeg z)) ^^^ ((1 : Int32) <<< (u &&& 31)))) 2))), (p9, .inr (1, [.ref q9, .int (nI cn)])), (q9, .inl (cp, 64, .inl f))]) [0, 1, 2, 3, 4, 5, 6, 7, 8, 9, 10, 11, 12] (by decide) rfl
      have hK9 := hK.sub (tys' := [(ca, .object "VotedTriple$VotedModule"), (cr 0, .int), (ck 0, .int), (cr 1, .int), (ck 1, .int), (cr 2, .int), (ck 2, .int), (cp, .int)]) [0, 1, 2, 3, 4, 5, 6, 7] rfl
      refine W.widen (k := 0) (n := 0) (Nat.le_of_ble_eq_true rfl) (Nat.le_of_ble_eq_true rfl) ?_
      exact W.vret hx hb hr (fun t ht hW => ⟨⟨(F, g, tri (v 0) (v 1) (upd (v 2) (Int32.toNatClampNeg z) (((v 2) (Int32.toNatClampNeg z)) ^^^ ((1 : Int32) <<< (u &&& 31))))), rfl, ⟨⟨hF, hg⟩, (by rw [← hSP, s_T_flip]; try (rw [if_neg (by decide)]); try (rw [if_neg (by decide)]); try (rw [if_neg (by decide)]); try (rw [if_pos rfl]); all_goals rfl)⟩, by rw [ht]; exact hP9, va_K.moved hW.alike hK9, hD9⟩, hS.F ht⟩) hS.2.2 d_T_flip_109
    · --  2
      refine lv_iconst (v := 1) hx hb d_T_flip_28 (by decide) ?_
      refine lv_iload hx hb d_T_flip_29 (lv_at hl 4 rfl) ?_
      refine lv_ishl hx hb d_T_flip_31 ?_
      refine lv_istore hx hb d_T_flip_32 hl (by decide) rfl (fun ls hl => ?_)
      replace hl : lv_has ls 6 [(5, .int ((1 : Int32) <<< (u &&& 31))), (0, .ref h0), (1, .int 2), (2, .int 2), (3, .int 0), (4, .int u)] := hl
      refine lv_iload_n hx hb d_T_flip_34 rfl (lv_at hl 3 rfl) ?_
      refine lv_if_ne (tgt := 57) hx hb d_T_flip_35 rfl (fun hc24 => ?_) (fun hc24 => by first | exact absurd (by decide) hc24 | exact absurd hc24 (by decide))
      refine lv_iload_n hx hb d_T_flip_57 rfl (lv_at hl 3 rfl) ?_
      refine lv_iconst (v := 1) hx hb d_T_flip_58 (by decide) ?_
      refine lv_icmp_ne (tgt := 81) hx hb d_T_flip_59 rfl (fun hc25 => ?_) (fun hc25 => by first | exact absurd (by decide) hc25 | exact absurd hc25 (by decide))
      refine lv_aload_n hx hb d_T_flip_81 rfl (lv_at hl 1 rfl) ?_
      refine va_get (D := (dC, dI)) (ci := 0) (v := .ref a9) (C := "VotedTriple") (T := F_T) (N := 11) hx hb hw in_T hown hK hP 0 rfl rfl 1 (by decide) (hw _ k_195) (fun _ h9 => h9) rfl d_T_flip_82 ?_
      refine lv_iload_n hx hb d_T_flip_85 rfl (lv_at hl 2 rfl) ?_
      refine va_aldq hx hb hK hP 1 0 rfl rfl (by unfold vp_in; decide) d_T_flip_86 ?_
      refine W.eq (g2 := F0 m 87 ls [.ref (da 2)]) rfl ?_
      refine lv_aload_n hx hb d_T_flip_87 rfl (lv_at hl 1 rfl) ?_
      refine va_get (D := (dC, dI)) (ci := 0) (v := .ref p9) (C := "VotedTriple") (T := F_T) (N := 11) hx hb hw in_T hown hK hP 0 rfl rfl 0 (by decide) (hw _ k_194) (fun _ h9 => h9) rfl d_T_flip_88 ?_
      refine lv_aload_n hx hb d_T_flip_91 rfl (lv_at hl 1 rfl) ?_
      refine va_get (D := (dC, dI)) (ci := 0) (v := .ref a9) (C := "VotedTriple") (T := F_T) (N := 11) hx hb hw in_T hown hK hP 0 rfl rfl 1 (by decide) (hw _ k_195) (fun _ h9 => h9) rfl d_T_flip_92 ?_
      refine lv_iload_n hx hb d_T_flip_95 rfl (lv_at hl 2 rfl) ?_
      refine va_aldq hx hb hK hP 1 0 rfl rfl (by unfold vp_in; decide) d_T_flip_96 ?_
      refine W.eq (g2 := F0 m 97 ls [.ref (da 2), .ref p9, .ref (da 2)]) rfl ?_
      refine va_get (D := (dC, dI)) (ci := 2) (v := .int (F 2 1)) (C := "VotedTriple$VotedModule") (T := F_D) (N := 19) hx hb hw in_D hown hK hP 8 rfl rfl 1 (by decide) (hw _ k_77) (fun x9 h9 => u_same (hw _ k_76) x9 h9) rfl d_T_flip_97 ?_
      refine lv_iload hx hb d_T_flip_100 (lv_at hl 0 rfl) ?_
      refine lv_ixor hx hb d_T_flip_102 ?_
      replace hPc := hP.sub (ws' := [(p9, .inr (1, [.ref q9, .int (nI cn)]))]) [11] rfl
      replace hKc := hK.sub (tys' := []) [] rfl
      refine vp_callSi (va_runV (C := "VotedTriple$Program") (As := [.int ((F 2 1) ^^^ ((1 : Int32) <<< (u &&& 31)))]) (rest := [.ref (da 2)]) ⟨hx, hb, hml, hown, hw⟩ (c_P_wrap l dC dI p9 q9 cn ((F 2 1) ^^^ ((1 : Int32) <<< (u &&& 31))) hc.1 (cnt_xor hF.2.2.1 hu9)) (cwV 1 hw (gdV (k_501) (k_717) (k_499) (k_500) (k_2)) rfl rfl rfl (by decide +kernel) ⟨Nat.le_of_ble_eq_true rfl, Nat.le_of_ble_eq_true rfl⟩) ⟨fun a U g mk q => ⟨q.1, q.2.1, va_K.moved (u := U) (U := U.calling g mk a) (Vm.Alike.refl U.vm) q.2.2⟩, va_recv hK hP rfl (q0 := 11) rfl, fun U hU hW => ⟨rfl, by rw [hU]; exact hPc, va_K.moved hW.alike hKc⟩⟩ rfl rfl hl.1 rfl (lv_room (Nat.le_of_ble_eq_true rfl)) d_T_flip_103 ⟨Nat.le_of_ble_eq_true rfl, Nat.le_of_ble_eq_true rfl⟩).run (fun r26 hr27 => ?_)
      obtain ⟨hr27, hr27E⟩ := hr27
      have pf9 := modF_1 hF.2.2 (cntI_w hc.1 hr27)
      refine va_put (D := (dC, dI)) (ci := 2) (v := .int r26) (ty := .int) (C := "VotedTriple$VotedModule") (T := F_D) (N := 19) hx hb hw in_D ft_D tyok_D nm_D hown hK hP hD hS 8 rfl rfl 1 (by decide) (hw _ k_77) (fun x9 h9 => u_same (hw _ k_76) x9 h9) rfl (by decide +kernel) rfl rfl (Nat.le_of_ble_eq_true rfl) d_T_flip_106 (fun H locs hP hD hS => ?_)
      replace hP : va_P (dC, dI) classes [(h0, .inr (0, oT uT p9 a9 e9 n9 o9)), (a9, .inl (ca, 3, .inr (.inr (.inr (.inr (mo da)))))), (da 0, .inr (2, oD (F 0) (ra 0) (ka 0))), (ra 0, .inl (cr 0, 8, .inl (g 0))), (ka 0, .inl (ck 0, 32, .inl (v 0))), (da 1, .inr (2, oD (F 1) (ra 1) (ka 1))), (ra 1, .inl (cr 1, 8, .inl (g 1))), (ka 1, .inl (ck 1, 32, .inl (v 1))), (da 2, .inr (2, [.ref (ra 2), .int r26, .int (F 2 2), .int (F 2 3), .int (F 2 4), .int (F 2 5), .int (F 2 6), .ref (ka 2), .int (F 2 8), .int (F 2 9), .int (F 2 10), .int (F 2 11), .int (F 2 12), .int (F 2 13), .int (F 2 14), .int (F 2 15), .int (F 2 16), .int (F 2 17), .int (F 2 18)])), (ra 2, .inl (cr 2, 8, .inl (g 2))), (ka 2, .inl (ck 2, 32, .inl (v 2))), (p9, .inr (1, [.ref q9, .int (nI cn)])), (q9, .inl (cp, 64, .inl f))] H := hP
      replace hD : va_D A [(h0, .inr (0, oT uT p9 a9 e9 n9 o9)), (a9, .inl (ca, 3, .inr (.inr (.inr (.inr (mo da)))))), (da 0, .inr (2, oD (F 0) (ra 0) (ka 0))), (ra 0, .inl (cr 0, 8, .inl (g 0))), (ka 0, .inl (ck 0, 32, .inl (v 0))), (da 1, .inr (2, oD (F 1) (ra 1) (ka 1))), (ra 1, .inl (cr 1, 8, .inl (g 1))), (ka 1, .inl (ck 1, 32, .inl (v 1))), (da 2, .inr (2, [.ref (ra 2), .int r26, .int (F 2 2), .int (F 2 3), .int (F 2 4), .int (F 2 5), .int (F 2 6), .ref (ka 2), .int (F 2 8), .int (F 2 9), .int (F 2 10), .int (F 2 11), .int (F 2 12), .int (F 2 13), .int (F 2 14), .int (F 2 15), .int (F 2 16), .int (F 2 17), .int (F 2 18)])), (ra 2, .inl (cr 2, 8, .inl (g 2))), (ka 2, .inl (ck 2, 32, .inl (v 2))), (p9, .inr (1, [.ref q9, .int (nI cn)])), (q9, .inl (cp, 64, .inl f))] := hD
      have hP9 := hP.sub (ws' := [(h0, .inr (0, oT uT p9 a9 e9 n9 o9)), (a9, .inl (ca, 3, .inr (.inr (.inr (.inr (mo da)))))), (da 0, .inr (2, oD (tri (F 0) (F 1) (upc (F 2) 1 r26) 0) (ra 0) (ka 0))), (ra 0, .inl (cr 0, 8, .inl (g 0))), (ka 0, .inl (ck 0, 32, .inl (v 0))), (da 1, .inr (2, oD (tri (F 0) (F 1) (upc (F 2) 1 r26) 1) (ra 1) (ka 1))), (ra 1, .inl (cr 1, 8, .inl (g 1))), (ka 1, .inl (ck 1, 32, .inl (v 1))), (da 2, .inr (2, oD (tri (F 0) (F 1) (upc (F 2) 1 r26) 2) (ra 2) (ka 2))), (ra 2, .inl (cr 2, 8, .inl (g 2))), (ka 2, .inl (ck 2, 32, .inl (v 2))), (p9, .inr (1, [.ref q9, .int (nI cn)])), (q9, .inl (cp, 64, .inl f))]) [0, 1, 2, 3, 4, 5, 6, 7, 8, 9, 10, 11, 12] rfl
      have hD9 := hD.sub (ws' := [(h0, .inr (0, oT uT p9 a9 e9 n9 o9)), (a9, .inl (ca, 3, .inr (.inr (.inr (.inr (mo da)))))), (da 0, .inr (2, oD (tri (F 0) (F 1) (upc (F 2) 1 r26) 0) (ra 0) (ka 0))), (ra 0, .inl (cr 0, 8, .inl (g 0))), (ka 0, .inl (ck 0, 32, .inl (v 0))), (da 1, .inr (2, oD (tri (F 0) (F 1) (upc (F 2) 1 r26) 1) (ra 1) (ka 1))), (ra 1, .inl (cr 1, 8, .inl (g 1))), (ka 1, .inl (ck 1, 32, .inl (v 1))), (da 2, .inr (2, oD (tri (F 0) (F 1) (upc (F 2) 1 r26) 2) (ra 2) (ka 2))), (ra 2, .inl (cr 2, 8, .inl (g 2))), (ka 2, .inl (ck 2, 32, .inl (v 2))), (p9, .inr (1, [.ref q9, .int (nI cn)])), (q9, .inl (cp, 64, .inl f))]) [0, 1, 2, 3, 4, 5, 6, 7, 8, 9, 10, 11, 12] (by decide) rfl
      have hK9 := hK.sub (tys' := [(ca, .object "VotedTriple$VotedModule"), (cr 0, .int), (ck 0, .int), (cr 1, .int), (ck 1, .int), (cr 2, .int), (ck 2, .int), (cp, .int)]) [0, 1, 2, 3, 4, 5, 6, 7] rfl
      refine W.widen (k := 0) (n := 0) (Nat.le_of_ble_eq_true rfl) (Nat.le_of_ble_eq_true rfl) ?_
      exact W.vret hx hb hr (fun t ht hW => ⟨⟨(tri (F 0) (F 1) (upc (F 2) 1 r26), g, v), rfl, ⟨⟨⟨hF.1, hF.2.1, pf9⟩, hg⟩, (by rw [← hSP, s_T_flip]; try (rw [if_neg (by decide)]); try (rw [if_neg (by decide)]); try (rw [if_neg (by decide)]); try (rw [if_neg (by decide)]); try (rw [← hr27E, bnd_eq]); all_goals rfl)⟩, by rw [ht]; exact hP9, va_K.moved hW.alike hK9, hD9⟩, hS.F ht⟩) hS.2.2 d_T_flip_109
