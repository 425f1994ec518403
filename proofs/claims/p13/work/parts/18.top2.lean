set_option maxHeartbeats 4000000 in
set_option maxRecDepth 100000 in
theorem c_T_nameAllUnlike (l : Launch) (dC : Nat → ClassId) (dI : Nat → Nat → Nat) (h0 : Nat) (p9 : Nat) (a9 : Nat) (e9 : Nat) (n9 : Nat) (o9 : Nat) (ca : ClassId) (da : Nat → Nat) (ra : Nat → Nat) (ka : Nat → Nat) (uT : Nat → Int32) (F : Nat → Nat → Int32) (x : Int32) (hF : f3 F) (sz : Nat) : Met l y_T_nameAllUnlike (tbw y_T_nameAllUnlike b_T_nameAllUnlike 3 none) ({ frames := 1, cells := 0, slots := 0, locals := 20 }) (va_Pc [.ref h0, .int x] (fun U => U.heap.size = sz ∧ va_P (dC, dI) classes [(h0, .inr (0, oT uT p9 a9 e9 n9 o9)), (a9, .inl (ca, 3, .inr (.inr (.inr (.inr (mo da)))))), (da 0, .inr (2, oD (F 0) (ra 0) (ka 0))), (da 1, .inr (2, oD (F 1) (ra 1) (ka 1))), (da 2, .inr (2, oD (F 2) (ra 2) (ka 2)))] U.heap ∧ va_K (dC, dI) classes [(ca, .object "VotedTriple$VotedModule")] U ∧ va_D (fun _ => True) [(h0, .inr (0, oT uT p9 a9 e9 n9 o9)), (a9, .inl (ca, 3, .inr (.inr (.inr (.inr (mo da)))))), (da 0, .inr (2, oD (F 0) (ra 0) (ka 0))), (da 1, .inr (2, oD (F 1) (ra 1) (ka 1))), (da 2, .inr (2, oD (F 2) (ra 2) (ka 2)))])) (va_Qv (fun (u9 : (Nat → Nat → Int32)) => match u9 with | F2 => (f3 F2) ∧ (F2) = s_T_nameAllUnlike F x) (fun (u9 : (Nat → Nat → Int32)) t => match u9 with | F2 => va_P (dC, dI) classes [(h0, .inr (0, oT uT p9 a9 e9 n9 o9)), (a9, .inl (ca, 3, .inr (.inr (.inr (.inr (mo da)))))), (da 0, .inr (2, oD (F2 0) (ra 0) (ka 0))), (da 1, .inr (2, oD (F2 1) (ra 1) (ka 1))), (da 2, .inr (2, oD (F2 2) (ra 2) (ka 2)))] t.heap ∧ va_K (dC, dI) classes [(ca, .object "VotedTriple$VotedModule")] t ∧ va_D (va_A [(h0, .inr (0, oT uT p9 a9 e9 n9 o9)), (a9, .inl (ca, 3, .inr (.inr (.inr (.inr (mo da)))))), (da 0, .inr (2, oD (F 0) (ra 0) (ka 0))), (da 1, .inr (2, oD (F 1) (ra 1) (ka 1))), (da 2, .inr (2, oD (F 2) (ra 2) (ka 2)))] sz) [(h0, .inr (0, oT uT p9 a9 e9 n9 o9)), (a9, .inl (ca, 3, .inr (.inr (.inr (.inr (mo da)))))), (da 0, .inr (2, oD (F2 0) (ra 0) (ka 0))), (da 1, .inr (2, oD (F2 1) (ra 1) (ka 1))), (da 2, .inr (2, oD (F2 2) (ra 2) (ka 2)))]) (va_A [(h0, .inr (0, oT uT p9 a9 e9 n9 o9)), (a9, .inl (ca, 3, .inr (.inr (.inr (.inr (mo da)))))), (da 0, .inr (2, oD (F 0) (ra 0) (ka 0))), (da 1, .inr (2, oD (F 1) (ra 1) (ka 1))), (da 2, .inr (2, oD (F 2) (ra 2) (ka 2)))] sz)) 0 0 (va_A [(h0, .inr (0, oT uT p9 a9 e9 n9 o9)), (a9, .inl (ca, 3, .inr (.inr (.inr (.inr (mo da)))))), (da 0, .inr (2, oD (F 0) (ra 0) (ka 0))), (da 1, .inr (2, oD (F 1) (ra 1) (ka 1))), (da 2, .inr (2, oD (F 2) (ra 2) (ka 2)))] sz) := by
  refine Met.ofW (cc := b_T_nameAllUnlike) (maxL := 3) (ret := none) (by decide) rfl ?_
  intro p e s m args below meth c s₁ B hml hv
  obtain ⟨rfl, hsz, hP, hK, hD0⟩ := hv
  have hx := B.exec
  have hb := B.bytes
  have hr := B.returns
  have hts := atoms_spec (ws := (tbw y_T_nameAllUnlike b_T_nameAllUnlike 3 none)) B.pre
  have hw : ∀ z9 ∈ tb, z9.before ([.ref h0, .int x] : List Value).toArray s = true := fun z9 h => hts z9 (List.mem_cons_of_mem _ h)
  have hown : s.vm.findClass "VotedTriple" = some m.cls := findClass_of_methodNamed B.named
  have hlocks := B.notSynchronized
  subst hsz
  replace hD := hD0.self (sz := s.heap.size)
  generalize hAe : va_A [(h0, .inr (0, oT uT p9 a9 e9 n9 o9)), (a9, .inl (ca, 3, .inr (.inr (.inr (.inr (mo da)))))), (da 0, .inr (2, oD (F 0) (ra 0) (ka 0))), (da 1, .inr (2, oD (F 1) (ra 1) (ka 1))), (da 2, .inr (2, oD (F 2) (ra 2) (ka 2)))] s.heap.size = A at hD ⊢
  have hA : ∀ q : Nat, s.heap.size ≤ q → A q := fun q h => by rw [← hAe]; exact Or.inr h
  have hS : va_S A s.heap s.heap [] := va_S.rf
  replace hl := lv_entry ([.ref h0, .int x]) (n := 3) (Nat.le_of_ble_eq_true rfl)
  rw [lg_entry_eq]
  generalize (lg_sl ([.ref h0, .int x]) ++ List.replicate (3 - (lg_sl ([.ref h0, .int x])).length) Slot.unset).toArray = ls at hl ⊢
  replace hl : lv_has ls 3 [(0, .ref h0), (1, .int x)] := hl
  generalize hSP : s_T_nameAllUnlike F x = SP
  have cut2_3 : ∀ (F : Nat → Nat → Int32) (ls : Array Slot) (H : Heap) (locs : List Loc), f3 F → SP = s_T_nameAllUnlike_cut2_3 F →  lv_has ls 3 [(0, .ref h0), (1, .int x), (2, .int 3)] → va_P (dC, dI) classes [(h0, .inr (0, oT uT p9 a9 e9 n9 o9)), (a9, .inl (ca, 3, .inr (.inr (.inr (.inr (mo da)))))), (da 0, .inr (2, oD (F 0) (ra 0) (ka 0))), (da 1, .inr (2, oD (F 1) (ra 1) (ka 1))), (da 2, .inr (2, oD (F 2) (ra 2) (ka 2)))] H → va_D A [(h0, .inr (0, oT uT p9 a9 e9 n9 o9)), (a9, .inl (ca, 3, .inr (.inr (.inr (.inr (mo da)))))), (da 0, .inr (2, oD (F 0) (ra 0) (ka 0))), (da 1, .inr (2, oD (F 1) (ra 1) (ka 1))), (da 2, .inr (2, oD (F 2) (ra 2) (ka 2)))] → va_S A s.heap H locs → W p l e (headSpec (tbw y_T_nameAllUnlike b_T_nameAllUnlike 3 none) ({ frames := 1, cells := 0, slots := 0, locals := 20 })).room s m ([.ref h0, .int x] : List Value).toArray below meth c H locs 0 0 (MQ below (va_Qv (fun (u9 : (Nat → Nat → Int32)) => match u9 with | F2 => (f3 F2) ∧ (F2) = SP) (fun (u9 : (Nat → Nat → Int32)) t => match u9 with | F2 => va_P (dC, dI) classes [(h0, .inr (0, oT uT p9 a9 e9 n9 o9)), (a9, .inl (ca, 3, .inr (.inr (.inr (.inr (mo da)))))), (da 0, .inr (2, oD (F2 0) (ra 0) (ka 0))), (da 1, .inr (2, oD (F2 1) (ra 1) (ka 1))), (da 2, .inr (2, oD (F2 2) (ra 2) (ka 2)))] t.heap ∧ va_K (dC, dI) classes [(ca, .object "VotedTriple$VotedModule")] t ∧ va_D A [(h0, .inr (0, oT uT p9 a9 e9 n9 o9)), (a9, .inl (ca, 3, .inr (.inr (.inr (.inr (mo da)))))), (da 0, .inr (2, oD (F2 0) (ra 0) (ka 0))), (da 1, .inr (2, oD (F2 1) (ra 1) (ka 1))), (da 2, .inr (2, oD (F2 2) (ra 2) (ka 2)))]) A) ([.ref h0, .int x] : List Value).toArray s 0 0 A) (F0 m 2 ls []) := by
    intro F ls H locs hF hSq0 hl hP hD hS
    refine lv_iload_n hx hb d_T_nameAllUnlike_2 rfl (lv_at hl 2 rfl) ?_
    refine lv_iconst (v := 3) hx hb d_T_nameAllUnlike_3 (by decide) ?_
    refine lv_icmp_ge (tgt := 47) hx hb d_T_nameAllUnlike_4 rfl (fun hc1 => ?_) (fun hc1 => by first | exact absurd (by decide) hc1 | exact absurd hc1 (by decide))
    have hP9 := hP.sub (ws' := [(h0, .inr (0, oT uT p9 a9 e9 n9 o9)), (a9, .inl (ca, 3, .inr (.inr (.inr (.inr (mo da)))))), (da 0, .inr (2, oD (F 0) (ra 0) (ka 0))), (da 1, .inr (2, oD (F 1) (ra 1) (ka 1))), (da 2, .inr (2, oD (F 2) (ra 2) (ka 2)))]) [0, 1, 2, 3, 4] rfl
    have hD9 := hD.sub (ws' := [(h0, .inr (0, oT uT p9 a9 e9 n9 o9)), (a9, .inl (ca, 3, .inr (.inr (.inr (.inr (mo da)))))), (da 0, .inr (2, oD (F 0) (ra 0) (ka 0))), (da 1, .inr (2, oD (F 1) (ra 1) (ka 1))), (da 2, .inr (2, oD (F 2) (ra 2) (ka 2)))]) [0, 1, 2, 3, 4] (by decide) rfl
    have hK9 := hK.sub (tys' := [(ca, .object "VotedTriple$VotedModule")]) [0] rfl
    refine W.widen (k := 0) (n := 0) (Nat.le_of_ble_eq_true rfl) (Nat.le_of_ble_eq_true rfl) ?_
    exact W.vret hx hb hr (fun t ht hW => ⟨⟨(F), rfl, ⟨hF, (by rw [hSq0, s_T_nameAllUnlike_cut2_3]; all_goals rfl)⟩, by rw [ht]; exact hP9, va_K.moved hW.alike hK9, hD9⟩, hS.F ht⟩) hS.2.2 d_T_nameAllUnlike_47
  have cut2_2 : ∀ (F : Nat → Nat → Int32) (ls : Array Slot) (H : Heap) (locs : List Loc), f3 F → SP = s_T_nameAllUnlike_cut2_2 x F →  lv_has ls 3 [(0, .ref h0), (1, .int x), (2, .int 2)] → va_P (dC, dI) classes [(h0, .inr (0, oT uT p9 a9 e9 n9 o9)), (a9, .inl (ca, 3, .inr (.inr (.inr (.inr (mo da)))))), (da 0, .inr (2, oD (F 0) (ra 0) (ka 0))), (da 1, .inr (2, oD (F 1) (ra 1) (ka 1))), (da 2, .inr (2, oD (F 2) (ra 2) (ka 2)))] H → va_D A [(h0, .inr (0, oT uT p9 a9 e9 n9 o9)), (a9, .inl (ca, 3, .inr (.inr (.inr (.inr (mo da)))))), (da 0, .inr (2, oD (F 0) (ra 0) (ka 0))), (da 1, .inr (2, oD (F 1) (ra 1) (ka 1))), (da 2, .inr (2, oD (F 2) (ra 2) (ka 2)))] → va_S A s.heap H locs → W p l e (headSpec (tbw y_T_nameAllUnlike b_T_nameAllUnlike 3 none) ({ frames := 1, cells := 0, slots := 0, locals := 20 })).room s m ([.ref h0, .int x] : List Value).toArray below meth c H locs 0 0 (MQ below (va_Qv (fun (u9 : (Nat → Nat → Int32)) => match u9 with | F2 => (f3 F2) ∧ (F2) = SP) (fun (u9 : (Nat → Nat → Int32)) t => match u9 with | F2 => va_P (dC, dI) classes [(h0, .inr (0, oT uT p9 a9 e9 n9 o9)), (a9, .inl (ca, 3, .inr (.inr (.inr (.inr (mo da)))))), (da 0, .inr (2, oD (F2 0) (ra 0) (ka 0))), (da 1, .inr (2, oD (F2 1) (ra 1) (ka 1))), (da 2, .inr (2, oD (F2 2) (ra 2) (ka 2)))] t.heap ∧ va_K (dC, dI) classes [(ca, .object "VotedTriple$VotedModule")] t ∧ va_D A [(h0, .inr (0, oT uT p9 a9 e9 n9 o9)), (a9, .inl (ca, 3, .inr (.inr (.inr (.inr (mo da)))))), (da 0, .inr (2, oD (F2 0) (ra 0) (ka 0))), (da 1, .inr (2, oD (F2 1) (ra 1) (ka 1))), (da 2, .inr (2, oD (F2 2) (ra 2) (ka 2)))]) A) ([.ref h0, .int x] : List Value).toArray s 0 0 A) (F0 m 2 ls []) := by
    intro F ls H locs hF hSq0 hl hP hD hS
    refine lv_iload_n hx hb d_T_nameAllUnlike_2 rfl (lv_at hl 2 rfl) ?_
    refine lv_iconst (v := 3) hx hb d_T_nameAllUnlike_3 (by decide) ?_
    refine lv_icmp_ge (tgt := 47) hx hb d_T_nameAllUnlike_4 rfl (fun hc2 => by first | exact absurd hc2 (by decide) | exact absurd (by decide) hc2) (fun hc2 => ?_)
    refine lv_aload_n hx hb d_T_nameAllUnlike_7 rfl (lv_at hl 0 rfl) ?_
    refine va_get (D := (dC, dI)) (ci := 0) (v := .ref a9) (C := "VotedTriple") (T := F_T) (N := 11) hx hb hw in_T hown hK hP 0 rfl rfl 1 (by decide) (hw _ k_195) (fun _ h9 => h9) rfl d_T_nameAllUnlike_8 ?_
    refine lv_iload_n hx hb d_T_nameAllUnlike_11 rfl (lv_at hl 2 rfl) ?_
    refine va_aldq hx hb hK hP 1 0 rfl rfl (by unfold vp_in; decide) d_T_nameAllUnlike_12 ?_
    refine W.eq (g2 := F0 m 13 ls [.ref (da 2)]) rfl ?_
    replace hPc := hP.sub (ws' := [(da 2, .inr (2, oD (F 2) (ra 2) (ka 2)))]) [4] rfl
    replace hKc := hK.sub (tys' := []) [] rfl
    refine vp_callSi (va_runV (C := "VotedTriple$VotedModule") (As := []) (rest := []) ⟨hx, hb, hml, hown, hw⟩ (c_D_isTrusted l dC dI (da 2) (ra 2) (ka 2) (F 2)) (cwV 0 hw (gdV (k_583) (k_580) (k_581) (k_582) (k_7)) rfl rfl rfl (by decide +kernel) ⟨Nat.le_of_ble_eq_true rfl, Nat.le_of_ble_eq_true rfl⟩) ⟨fun a U g mk q => ⟨q.1, q.2.1, va_K.moved (u := U) (U := U.calling g mk a) (Vm.Alike.refl U.vm) q.2.2⟩, va_recv hK hP rfl (q0 := 4) rfl, fun U hU hW => ⟨rfl, by rw [hU]; exact hPc, va_K.moved hW.alike hKc⟩⟩ rfl rfl hl.1 rfl (lv_room (Nat.le_of_ble_eq_true rfl)) d_T_nameAllUnlike_13 ⟨Nat.le_of_ble_eq_true rfl, Nat.le_of_ble_eq_true rfl⟩).run (fun r3 hr4 => ?_)
    subst hr4
    refine lv_if_eq (tgt := 41) hx hb d_T_nameAllUnlike_16 rfl (fun hc5 => ?_) (fun hc5 => ?_)
    · --  (bI (trB (F 2))) = 0
      refine lv_iinc (k := 2) (v := 3) hx hb d_T_nameAllUnlike_41 hl rfl rfl (by decide) rfl (fun ls hl => ?_)
      replace hl : lv_has ls 3 [(2, .int 3), (0, .ref h0), (1, .int x)] := hl
      refine lv_goto (tgt := 2) hx hb d_T_nameAllUnlike_44 rfl ?_
      have hSq : SP = s_T_nameAllUnlike_cut2_3 F := by rw [hSq0, s_T_nameAllUnlike_cut2_2]; try (rw [if_pos hc5]); all_goals rfl
      replace hl := lv_sub hl (l' := [(0, .ref h0), (1, .int x), (2, .int 3)]) [1, 2, 0] rfl
      replace hP := hP.sub (ws' := [(h0, .inr (0, oT uT p9 a9 e9 n9 o9)), (a9, .inl (ca, 3, .inr (.inr (.inr (.inr (mo da)))))), (da 0, .inr (2, oD (F 0) (ra 0) (ka 0))), (da 1, .inr (2, oD (F 1) (ra 1) (ka 1))), (da 2, .inr (2, oD (F 2) (ra 2) (ka 2)))]) [0, 1, 2, 3, 4] rfl
      replace hD := hD.sub (ws' := [(h0, .inr (0, oT uT p9 a9 e9 n9 o9)), (a9, .inl (ca, 3, .inr (.inr (.inr (.inr (mo da)))))), (da 0, .inr (2, oD (F 0) (ra 0) (ka 0))), (da 1, .inr (2, oD (F 1) (ra 1) (ka 1))), (da 2, .inr (2, oD (F 2) (ra 2) (ka 2)))]) [0, 1, 2, 3, 4] (by decide) rfl
      exact cut2_3 F _ _ _ hF hSq hl hP hD hS
    · --  ¬ (bI (trB (F 2))) = 0
      refine lv_aload_n hx hb d_T_nameAllUnlike_19 rfl (lv_at hl 0 rfl) ?_
      refine va_get (D := (dC, dI)) (ci := 0) (v := .ref a9) (C := "VotedTriple") (T := F_T) (N := 11) hx hb hw in_T hown hK hP 0 rfl rfl 1 (by decide) (hw _ k_195) (fun _ h9 => h9) rfl d_T_nameAllUnlike_20 ?_
      refine lv_iload_n hx hb d_T_nameAllUnlike_23 rfl (lv_at hl 2 rfl) ?_
      refine va_aldq hx hb hK hP 1 0 rfl rfl (by unfold vp_in; decide) d_T_nameAllUnlike_24 ?_
      refine W.eq (g2 := F0 m 25 ls [.ref (da 2)]) rfl ?_
      refine va_get (D := (dC, dI)) (ci := 2) (v := .int (F 2 18)) (C := "VotedTriple$VotedModule") (T := F_D) (N := 19) hx hb hw in_D hown hK hP 4 rfl rfl 18 (by decide) (hw _ k_161) (fun _ h9 => h9) rfl d_T_nameAllUnlike_25 ?_
      refine lv_iload_n hx hb d_T_nameAllUnlike_28 rfl (lv_at hl 1 rfl) ?_
      refine lv_icmp_eq (tgt := 41) hx hb d_T_nameAllUnlike_29 rfl (fun hc6 => ?_) (fun hc6 => ?_)
      · --  (F 2 18) = x
        refine lv_iinc (k := 2) (v := 3) hx hb d_T_nameAllUnlike_41 hl rfl rfl (by decide) rfl (fun ls hl => ?_)
        replace hl : lv_has ls 3 [(2, .int 3), (0, .ref h0), (1, .int x)] := hl
        refine lv_goto (tgt := 2) hx hb d_T_nameAllUnlike_44 rfl ?_
        have hSq : SP = s_T_nameAllUnlike_cut2_3 F := by rw [hSq0, s_T_nameAllUnlike_cut2_2]; try (rw [if_neg hc5]); try (rw [if_pos hc6]); all_goals rfl
        replace hl := lv_sub hl (l' := [(0, .ref h0), (1, .int x), (2, .int 3)]) [1, 2, 0] rfl
        replace hP := hP.sub (ws' := [(h0, .inr (0, oT uT p9 a9 e9 n9 o9)), (a9, .inl (ca, 3, .inr (.inr (.inr (.inr (mo da)))))), (da 0, .inr (2, oD (F 0) (ra 0) (ka 0))), (da 1, .inr (2, oD (F 1) (ra 1) (ka 1))), (da 2, .inr (2, oD (F 2) (ra 2) (ka 2)))]) [0, 1, 2, 3, 4] rfl
        replace hD := hD.sub (ws' := [(h0, .inr (0, oT uT p9 a9 e9 n9 o9)), (a9, .inl (ca, 3, .inr (.inr (.inr (.inr (mo da)))))), (da 0, .inr (2, oD (F 0) (ra 0) (ka 0))), (da 1, .inr (2, oD (F 1) (ra 1) (ka 1))), (da 2, .inr (2, oD (F 2) (ra 2) (ka 2)))]) [0, 1, 2, 3, 4] (by decide) rfl
        exact cut2_3 F _ _ _ hF hSq hl hP hD hS
      · --  ¬ (F 2 18) = x
        refine lv_aload_n hx hb d_T_nameAllUnlike_32 rfl (lv_at hl 0 rfl) ?_
        refine va_get (D := (dC, dI)) (ci := 0) (v := .ref a9) (C := "VotedTriple") (T := F_T) (N := 11) hx hb hw in_T hown hK hP 0 rfl rfl 1 (by decide) (hw _ k_195) (fun _ h9 => h9) rfl d_T_nameAllUnlike_33 ?_
        refine lv_iload_n hx hb d_T_nameAllUnlike_36 rfl (lv_at hl 2 rfl) ?_
        refine va_aldq hx hb hK hP 1 0 rfl rfl (by unfold vp_in; decide) d_T_nameAllUnlike_37 ?_
        refine W.eq (g2 := F0 m 38 ls [.ref (da 2)]) rfl ?_
        replace hPc := hP.sub (ws' := [(da 2, .inr (2, oD (F 2) (ra 2) (ka 2)))]) [4] rfl
        replace hKc := hK.sub (tys' := []) [] rfl
        replace hDc := hD.sub (ws' := [(da 2, .inr (2, oD (F 2) (ra 2) (ka 2)))]) [4] (by decide) rfl
        replace hFc := va_free (wc := [(da 2, .inr (2, oD (F 2) (ra 2) (ka 2)))]) hD hS hA [4] rfl
        refine va_callv (va_runV (C := "VotedTriple$VotedModule") (As := []) (rest := []) ⟨hx, hb, hml, hown, hw⟩ (c_D_blameLater l dC dI (da 2) (ra 2) (ka 2) (F 2) hF.2.2 H.size) (cwV 0 hw (gdV (k_611) (k_608) (k_609) (k_610) (k_7)) rfl rfl rfl (by decide +kernel) ⟨Nat.le_of_ble_eq_true rfl, Nat.le_of_ble_eq_true rfl⟩) ⟨fun a U g mk q => by obtain ⟨q0, q1, qP, qK, qD⟩ := q; exact ⟨q0, q1, qP, va_K.moved (u := U) (U := U.calling g mk a) (Vm.Alike.refl U.vm) qK, qD⟩, va_recv hK hP rfl (q0 := 4) rfl, fun U hU hW => ⟨rfl, by rw [hU], by rw [hU]; exact hPc, va_K.moved hW.alike hKc, hDc.weaken (fun _ _ _ _ => trivial)⟩⟩ rfl rfl hl.1 rfl (lv_room (Nat.le_of_ble_eq_true rfl)) d_T_nameAllUnlike_38 ⟨Nat.le_of_ble_eq_true rfl, Nat.le_of_ble_eq_true rfl⟩) hS (fun q _ h => hFc q h) hFc (fun u9 t H1 locs ht hvm hr8 hB hz1 hk1 hS => ?_)
        obtain ⟨F29, rfl⟩ : ∃ z, z = u9 := ⟨_, rfl⟩
        obtain ⟨hP1, hK1, hD1⟩ := hB
        rw [ht] at hP1
        replace hK1 := va_K.moved hvm.symm hK1
        try dsimp only at hr8 hP1 hK1 hD1
        obtain ⟨hr8, hr8E⟩ := hr8
        obtain ⟨hPz, hDz⟩ := va_join (wr := [(h0, .inr (0, oT uT p9 a9 e9 n9 o9)), (a9, .inl (ca, 3, .inr (.inr (.inr (.inr (mo da)))))), (da 0, .inr (2, oD (F 0) (ra 0) (ka 0))), (da 1, .inr (2, oD (F 1) (ra 1) (ka 1)))]) (w1 := [(da 2, .inr (2, oD F29 (ra 2) (ka 2)))]) hP hD [4] [0, 1, 2, 3] rfl rfl (by decide) (by decide) hk1 hFc hP1 hD1
        clear hP hD hPc hDc hP1 hD1 hFc
        have hP := hPz
        have hD := hDz
        clear hPz hDz
        replace hK := (hK.sub (tys' := [(ca, .object "VotedTriple$VotedModule")]) [0] rfl).app hK1
        clear hK1 hKc
        generalize H1 = H at hP hS ⊢
        replace hP : va_P (dC, dI) classes [(h0, .inr (0, oT uT p9 a9 e9 n9 o9)), (a9, .inl (ca, 3, .inr (.inr (.inr (.inr (mo da)))))), (da 0, .inr (2, oD (F 0) (ra 0) (ka 0))), (da 1, .inr (2, oD (F 1) (ra 1) (ka 1))), (da 2, .inr (2, oD F29 (ra 2) (ka 2)))] H := hP
        replace hD : va_D A [(h0, .inr (0, oT uT p9 a9 e9 n9 o9)), (a9, .inl (ca, 3, .inr (.inr (.inr (.inr (mo da)))))), (da 0, .inr (2, oD (F 0) (ra 0) (ka 0))), (da 1, .inr (2, oD (F 1) (ra 1) (ka 1))), (da 2, .inr (2, oD F29 (ra 2) (ka 2)))] := hD
        replace hK : va_K (dC, dI) classes [(ca, .object "VotedTriple$VotedModule")] s := hK
        refine W.widen (k := 0) (n := 0) (Nat.le_of_ble_eq_true rfl) (Nat.le_of_ble_eq_true rfl) ?_
        refine lv_iinc (k := 2) (v := 3) hx hb d_T_nameAllUnlike_41 hl rfl rfl (by decide) rfl (fun ls hl => ?_)
        replace hl : lv_has ls 3 [(2, .int 3), (0, .ref h0), (1, .int x)] := hl
        refine lv_goto (tgt := 2) hx hb d_T_nameAllUnlike_44 rfl ?_
        have hSq : SP = s_T_nameAllUnlike_cut2_3 (tri (F 0) (F 1) F29) := by rw [hSq0, s_T_nameAllUnlike_cut2_2]; try (rw [if_neg hc5]); try (rw [if_neg hc6]); try (rw [← hr8E, bnd_eq]); all_goals rfl
        replace hl := lv_sub hl (l' := [(0, .ref h0), (1, .int x), (2, .int 3)]) [1, 2, 0] rfl
        replace hP := hP.sub (ws' := [(h0, .inr (0, oT uT p9 a9 e9 n9 o9)), (a9, .inl (ca, 3, .inr (.inr (.inr (.inr (mo da)))))), (da 0, .inr (2, oD (tri (F 0) (F 1) F29 0) (ra 0) (ka 0))), (da 1, .inr (2, oD (tri (F 0) (F 1) F29 1) (ra 1) (ka 1))), (da 2, .inr (2, oD (tri (F 0) (F 1) F29 2) (ra 2) (ka 2)))]) [0, 1, 2, 3, 4] rfl
        replace hD := hD.sub (ws' := [(h0, .inr (0, oT uT p9 a9 e9 n9 o9)), (a9, .inl (ca, 3, .inr (.inr (.inr (.inr (mo da)))))), (da 0, .inr (2, oD (tri (F 0) (F 1) F29 0) (ra 0) (ka 0))), (da 1, .inr (2, oD (tri (F 0) (F 1) F29 1) (ra 1) (ka 1))), (da 2, .inr (2, oD (tri (F 0) (F 1) F29 2) (ra 2) (ka 2)))]) [0, 1, 2, 3, 4] (by decide) rfl
        exact cut2_3 (tri (F 0) (F 1) F29) _ _ _ (⟨hF.1, hF.2.1, hr8⟩) hSq hl hP hD hS
  have cut2_1 : ∀ (F : Nat → Nat → Int32) (ls : Array Slot) (H : Heap) (locs : List Loc), f3 F → SP = s_T_nameAllUnlike_cut2_1 x F →  lv_has ls 3 [(0, .ref h0), (1, .int x), (2, .int 1)] → va_P (dC, dI) classes [(h0, .inr (0, oT uT p9 a9 e9 n9 o9)), (a9, .inl (ca, 3, .inr (.inr (.inr (.inr (mo da)))))), (da 0, .inr (2, oD (F 0) (ra 0) (ka 0))), (da 1, .inr (2, oD (F 1) (ra 1) (ka 1))), (da 2, .inr (2, oD (F 2) (ra 2) (ka 2)))] H → va_D A [(h0, .inr (0, oT uT p9 a9 e9 n9 o9)), (a9, .inl (ca, 3, .inr (.inr (.inr (.inr (mo da)))))), (da 0, .inr (2, oD (F 0) (ra 0) (ka 0))), (da 1, .inr (2, oD (F 1) (ra 1) (ka 1))), (da 2, .inr (2, oD (F 2) (ra 2) (ka 2)))] → va_S A s.heap H locs → W p l e (headSpec (tbw y_T_nameAllUnlike b_T_nameAllUnlike 3 none) ({ frames := 1, cells := 0, slots := 0, locals := 20 })).room s m ([.ref h0, .int x] : List Value).toArray below meth c H locs 0 0 (MQ below (va_Qv (fun (u9 : (Nat → Nat → Int32)) => match u9 with | F2 => (f3 F2) ∧ (F2) = SP) (fun (u9 : (Nat → Nat → Int32)) t => match u9 with | F2 => va_P (dC, dI) classes [(h0, .inr (0, oT uT p9 a9 e9 n9 o9)), (a9, .inl (ca, 3, .inr (.inr (.inr (.inr (mo da)))))), (da 0, .inr (2, oD (F2 0) (ra 0) (ka 0))), (da 1, .inr (2, oD (F2 1) (ra 1) (ka 1))), (da 2, .inr (2, oD (F2 2) (ra 2) (ka 2)))] t.heap ∧ va_K (dC, dI) classes [(ca, .object "VotedTriple$VotedModule")] t ∧ va_D A [(h0, .inr (0, oT uT p9 a9 e9 n9 o9)), (a9, .inl (ca, 3, .inr (.inr (.inr (.inr (mo da)))))), (da 0, .inr (2, oD (F2 0) (ra 0) (ka 0))), (da 1, .inr (2, oD (F2 1) (ra 1) (ka 1))), (da 2, .inr (2, oD (F2 2) (ra 2) (ka 2)))]) A) ([.ref h0, .int x] : List Value).toArray s 0 0 A) (F0 m 2 ls []) := by
    intro F ls H locs hF hSq0 hl hP hD hS
    clear cut2_3
    refine lv_iload_n hx hb d_T_nameAllUnlike_2 rfl (lv_at hl 2 rfl) ?_
    refine lv_iconst (v := 3) hx hb d_T_nameAllUnlike_3 (by decide) ?_
    refine lv_icmp_ge (tgt := 47) hx hb d_T_nameAllUnlike_4 rfl (fun hc10 => by first | exact absurd hc10 (by decide) | exact absurd (by decide) hc10) (fun hc10 => ?_)
    refine lv_aload_n hx hb d_T_nameAllUnlike_7 rfl (lv_at hl 0 rfl) ?_
    refine va_get (D := (dC, dI)) (ci := 0) (v := .ref a9) (C := "VotedTriple") (T := F_T) (N := 11) hx hb hw in_T hown hK hP 0 rfl rfl 1 (by decide) (hw _ k_195) (fun _ h9 => h9) rfl d_T_nameAllUnlike_8 ?_
    refine lv_iload_n hx hb d_T_nameAllUnlike_11 rfl (lv_at hl 2 rfl) ?_
    refine va_aldq hx hb hK hP 1 0 rfl rfl (by unfold vp_in; decide) d_T_nameAllUnlike_12 ?_
    refine W.eq (g2 := F0 m 13 ls [.ref (da 1)]) rfl ?_
    replace hPc := hP.sub (ws' := [(da 1, .inr (2, oD (F 1) (ra 1) (ka 1)))]) [3] rfl
    replace hKc := hK.sub (tys' := []) [] rfl
    refine vp_callSi (va_runV (C := "VotedTriple$VotedModule") (As := []) (rest := []) ⟨hx, hb, hml, hown, hw⟩ (c_D_isTrusted l dC dI (da 1) (ra 1) (ka 1) (F 1)) (cwV 0 hw (gdV (k_583) (k_580) (k_581) (k_582) (k_7)) rfl rfl rfl (by decide +kernel) ⟨Nat.le_of_ble_eq_true rfl, Nat.le_of_ble_eq_true rfl⟩) ⟨fun a U g mk q => ⟨q.1, q.2.1, va_K.moved (u := U) (U := U.calling g mk a) (Vm.Alike.refl U.vm) q.2.2⟩, va_recv hK hP rfl (q0 := 3) rfl, fun U hU hW => ⟨rfl, by rw [hU]; exact hPc, va_K.moved hW.alike hKc⟩⟩ rfl rfl hl.1 rfl (lv_room (Nat.le_of_ble_eq_true rfl)) d_T_nameAllUnlike_13 ⟨Nat.le_of_ble_eq_true rfl, Nat.le_of_ble_eq_true rfl⟩).run (fun r11 hr12 => ?_)
    subst hr12
    refine lv_if_eq (tgt := 41) hx hb d_T_nameAllUnlike_16 rfl (fun hc13 => ?_) (fun hc13 => ?_)
    · --  (bI (trB (F 1))) = 0
      refine lv_iinc (k := 2) (v := 2) hx hb d_T_nameAllUnlike_41 hl rfl rfl (by decide) rfl (fun ls hl => ?_)
      replace hl : lv_has ls 3 [(2, .int 2), (0, .ref h0), (1, .int x)] := hl
      refine lv_goto (tgt := 2) hx hb d_T_nameAllUnlike_44 rfl ?_
      have hSq : SP = s_T_nameAllUnlike_cut2_2 x F := by rw [hSq0, s_T_nameAllUnlike_cut2_1]; try (rw [if_pos hc13]); all_goals rfl
      replace hl := lv_sub hl (l' := [(0, .ref h0), (1, .int x), (2, .int 2)]) [1, 2, 0] rfl
      replace hP := hP.sub (ws' := [(h0, .inr (0, oT uT p9 a9 e9 n9 o9)), (a9, .inl (ca, 3, .inr (.inr (.inr (.inr (mo da)))))), (da 0, .inr (2, oD (F 0) (ra 0) (ka 0))), (da 1, .inr (2, oD (F 1) (ra 1) (ka 1))), (da 2, .inr (2, oD (F 2) (ra 2) (ka 2)))]) [0, 1, 2, 3, 4] rfl
      replace hD := hD.sub (ws' := [(h0, .inr (0, oT uT p9 a9 e9 n9 o9)), (a9, .inl (ca, 3, .inr (.inr (.inr (.inr (mo da)))))), (da 0, .inr (2, oD (F 0) (ra 0) (ka 0))), (da 1, .inr (2, oD (F 1) (ra 1) (ka 1))), (da 2, .inr (2, oD (F 2) (ra 2) (ka 2)))]) [0, 1, 2, 3, 4] (by decide) rfl
      exact cut2_2 F _ _ _ hF hSq hl hP hD hS
    · --  ¬ (bI (trB (F 1))) = 0
      refine lv_aload_n hx hb d_T_nameAllUnlike_19 rfl (lv_at hl 0 rfl) ?_
      refine va_get (D := (dC, dI)) (ci := 0) (v := .ref a9) (C := "VotedTriple") (T := F_T) (N := 11) hx hb hw in_T hown hK hP 0 rfl rfl 1 (by decide) (hw _ k_195) (fun _ h9 => h9) rfl d_T_nameAllUnlike_20 ?_
      refine lv_iload_n hx hb d_T_nameAllUnlike_23 rfl (lv_at hl 2 rfl) ?_
      refine va_aldq hx hb hK hP 1 0 rfl rfl (by unfold vp_in; decide) d_T_nameAllUnlike_24 ?_
      refine W.eq (g2 := F0 m 25 ls [.ref (da 1)]) rfl ?_
      refine va_get (D := (dC, dI)) (ci := 2) (v := .int (F 1 18)) (C := "VotedTriple$VotedModule") (T := F_D) (N := 19) hx hb hw in_D hown hK hP 3 rfl rfl 18 (by decide) (hw _ k_161) (fun _ h9 => h9) rfl d_T_nameAllUnlike_25 ?_
      refine lv_iload_n hx hb d_T_nameAllUnlike_28 rfl (lv_at hl 1 rfl) ?_
      refine lv_icmp_eq (tgt := 41) hx hb d_T_nameAllUnlike_29 rfl (fun hc14 => ?_) (fun hc14 => ?_)
      · --  (F 1 18) = x
        refine lv_iinc (k := 2) (v := 2) hx hb d_T_nameAllUnlike_41 hl rfl rfl (by decide) rfl (fun ls hl => ?_)
        replace hl : lv_has ls 3 [(2, .int 2), (0, .ref h0), (1, .int x)] := hl
        refine lv_goto (tgt := 2) hx hb d_T_nameAllUnlike_44 rfl ?_
        have hSq : SP = s_T_nameAllUnlike_cut2_2 x F := by rw [hSq0, s_T_nameAllUnlike_cut2_1]; try (rw [if_neg hc13]); try (rw [if_pos hc14]); all_goals rfl
        replace hl := lv_sub hl (l' := [(0, .ref h0), (1, .int x), (2, .int 2)]) [1, 2, 0] rfl
        replace hP := hP.sub (ws' := [(h0, .inr (0, oT uT p9 a9 e9 n9 o9)), (a9, .inl (ca, 3, .inr (.inr (.inr (.inr (mo da)))))), (da 0, .inr (2, oD (F 0) (ra 0) (ka 0))), (da 1, .inr (2, oD (F 1) (ra 1) (ka 1))), (da 2, .inr (2, oD (F 2) (ra 2) (ka 2)))]) [0, 1, 2, 3, 4] rfl
        replace hD := hD.sub (ws' := [(h0, .inr (0, oT uT p9 a9 e9 n9 o9)), (a9, .inl (ca, 3, .inr (.inr (.inr (.inr (mo da)))))), (da 0, .inr (2, oD (F 0) (ra 0) (ka 0))), (da 1, .inr (2, oD (F 1) (ra 1) (ka 1))), (da 2, .inr (2, oD (F 2) (ra 2) (ka 2)))]) [0, 1, 2, 3, 4] (by decide) rfl
        exact cut2_2 F _ _ _ hF hSq hl hP hD hS
      · --  ¬ (F 1 18) = x
        refine lv_aload_n hx hb d_T_nameAllUnlike_32 rfl (lv_at hl 0 rfl) ?_
        refine va_get (D := (dC, dI)) (ci := 0) (v := .ref a9) (C := "VotedTriple") (T := F_T) (N := 11) hx hb hw in_T hown hK hP 0 rfl rfl 1 (by decide) (hw _ k_195) (fun _ h9 => h9) rfl d_T_nameAllUnlike_33 ?_
        refine lv_iload_n hx hb d_T_nameAllUnlike_36 rfl (lv_at hl 2 rfl) ?_
        refine va_aldq hx hb hK hP 1 0 rfl rfl (by unfold vp_in; decide) d_T_nameAllUnlike_37 ?_
        refine W.eq (g2 := F0 m 38 ls [.ref (da 1)]) rfl ?_
        replace hPc := hP.sub (ws' := [(da 1, .inr (2, oD (F 1) (ra 1) (ka 1)))]) [3] rfl
        replace hKc := hK.sub (tys' := []) [] rfl
        replace hDc := hD.sub (ws' := [(da 1, .inr (2, oD (F 1) (ra 1) (ka 1)))]) [3] (by decide) rfl
        replace hFc := va_free (wc := [(da 1, .inr (2, oD (F 1) (ra 1) (ka 1)))]) hD hS hA [3] rfl
        refine va_callv (va_runV (C := "VotedTriple$VotedModule") (As := []) (rest := []) ⟨hx, hb, hml, hown, hw⟩ (c_D_blameLater l dC dI (da 1) (ra 1) (ka 1) (F 1) hF.2.1 H.size) (cwV 0 hw (gdV (k_611) (k_608) (k_609) (k_610) (k_7)) rfl rfl rfl (by decide +kernel) ⟨Nat.le_of_ble_eq_true rfl, Nat.le_of_ble_eq_true rfl⟩) ⟨fun a U g mk q => by obtain ⟨q0, q1, qP, qK, qD⟩ := q; exact ⟨q0, q1, qP, va_K.moved (u := U) (U := U.calling g mk a) (Vm.Alike.refl U.vm) qK, qD⟩, va_recv hK hP rfl (q0 := 3) rfl, fun U hU hW => ⟨rfl, by rw [hU], by rw [hU]; exact hPc, va_K.moved hW.alike hKc, hDc.weaken (fun _ _ _ _ => trivial)⟩⟩ rfl rfl hl.1 rfl (lv_room (Nat.le_of_ble_eq_true rfl)) d_T_nameAllUnlike_38 ⟨Nat.le_of_ble_eq_true rfl, Nat.le_of_ble_eq_true rfl⟩) hS (fun q _ h => hFc q h) hFc (fun u9 t H1 locs ht hvm hr16 hB hz1 hk1 hS => ?_)
        obtain ⟨F217, rfl⟩ : ∃ z, z = u9 := ⟨_, rfl⟩
        obtain ⟨hP1, hK1, hD1⟩ := hB
        rw [ht] at hP1
        replace hK1 := va_K.moved hvm.symm hK1
        try dsimp only at hr16 hP1 hK1 hD1
        obtain ⟨hr16, hr16E⟩ := hr16
        obtain ⟨hPz, hDz⟩ := va_join (wr := [(h0, .inr (0, oT uT p9 a9 e9 n9 o9)), (a9, .inl (ca, 3, .inr (.inr (.inr (.inr (mo da)))))), (da 0, .inr (2, oD (F 0) (ra 0) (ka 0))), (da 2, .inr (2, oD (F 2) (ra 2) (ka 2)))]) (w1 := [(da 1, .inr (2, oD F217 (ra 1) (ka 1)))]) hP hD [3] [0, 1, 2, 4] rfl rfl (by decide) (by decide) hk1 hFc hP1 hD1
        clear hP hD hPc hDc hP1 hD1 hFc
        have hP := hPz
        have hD := hDz
        clear hPz hDz
        replace hK := (hK.sub (tys' := [(ca, .object "VotedTriple$VotedModule")]) [0] rfl).app hK1
        clear hK1 hKc
        generalize H1 = H at hP hS ⊢
        replace hP : va_P (dC, dI) classes [(h0, .inr (0, oT uT p9 a9 e9 n9 o9)), (a9, .inl (ca, 3, .inr (.inr (.inr (.inr (mo da)))))), (da 0, .inr (2, oD (F 0) (ra 0) (ka 0))), (da 2, .inr (2, oD (F 2) (ra 2) (ka 2))), (da 1, .inr (2, oD F217 (ra 1) (ka 1)))] H := hP
        replace hD : va_D A [(h0, .inr (0, oT uT p9 a9 e9 n9 o9)), (a9, .inl (ca, 3, .inr (.inr (.inr (.inr (mo da)))))), (da 0, .inr (2, oD (F 0) (ra 0) (ka 0))), (da 2, .inr (2, oD (F 2) (ra 2) (ka 2))), (da 1, .inr (2, oD F217 (ra 1) (ka 1)))] := hD
        replace hK : va_K (dC, dI) classes [(ca, .object "VotedTriple$VotedModule")] s := hK
        refine W.widen (k := 0) (n := 0) (Nat.le_of_ble_eq_true rfl) (Nat.le_of_ble_eq_true rfl) ?_
        refine lv_iinc (k := 2) (v := 2) hx hb d_T_nameAllUnlike_41 hl rfl rfl (by decide) rfl (fun ls hl => ?_)
        replace hl : lv_has ls 3 [(2, .int 2), (0, .ref h0), (1, .int x)] := hl
        refine lv_goto (tgt := 2) hx hb d_T_nameAllUnlike_44 rfl ?_
        have hSq : SP = s_T_nameAllUnlike_cut2_2 x (tri (F 0) F217 (F 2)) := by rw [hSq0, s_T_nameAllUnlike_cut2_1]; try (rw [if_neg hc13]); try (rw [if_neg hc14]); try (rw [← hr16E, bnd_eq]); all_goals rfl
        replace hl := lv_sub hl (l' := [(0, .ref h0), (1, .int x), (2, .int 2)]) [1, 2, 0] rfl
        replace hP := hP.sub (ws' := [(h0, .inr (0, oT uT p9 a9 e9 n9 o9)), (a9, .inl (ca, 3, .inr (.inr (.inr (.inr (mo da)))))), (da 0, .inr (2, oD (tri (F 0) F217 (F 2) 0) (ra 0) (ka 0))), (da 1, .inr (2, oD (tri (F 0) F217 (F 2) 1) (ra 1) (ka 1))), (da 2, .inr (2, oD (tri (F 0) F217 (F 2) 2) (ra 2) (ka 2)))]) [0, 1, 2, 4, 3] rfl
        replace hD := hD.sub (ws' := [(h0, .inr (0, oT uT p9 a9 e9 n9 o9)), (a9, .inl (ca, 3, .inr (.inr (.inr (.inr (mo da)))))), (da 0, .inr (2, oD (tri (F 0) F217 (F 2) 0) (ra 0) (ka 0))), (da 1, .inr (2, oD (tri (F 0) F217 (F 2) 1) (ra 1) (ka 1))), (da 2, .inr (2, oD (tri (F 0) F217 (F 2) 2) (ra 2) (ka 2)))]) [0, 1, 2, 4, 3] (by decide) rfl
        exact cut2_2 (tri (F 0) F217 (F 2)) _ _ _ (⟨hF.1, hr16, hF.2.2⟩) hSq hl hP hD hS
  clear cut2_3 cut2_2
  refine lv_iconst (v := 0) hx hb d_T_nameAllUnlike_0 (by decide) ?_
  refine lv_istore_n hx hb d_T_nameAllUnlike_1 rfl hl (by decide) rfl (fun ls hl => ?_)
  replace hl : lv_has ls 3 [(2, .int 0), (0, .ref h0), (1, .int x)] := hl
  refine lv_iload_n hx hb d_T_nameAllUnlike_2 rfl (lv_at hl 0 rfl) ?_
  refine lv_iconst (v := 3) hx hb d_T_nameAllUnlike_3 (by decide) ?_
  refine lv_icmp_ge (tgt := 47) hx hb d_T_nameAllUnlike_4 rfl (fun hc18 => by first | exact absurd hc18 (by decide) | exact absurd (by decide) hc18) (fun hc18 => ?_)
  refine lv_aload_n hx hb d_T_nameAllUnlike_7 rfl (lv_at hl 1 rfl) ?_
  refine va_get (D := (dC, dI)) (ci := 0) (v := .ref a9) (C := "VotedTriple") (T := F_T) (N := 11) hx hb hw in_T hown hK hP 0 rfl rfl 1 (by decide) (hw _ k_195) (fun _ h9 => h9) rfl d_T_nameAllUnlike_8 ?_
  refine lv_iload_n hx hb d_T_nameAllUnlike_11 rfl (lv_at hl 0 rfl) ?_
  refine va_aldq hx hb hK hP 1 0 rfl rfl (by unfold vp_in; decide) d_T_nameAllUnlike_12 ?_
  refine W.eq (g2 := F0 m 13 ls [.ref (da 0)]) rfl ?_
  replace hPc := hP.sub (ws' := [(da 0, .inr (2, oD (F 0) (ra 0) (ka 0)))]) [2] rfl
  replace hKc := hK.sub (tys' := []) [] rfl
  refine vp_callSi (va_runV (C := "VotedTriple$VotedModule") (As := []) (rest := []) ⟨hx, hb, hml, hown, hw⟩ (c_D_isTrusted l dC dI (da 0) (ra 0) (ka 0) (F 0)) (cwV 0 hw (gdV (k_583) (k_580) (k_581) (k_582) (k_7)) rfl rfl rfl (by decide +kernel) ⟨Nat.le_of_ble_eq_true rfl, Nat.le_of_ble_eq_true rfl⟩) ⟨fun a U g mk q => ⟨q.1, q.2.1, va_K.moved (u := U) (U := U.calling g mk a) (Vm.Alike.refl U.vm) q.2.2⟩, va_recv hK hP rfl (q0 := 2) rfl, fun U hU hW => ⟨rfl, by rw [hU]; exact hPc, va_K.moved hW.alike hKc⟩⟩ rfl rfl hl.1 rfl (lv_room (Nat.le_of_ble_eq_true rfl)) d_T_nameAllUnlike_13 ⟨Nat.le_of_ble_eq_true rfl, Nat.le_of_ble_eq_true rfl⟩).run (fun r19 hr20 => ?_)
  subst hr20
  refine lv_if_eq (tgt := 41) hx hb d_T_nameAllUnlike_16 rfl (fun hc21 => ?_) (fun hc21 => ?_)
  · --  (bI (trB (F 0))) = 0
    refine lv_iinc (k := 0) (v := 1) hx hb d_T_nameAllUnlike_41 hl rfl rfl (by decide) rfl (fun ls hl => ?_)
    replace hl : lv_has ls 3 [(2, .int 1), (0, .ref h0), (1, .int x)] := hl
    refine lv_goto (tgt := 2) hx hb d_T_nameAllUnlike_44 rfl ?_
    have hSq : SP = s_T_nameAllUnlike_cut2_1 x F := by rw [← hSP, s_T_nameAllUnlike]; try (rw [if_pos hc21]); all_goals rfl
    replace hl := lv_sub hl (l' := [(0, .ref h0), (1, .int x), (2, .int 1)]) [1, 2, 0] rfl
    replace hP := hP.sub (ws' := [(h0, .inr (0, oT uT p9 a9 e9 n9 o9)), (a9, .inl (ca, 3, .inr (.inr (.inr (.inr (mo da)))))), (da 0, .inr (2, oD (F 0) (ra 0) (ka 0))), (da 1, .inr (2, oD (F 1) (ra 1) (ka 1))), (da 2, .inr (2, oD (F 2) (ra 2) (ka 2)))]) [0, 1, 2, 3, 4] rfl
    replace hD := hD.sub (ws' := [(h0, .inr (0, oT uT p9 a9 e9 n9 o9)), (a9, .inl (ca, 3, .inr (.inr (.inr (.inr (mo da)))))), (da 0, .inr (2, oD (F 0) (ra 0) (ka 0))), (da 1, .inr (2, oD (F 1) (ra 1) (ka 1))), (da 2, .inr (2, oD (F 2) (ra 2) (ka 2)))]) [0, 1, 2, 3, 4] (by decide) rfl
    exact cut2_1 F _ _ _ hF hSq hl hP hD hS
  · --  ¬ (bI (trB (F 0))) = 0
    refine lv_aload_n hx hb d_T_nameAllUnlike_19 rfl (lv_at hl 1 rfl) ?_
    refine va_get (D := (dC, dI)) (ci := 0) (v := .ref a9) (C := "VotedTriple") (T := F_T) (N := 11) hx hb hw in_T hown hK hP 0 rfl rfl 1 (by decide) (hw _ k_195) (fun _ h9 => h9) rfl d_T_nameAllUnlike_20 ?_
    refine lv_iload_n hx hb d_T_nameAllUnlike_23 rfl (lv_at hl 0 rfl) ?_
    refine va_aldq hx hb hK hP 1 0 rfl rfl (by unfold vp_in; decide) d_T_nameAllUnlike_24 ?_
    refine W.eq (g2 := F0 m 25 ls [.ref (da 0)]) rfl ?_
    refine va_get (D := (dC, dI)) (ci := 2) (v := .int (F 0 18)) (C := "VotedTriple$VotedModule") (T := F_D) (N := 19) hx hb hw in_D hown hK hP 2 rfl rfl 18 (by decide) (hw _ k_161) (fun _ h9 => h9) rfl d_T_nameAllUnlike_25 ?_
    refine lv_iload_n hx hb d_T_nameAllUnlike_28 rfl (lv_at hl 2 rfl) ?_
    refine lv_icmp_eq (tgt := 41) hx hb d_T_nameAllUnlike_29 rfl (fun hc22 => ?_) (fun hc22 => ?_)
    · --  (F 0 18) = x
      refine lv_iinc (k := 0) (v := 1) hx hb d_T_nameAllUnlike_41 hl rfl rfl (by decide) rfl (fun ls hl => ?_)
      replace hl : lv_has ls 3 [(2, .int 1), (0, .ref h0), (1, .int x)] := hl
      refine lv_goto (tgt := 2) hx hb d_T_nameAllUnlike_44 rfl ?_
      have hSq : SP = s_T_nameAllUnlike_cut2_1 x F := by rw [← hSP, s_T_nameAllUnlike]; try (rw [if_neg hc21]); try (rw [if_pos hc22]); all_goals rfl
      replace hl := lv_sub hl (l' := [(0, .ref h0), (1, .int x), (2, .int 1)]) [1, 2, 0] rfl
      replace hP := hP.sub (ws' := [(h0, .inr (0, oT uT p9 a9 e9 n9 o9)), (a9, .inl (ca, 3, .inr (.inr (.inr (.inr (mo da)))))), (da 0, .inr (2, oD (F 0) (ra 0) (ka 0))), (da 1, .inr (2, oD (F 1) (ra 1) (ka 1))), (da 2, .inr (2, oD (F 2) (ra 2) (ka 2)))]) [0, 1, 2, 3, 4] rfl
      replace hD := hD.sub (ws' := [(h0, .inr (0, oT uT p9 a9 e9 n9 o9)), (a9, .inl (ca, 3, .inr (.inr (.inr (.inr (mo da)))))), (da 0, .inr (2, oD (F 0) (ra 0) (ka 0))), (da 1, .inr (2, oD (F 1) (ra 1) (ka 1))), (da 2, .inr (2, oD (F 2) (ra 2) (ka 2)))]) [0, 1, 2, 3, 4] (by decide) rfl
      exact cut2_1 F _ _ _ hF hSq hl hP hD hS
    · --  ¬ (F 0 18) = x
      refine lv_aload_n hx hb d_T_nameAllUnlike_32 rfl (lv_at hl 1 rfl) ?_
      refine va_get (D := (dC, dI)) (ci := 0) (v := .ref a9) (C := "VotedTriple") (T := F_T) (N := 11) hx hb hw in_T hown hK hP 0 rfl rfl 1 (by decide) (hw _ k_195) (fun _ h9 => h9) rfl d_T_nameAllUnlike_33 ?_
      refine lv_iload_n hx hb d_T_nameAllUnlike_36 rfl (lv_at hl 0 rfl) ?_
      refine va_aldq hx hb hK hP 1 0 rfl rfl (by unfold vp_in; decide) d_T_nameAllUnlike_37 ?_
      refine W.eq (g2 := F0 m 38 ls [.ref (da 0)]) rfl ?_
      replace hPc := hP.sub (ws' := [(da 0, .inr (2, oD (F 0) (ra 0) (ka 0)))]) [2] rfl
      replace hKc := hK.sub (tys' := []) [] rfl
      replace hDc := hD.sub (ws' := [(da 0, .inr (2, oD (F 0) (ra 0) (ka 0)))]) [2] (by decide) rfl
      replace hFc := va_free (wc := [(da 0, .inr (2, oD (F 0) (ra 0) (ka 0)))]) hD hS hA [2] rfl
      refine va_callv (va_runV (C := "VotedTriple$VotedModule") (As := []) (rest := []) ⟨hx, hb, hml, hown, hw⟩ (c_D_blameLater l dC dI (da 0) (ra 0) (ka 0) (F 0) hF.1 s.heap.size) (cwV 0 hw (gdV (k_611) (k_608) (k_609) (k_610) (k_7)) rfl rfl rfl (by decide +kernel) ⟨Nat.le_of_ble_eq_true rfl, Nat.le_of_ble_eq_true rfl⟩) ⟨fun a U g mk q => by obtain ⟨q0, q1, qP, qK, qD⟩ := q; exact ⟨q0, q1, qP, va_K.moved (u := U) (U := U.calling g mk a) (Vm.Alike.refl U.vm) qK, qD⟩, va_recv hK hP rfl (q0 := 2) rfl, fun U hU hW => ⟨rfl, by rw [hU], by rw [hU]; exact hPc, va_K.moved hW.alike hKc, hDc.weaken (fun _ _ _ _ => trivial)⟩⟩ rfl rfl hl.1 rfl (lv_room (Nat.le_of_ble_eq_true rfl)) d_T_nameAllUnlike_38 ⟨Nat.le_of_ble_eq_true rfl, Nat.le_of_ble_eq_true rfl⟩) hS (fun q _ h => hFc q h) hFc (fun u9 t H1 locs ht hvm hr24 hB hz1 hk1 hS => ?_)
      obtain ⟨F225, rfl⟩ : ∃ z, z = u9 := ⟨_, rfl⟩
      obtain ⟨hP1, hK1, hD1⟩ := hB
      rw [ht] at hP1
      replace hK1 := va_K.moved hvm.symm hK1
      try dsimp only at hr24 hP1 hK1 hD1
      obtain ⟨hr24, hr24E⟩ := hr24
      obtain ⟨hPz, hDz⟩ := va_join (wr := [(h0, .inr (0, oT uT p9 a9 e9 n9 o9)), (a9, .inl (ca, 3, .inr (.inr (.inr (.inr (mo da)))))), (da 1, .inr (2, oD (F 1) (ra 1) (ka 1))), (da 2, .inr (2, oD (F 2) (ra 2) (ka 2)))]) (w1 := [(da 0, .inr (2, oD F225 (ra 0) (ka 0)))]) hP hD [2] [0, 1, 3, 4] rfl rfl (by decide) (by decide) hk1 hFc hP1 hD1
      clear hP hD hPc hDc hP1 hD1 hFc
      have hP := hPz
      have hD := hDz
      clear hPz hDz
      replace hK := (hK.sub (tys' := [(ca, .object "VotedTriple$VotedModule")]) [0] rfl).app hK1
      clear hK1 hKc
      generalize H1 = H at hP hS ⊢
      replace hP : va_P (dC, dI) classes [(h0, .inr (0, oT uT p9 a9 e9 n9 o9)), (a9, .inl (ca, 3, .inr (.inr (.inr (.inr (mo da)))))), (da 1, .inr (2, oD (F 1) (ra 1) (ka 1))), (da 2, .inr (2, oD (F 2) (ra 2) (ka 2))), (da 0, .inr (2, oD F225 (ra 0) (ka 0)))] H := hP
      replace hD : va_D A [(h0, .inr (0, oT uT p9 a9 e9 n9 o9)), (a9, .inl (ca, 3, .inr (.inr (.inr (.inr (mo da)))))), (da 1, .inr (2, oD (F 1) (ra 1) (ka 1))), (da 2, .inr (2, oD (F 2) (ra 2) (ka 2))), (da 0, .inr (2, oD F225 (ra 0) (ka 0)))] := hD
      replace hK : va_K (dC, dI) classes [(ca, .object "VotedTriple$VotedModule")] s := hK
      refine W.widen (k := 0) (n := 0) (Nat.le_of_ble_eq_true rfl) (Nat.le_of_ble_eq_true rfl) ?_
      refine lv_iinc (k := 0) (v := 1) hx hb d_T_nameAllUnlike_41 hl rfl rfl (by decide) rfl (fun ls hl => ?_)
      replace hl : lv_has ls 3 [(2, .int 1), (0, .ref h0), (1, .int x)] := hl
      refine lv_goto (tgt := 2) hx hb d_T_nameAllUnlike_44 rfl ?_
      have hSq : SP = s_T_nameAllUnlike_cut2_1 x (tri F225 (F 1) (F 2)) := by rw [← hSP, s_T_nameAllUnlike]; try (rw [if_neg hc21]); try (rw [if_neg hc22]); try (rw [← hr24E, bnd_eq]); all_goals rfl
      replace hl := lv_sub hl (l' := [(0, .ref h0), (1, .int x), (2, .int 1)]) [1, 2, 0] rfl
      replace hP := hP.sub (ws' := [(h0, .inr (0, oT uT p9 a9 e9 n9 o9)), (a9, .inl (ca, 3, .inr (.inr (.inr (.inr (mo da)))))), (da 0, .inr (2, oD (tri F225 (F 1) (F 2) 0) (ra 0) (ka 0))), (da 1, .inr (2, oD (tri F225 (F 1) (F 2) 1) (ra 1) (ka 1))), (da 2, .inr (2, oD (tri F225 (F 1) (F 2) 2) (ra 2) (ka 2)))]) [0, 1, 4, 2, 3] rfl
      replace hD := hD.sub (ws' := [(h0, .inr (0, oT uT p9 a9 e9 n9 o9)), (a9, .inl (ca, 3, .inr (.inr (.inr (.inr (mo da)))))), (da 0, .inr (2, oD (tri F225 (F 1) (F 2) 0) (ra 0) (ka 0))), (da 1, .inr (2, oD (tri F225 (F 1) (F 2) 1) (ra 1) (ka 1))), (da 2, .inr (2, oD (tri F225 (F 1) (F 2) 2) (ra 2) (ka 2)))]) [0, 1, 4, 2, 3] (by decide) rfl
      exact cut2_1 (tri F225 (F 1) (F 2)) _ _ _ (⟨hr24, hF.2.1, hF.2.2⟩) hSq hl hP hD hS

set_option maxHeartbeats 4000000 in
set_option maxRecDepth 100000 in
theorem c_D_copyNextFrom (l : Launch) (dC : Nat → ClassId) (dI : Nat → Nat → Nat) (h0 r9 k9 : Nat) (F : Nat → Int32) (cr : ClassId) (rg : Nat → Int32) (ck : ClassId) (cd : Nat → Int32) (e0 s9 j9 : Nat) (F2 : Nat → Int32) (cr2 : ClassId) (rg2 : Nat → Int32) (ck2 : ClassId) (cd2 : Nat → Int32) (h1 : modF F) (h2 : wdI 8 rg) (h3 : modF F2) (h4 : wdI 8 rg2) (sz : Nat) : Met l y_D_copyNextFrom (tbw y_D_copyNextFrom b_D_copyNextFrom 2 none) ({ frames := 1, cells := 0, slots := 0, locals := 20 }) (va_Pc [.ref h0, .ref e0] (fun U => U.heap.size = sz ∧ va_P (dC, dI) classes [(h0, .inr (2, oD F r9 k9)), (r9, .inl (cr, 8, .inl rg)), (k9, .inl (ck, 32, .inl cd)), (e0, .inr (2, oD F2 s9 j9)), (s9, .inl (cr2, 8, .inl rg2)), (j9, .inl (ck2, 32, .inl cd2))] U.heap ∧ va_K (dC, dI) classes [(cr, .int), (ck, .int), (cr2, .int), (ck2, .int)] U ∧ va_D (fun _ => True) [(h0, .inr (2, oD F r9 k9)), (r9, .inl (cr, 8, .inl rg)), (k9, .inl (ck, 32, .inl cd)), (e0, .inr (2, oD F2 s9 j9)), (s9, .inl (cr2, 8, .inl rg2)), (j9, .inl (ck2, 32, .inl cd2))])) (va_Qv (fun (u9 : (Nat → Int32) × (Nat → Int32) × (Nat → Int32)) => match u9 with | (F5, g5, c5) => (modF F5 ∧ wdI 8 g5) ∧ (F5, g5, c5) = s_D_copyNextFrom F rg cd F2 rg2 cd2) (fun (u9 : (Nat → Int32) × (Nat → Int32) × (Nat → Int32)) t => match u9 with | (F5, g5, c5) => va_P (dC, dI) classes [(h0, .inr (2, oD F5 r9 k9)), (r9, .inl (cr, 8, .inl g5)), (k9, .inl (ck, 32, .inl c5)), (e0, .inr (2, oD F2 s9 j9)), (s9, .inl (cr2, 8, .inl rg2)), (j9, .inl (ck2, 32, .inl cd2))] t.heap ∧ va_K (dC, dI) classes [(cr, .int), (ck, .int), (cr2, .int), (ck2, .int)] t ∧ va_D (va_A [(h0, .inr (2, oD F r9 k9)), (r9, .inl (cr, 8, .inl rg)), (k9, .inl (ck, 32, .inl cd)), (e0, .inr (2, oD F2 s9 j9)), (s9, .inl (cr2, 8, .inl rg2)), (j9, .inl (ck2, 32, .inl cd2))] sz) [(h0, .inr (2, oD F5 r9 k9)), (r9, .inl (cr, 8, .inl g5)), (k9, .inl (ck, 32, .inl c5)), (e0, .inr (2, oD F2 s9 j9)), (s9, .inl (cr2, 8, .inl rg2)), (j9, .inl (ck2, 32, .inl cd2))]) (va_A [(h0, .inr (2, oD F r9 k9)), (r9, .inl (cr, 8, .inl rg)), (k9, .inl (ck, 32, .inl cd)), (e0, .inr (2, oD F2 s9 j9)), (s9, .inl (cr2, 8, .inl rg2)), (j9, .inl (ck2, 32, .inl cd2))] sz)) 0 0 (va_A [(h0, .inr (2, oD F r9 k9)), (r9, .inl (cr, 8, .inl rg)), (k9, .inl (ck, 32, .inl cd)), (e0, .inr (2, oD F2 s9 j9)), (s9, .inl (cr2, 8, .inl rg2)), (j9, .inl (ck2, 32, .inl cd2))] sz) := by
  refine Met.ofW (cc := b_D_copyNextFrom) (maxL := 2) (ret := none) (by decide) rfl ?_
  intro p e s m args below meth c s₁ B hml hv
  obtain ⟨rfl, hsz, hP, hK, hD0⟩ := hv
  have hx := B.exec
  have hb := B.bytes
  have hr := B.returns
  have hts := atoms_spec (ws := (tbw y_D_copyNextFrom b_D_copyNextFrom 2 none)) B.pre
  have hw : ∀ z9 ∈ tb, z9.before ([.ref h0, .ref e0] : List Value).toArray s = true := fun z9 h => hts z9 (List.mem_cons_of_mem _ h)
  have hown : s.vm.findClass "VotedTriple$VotedModule" = some m.cls := findClass_of_methodNamed B.named
  have hlocks := B.notSynchronized
  subst hsz
  replace hD := hD0.self (sz := s.heap.size)
  generalize hAe : va_A [(h0, .inr (2, oD F r9 k9)), (r9, .inl (cr, 8, .inl rg)), (k9, .inl (ck, 32, .inl cd)), (e0, .inr (2, oD F2 s9 j9)), (s9, .inl (cr2, 8, .inl rg2)), (j9, .inl (ck2, 32, .inl cd2))] s.heap.size = A at hD ⊢
  have hA : ∀ q : Nat, s.heap.size ≤ q → A q := fun q h => by rw [← hAe]; exact Or.inr h
  have hS : va_S A s.heap s.heap [] := va_S.rf
  replace hl := lv_entry ([.ref h0, .ref e0]) (n := 2) (Nat.le_of_ble_eq_true rfl)
  rw [lg_entry_eq]
  generalize (lg_sl ([.ref h0, .ref e0]) ++ List.replicate (2 - (lg_sl ([.ref h0, .ref e0])).length) Slot.unset).toArray = ls at hl ⊢
  replace hl : lv_has ls 2 [(0, .ref h0), (1, .ref e0)] := hl
  generalize hSP : s_D_copyNextFrom F rg cd F2 rg2 cd2 = SP
  refine lv_aload_n hx hb d_D_copyNextFrom_0 rfl (lv_at hl 0 rfl) ?_
  refine va_get (D := (dC, dI)) (ci := 2) (v := .int (F 9)) (C := "VotedTriple$VotedModule") (T := F_D) (N := 19) hx hb hw in_D hown hK hP 0 rfl rfl 9 (by decide) (hw _ k_144) (fun _ h9 => h9) rfl d_D_copyNextFrom_1 ?_
  refine lv_bipush (v := 32) hx hb d_D_copyNextFrom_4 (by decide) ?_
  refine lv_icmp_ge (tgt := 37) hx hb d_D_copyNextFrom_6 rfl (fun hc1 => ?_) (fun hc1 => ?_)
  · --  32 ≤ (F 9)
    refine lv_aload_n hx hb d_D_copyNextFrom_37 rfl (lv_at hl 0 rfl) ?_
    refine va_get (D := (dC, dI)) (ci := 2) (v := .int (F 9)) (C := "VotedTriple$VotedModule") (T := F_D) (N := 19) hx hb hw in_D hown hK hP 0 rfl rfl 9 (by decide) (hw _ k_144) (fun _ h9 => h9) rfl d_D_copyNextFrom_38 ?_
    refine lv_bipush (v := 32) hx hb d_D_copyNextFrom_41 (by decide) ?_
    refine lv_icmp_ne (tgt := 74) hx hb d_D_copyNextFrom_43 rfl (fun hc2 => ?_) (fun hc2 => ?_)
    · --  ¬ (F 9) = 32
      have hP9 := hP.sub (ws' := [(h0, .inr (2, oD F r9 k9)), (r9, .inl (cr, 8, .inl rg)), (k9, .inl (ck, 32, .inl cd)), (e0, .inr (2, oD F2 s9 j9)), (s9, .inl (cr2, 8, .inl rg2)), (j9, .inl (ck2, 32, .inl cd2))]) [0, 1, 2, 3, 4, 5] rfl
      have hD9 := hD.sub (ws' := [(h0, .inr (2, oD F r9 k9)), (r9, .inl (cr, 8, .inl rg)), (k9, .inl (ck, 32, .inl cd)), (e0, .inr (2, oD F2 s9 j9)), (s9, .inl (cr2, 8, .inl rg2)), (j9, .inl (ck2, 32, .inl cd2))]) [0, 1, 2, 3, 4, 5] (by decide) rfl
      have hK9 := hK.sub (tys' := [(cr, .int), (ck, .int), (cr2, .int), (ck2, .int)]) [0, 1, 2, 3] rfl
      refine W.widen (k := 0) (n := 0) (Nat.le_of_ble_eq_true rfl) (Nat.le_of_ble_eq_true rfl) ?_
      exact W.vret hx hb hr (fun t ht hW => ⟨⟨(F, rg, cd), rfl, ⟨⟨h1, h2⟩, (by rw [← hSP, s_D_copyNextFrom]; try (rw [if_pos hc1]); try (rw [if_neg hc2]); all_goals rfl)⟩, by rw [ht]; exact hP9, va_K.moved hW.alike hK9, hD9⟩, hS.F ht⟩) hS.2.2 d_D_copyNextFrom_74
    · --  (F 9) = 32
      refine lv_aload_n hx hb d_D_copyNextFrom_46 rfl (lv_at hl 1 rfl) ?_
      refine va_get (D := (dC, dI)) (ci := 2) (v := .ref s9) (C := "VotedTriple$VotedModule") (T := F_D) (N := 19) hx hb hw in_D hown hK hP 3 rfl rfl 0 (by decide) (hw _ k_71) (fun x9 h9 => u_same (hw _ k_72) x9 h9) rfl d_D_copyNextFrom_47 ?_
      refine lv_iconst (v := 0) hx hb d_D_copyNextFrom_50 (by decide) ?_
      refine lv_aload_n hx hb d_D_copyNextFrom_51 rfl (lv_at hl 0 rfl) ?_
      refine va_get (D := (dC, dI)) (ci := 2) (v := .ref r9) (C := "VotedTriple$VotedModule") (T := F_D) (N := 19) hx hb hw in_D hown hK hP 0 rfl rfl 0 (by decide) (hw _ k_71) (fun x9 h9 => u_same (hw _ k_72) x9 h9) rfl d_D_copyNextFrom_52 ?_
      refine lv_iconst (v := 0) hx hb d_D_copyNextFrom_55 (by decide) ?_
      refine lv_bipush (v := 8) hx hb d_D_copyNextFrom_56 (by decide) ?_
      refine va_copyi (ty := .int) hx hb (by rw [hml]; exact hl.1.symm) hown (hw _ k_660) (hw _ k_662) (hw _ k_661) (hw _ k_16) hK hP hD hS 4 1 2 0 rfl rfl rfl rfl rfl (by decide) (by decide) (by decide) (by decide) (by decide) (fun _ _ => rfl) (Nat.le_of_ble_eq_true rfl) (Nat.le_of_ble_eq_true rfl) d_D_copyNextFrom_58 (fun H locs hP hD hS => ?_)
      replace hP : va_P (dC, dI) classes [(h0, .inr (2, oD F r9 k9)), (r9, .inl (cr, 8, .inl (va_cpy rg2 rg 0 0 8))), (k9, .inl (ck, 32, .inl cd)), (e0, .inr (2, oD F2 s9 j9)), (s9, .inl (cr2, 8, .inl rg2)), (j9, .inl (ck2, 32, .inl cd2))] H := hP
      replace hD : va_D A [(h0, .inr (2, oD F r9 k9)), (r9, .inl (cr, 8, .inl (va_cpy rg2 rg 0 0 8))), (k9, .inl (ck, 32, .inl cd)), (e0, .inr (2, oD F2 s9 j9)), (s9, .inl (cr2, 8, .inl rg2)), (j9, .inl (ck2, 32, .inl cd2))] := hD
      refine lv_aload_n hx hb d_D_copyNextFrom_61 rfl (lv_at hl 0 rfl) ?_
      refine lv_aload_n hx hb d_D_copyNextFrom_62 rfl (lv_at hl 1 rfl) ?_
      refine va_get (D := (dC, dI)) (ci := 2) (v := .int (F2 1)) (C := "VotedTriple$VotedModule") (T := F_D) (N := 19) hx hb hw in_D hown hK hP 3 rfl rfl 1 (by decide) (hw _ k_75) (fun x9 h9 => u_same (hw _ k_76) x9 h9) rfl d_D_copyNextFrom_63 ?_
      refine va_put (D := (dC, dI)) (ci := 2) (v := .int (F2 1)) (ty := .int) (C := "VotedTriple$VotedModule") (T := F_D) (N := 19) hx hb hw in_D ft_D tyok_D nm_D hown hK hP hD hS 0 rfl rfl 1 (by decide) (hw _ k_75) (fun x9 h9 => u_same (hw _ k_76) x9 h9) rfl (by decide +kernel) rfl rfl (Nat.le_of_ble_eq_true rfl) d_D_copyNextFrom_66 (fun H locs hP hD hS => ?_)
      replace hP : va_P (dC, dI) classes [(h0, .inr (2, [.ref r9, .int (F2 1), .int (F 2), .int (F 3), .int (F 4), .int (F 5), .int (F 6), .ref k9, .int (F 8), .int (F 9), .int (F 10), .int (F 11), .int (F 12), .int (F 13), .int (F 14), .int (F 15), .int (F 16), .int (F 17), .int (F 18)])), (r9, .inl (cr, 8, .inl (va_cpy rg2 rg 0 0 8))), (k9, .inl (ck, 32, .inl cd)), (e0, .inr (2, oD F2 s9 j9)), (s9, .inl (cr2, 8, .inl rg2)), (j9, .inl (ck2, 32, .inl cd2))] H := hP
      replace hD : va_D A [(h0, .inr (2, [.ref r9, .int (F2 1), .int (F 2), .int (F 3), .int (F 4), .int (F 5), .int (F 6), .ref k9, .int (F 8), .int (F 9), .int (F 10), .int (F 11), .int (F 12), .int (F 13), .int (F 14), .int (F 15), .int (F 16), .int (F 17), .int (F 18)])), (r9, .inl (cr, 8, .inl (va_cpy rg2 rg 0 0 8))), (k9, .inl (ck, 32, .inl cd)), (e0, .inr (2, oD F2 s9 j9)), (s9, .inl (cr2, 8, .inl rg2)), (j9, .inl (ck2, 32, .inl cd2))] := hD
      refine lv_aload_n hx hb d_D_copyNextFrom_69 rfl (lv_at hl 0 rfl) ?_
      refine lv_iconst (v := 0) hx hb d_D_copyNextFrom_70 (by decide) ?_
      refine va_put (D := (dC, dI)) (ci := 2) (v := .int 0) (ty := .int) (C := "VotedTriple$VotedModule") (T := F_D) (N := 19) hx hb hw in_D ft_D tyok_D nm_D hown hK hP hD hS 0 rfl rfl 8 (by decide) (hw _ k_142) (fun _ h9 => h9) rfl (by decide +kernel) rfl rfl (Nat.le_of_ble_eq_true rfl) d_D_copyNextFrom_71 (fun H locs hP hD hS => ?_)
      replace hP : va_P (dC, dI) classes [(h0, .inr (2, [.ref r9, .int (F2 1), .int (F 2), .int (F 3), .int (F 4), .int (F 5), .int (F 6), .ref k9, .int 0, .int (F 9), .int (F 10), .int (F 11), .int (F 12), .int (F 13), .int (F 14), .int (F 15), .int (F 16), .int (F 17), .int (F 18)])), (r9, .inl (cr, 8, .inl (va_cpy rg2 rg 0 0 8))), (k9, .inl (ck, 32, .inl cd)), (e0, .inr (2, oD F2 s9 j9)), (s9, .inl (cr2, 8, .inl rg2)), (j9, .inl (ck2, 32, .inl cd2))] H := hP
      replace hD : va_D A [(h0, .inr (2, [.ref r9, .int (F2 1), .int (F 2), .int (F 3), .int (F 4), .int (F 5), .int (F 6), .ref k9, .int 0, .int (F 9), .int (F 10), .int (F 11), .int (F 12), .int (F 13), .int (F 14), .int (F 15), .int (F 16), .int (F 17), .int (F 18)])), (r9, .inl (cr, 8, .inl (va_cpy rg2 rg 0 0 8))), (k9, .inl (ck, 32, .inl cd)), (e0, .inr (2, oD F2 s9 j9)), (s9, .inl (cr2, 8, .inl rg2)), (j9, .inl (ck2, 32, .inl cd2))] := hD
      have p9 := h1
      have hP9 := hP.sub (ws' := [(h0, .inr (2, oD (upc (upc F 1 (F2 1)) 8 (0 : Int32)) r9 k9)), (r9, .inl (cr, 8, .inl (va_cpy rg2 rg 0 0 8))), (k9, .inl (ck, 32, .inl cd)), (e0, .inr (2, oD F2 s9 j9)), (s9, .inl (cr2, 8, .inl rg2)), (j9, .inl (ck2, 32, .inl cd2))]) [0, 1, 2, 3, 4, 5] rfl
      have hD9 := hD.sub (ws' := [(h0, .inr (2, oD (upc (upc F 1 (F2 1)) 8 (0 : Int32)) r9 k9)), (r9, .inl (cr, 8, .inl (va_cpy rg2 rg 0 0 8))), (k9, .inl (ck, 32, .inl cd)), (e0, .inr (2, oD F2 s9 j9)), (s9, .inl (cr2, 8, .inl rg2)), (j9, .inl (ck2, 32, .inl cd2))]) [0, 1, 2, 3, 4, 5] (by decide) rfl
      have hK9 := hK.sub (tys' := [(cr, .int), (ck, .int), (cr2, .int), (ck2, .int)]) [0, 1, 2, 3] rfl
      refine W.widen (k := 0) (n := 0) (Nat.le_of_ble_eq_true rfl) (Nat.le_of_ble_eq_true rfl) ?_
      exact W.vret hx hb hr (fun t ht hW => ⟨⟨(upc (upc F 1 (F2 1)) 8 (0 : Int32), va_cpy rg2 rg 0 0 8, cd), rfl, ⟨⟨⟨h3.1, p9.2.1, p9.2.2.1, p9.2.2.2⟩, (wdI_cpy h4 h2)⟩, (by rw [← hSP, s_D_copyNextFrom]; try (rw [if_pos hc1]); try (rw [if_pos hc2]); all_goals rfl)⟩, by rw [ht]; exact hP9, va_K.moved hW.alike hK9, hD9⟩, hS.F ht⟩) hS.2.2 d_D_copyNextFrom_74
  · --  ¬ 32 ≤ (F 9)
    refine lv_aload_n hx hb d_D_copyNextFrom_9 rfl (lv_at hl 0 rfl) ?_
    refine va_get (D := (dC, dI)) (ci := 2) (v := .ref k9) (C := "VotedTriple$VotedModule") (T := F_D) (N := 19) hx hb hw in_D hown hK hP 0 rfl rfl 7 (by decide) (hw _ k_140) (fun _ h9 => h9) rfl d_D_copyNextFrom_10 ?_
    refine lv_aload_n hx hb d_D_copyNextFrom_13 rfl (lv_at hl 0 rfl) ?_
    refine va_get (D := (dC, dI)) (ci := 2) (v := .int (F 9)) (C := "VotedTriple$VotedModule") (T := F_D) (N := 19) hx hb hw in_D hown hK hP 0 rfl rfl 9 (by decide) (hw _ k_144) (fun _ h9 => h9) rfl d_D_copyNextFrom_14 ?_
    refine lv_aload_n hx hb d_D_copyNextFrom_17 rfl (lv_at hl 1 rfl) ?_
    refine va_get (D := (dC, dI)) (ci := 2) (v := .ref j9) (C := "VotedTriple$VotedModule") (T := F_D) (N := 19) hx hb hw in_D hown hK hP 3 rfl rfl 7 (by decide) (hw _ k_140) (fun _ h9 => h9) rfl d_D_copyNextFrom_18 ?_
    refine lv_aload_n hx hb d_D_copyNextFrom_21 rfl (lv_at hl 0 rfl) ?_
    refine va_get (D := (dC, dI)) (ci := 2) (v := .int (F 9)) (C := "VotedTriple$VotedModule") (T := F_D) (N := 19) hx hb hw in_D hown hK hP 0 rfl rfl 9 (by decide) (hw _ k_144) (fun _ h9 => h9) rfl d_D_copyNextFrom_22 ?_
    refine va_iald hx hb hK hP 5 3 rfl rfl (mk_in h1.2.2.2 hc1) d_D_copyNextFrom_25 ?_
    refine va_iast hx hb hK hP hD hS 2 1 rfl rfl (mk_in h1.2.2.2 hc1) d_D_copyNextFrom_26 (fun H locs hP hD hS => ?_)
    replace hP : va_P (dC, dI) classes [(h0, .inr (2, oD F r9 k9)), (r9, .inl (cr, 8, .inl rg)), (k9, .inl (ck, 32, .inl (upd cd (Int32.toNatClampNeg (F 9)) (cd2 (Int32.toNatClampNeg (F 9)))))), (e0, .inr (2, oD F2 s9 j9)), (s9, .inl (cr2, 8, .inl rg2)), (j9, .inl (ck2, 32, .inl cd2))] H := hP
    replace hD : va_D A [(h0, .inr (2, oD F r9 k9)), (r9, .inl (cr, 8, .inl rg)), (k9, .inl (ck, 32, .inl (upd cd (Int32.toNatClampNeg (F 9)) (cd2 (Int32.toNatClampNeg (F 9)))))), (e0, .inr (2, oD F2 s9 j9)), (s9, .inl (cr2, 8, .inl rg2)), (j9, .inl (ck2, 32, .inl cd2))] := hD
    refine lv_aload_n hx hb d_D_copyNextFrom_27 rfl (lv_at hl 0 rfl) ?_
    refine lv_dup hx hb d_D_copyNextFrom_28 rfl ?_
    refine va_get (D := (dC, dI)) (ci := 2) (v := .int (F 9)) (C := "VotedTriple$VotedModule") (T := F_D) (N := 19) hx hb hw in_D hown hK hP 0 rfl rfl 9 (by decide) (hw _ k_144) (fun _ h9 => h9) rfl d_D_copyNextFrom_29 ?_
    refine lv_iconst (v := 1) hx hb d_D_copyNextFrom_32 (by decide) ?_
    refine lv_iadd hx hb d_D_copyNextFrom_33 ?_
    refine va_put (D := (dC, dI)) (ci := 2) (v := .int ((F 9) + (1 : Int32))) (ty := .int) (C := "VotedTriple$VotedModule") (T := F_D) (N := 19) hx hb hw in_D ft_D tyok_D nm_D hown hK hP hD hS 0 rfl rfl 9 (by decide) (hw _ k_144) (fun _ h9 => h9) rfl (by decide +kernel) rfl rfl (Nat.le_of_ble_eq_true rfl) d_D_copyNextFrom_34 (fun H locs hP hD hS => ?_)
    replace hP : va_P (dC, dI) classes [(h0, .inr (2, [.ref r9, .int (F 1), .int (F 2), .int (F 3), .int (F 4), .int (F 5), .int (F 6), .ref k9, .int (F 8), .int ((F 9) + (1 : Int32)), .int (F 10), .int (F 11), .int (F 12), .int (F 13), .int (F 14), .int (F 15), .int (F 16), .int (F 17), .int (F 18)])), (r9, .inl (cr, 8, .inl rg)), (k9, .inl (ck, 32, .inl (upd cd (Int32.toNatClampNeg (F 9)) (cd2 (Int32.toNatClampNeg (F 9)))))), (e0, .inr (2, oD F2 s9 j9)), (s9, .inl (cr2, 8, .inl rg2)), (j9, .inl (ck2, 32, .inl cd2))] H := hP
    replace hD : va_D A [(h0, .inr (2, [.ref r9, .int (F 1), .int (F 2), .int (F 3), .int (F 4), .int (F 5), .int (F 6), .ref k9, .int (F 8), .int ((F 9) + (1 : Int32)), .int (F 10), .int (F 11), .int (F 12), .int (F 13), .int (F 14), .int (F 15), .int (F 16), .int (F 17), .int (F 18)])), (r9, .inl (cr, 8, .inl rg)), (k9, .inl (ck, 32, .inl (upd cd (Int32.toNatClampNeg (F 9)) (cd2 (Int32.toNatClampNeg (F 9)))))), (e0, .inr (2, oD F2 s9 j9)), (s9, .inl (cr2, 8, .inl rg2)), (j9, .inl (ck2, 32, .inl cd2))] := hD
    refine lv_aload_n hx hb d_D_copyNextFrom_37 rfl (lv_at hl 0 rfl) ?_
    refine va_get (D := (dC, dI)) (ci := 2) (v := .int ((F 9) + (1 : Int32))) (C := "VotedTriple$VotedModule") (T := F_D) (N := 19) hx hb hw in_D hown hK hP 0 rfl rfl 9 (by decide) (hw _ k_144) (fun _ h9 => h9) rfl d_D_copyNextFrom_38 ?_
    refine lv_bipush (v := 32) hx hb d_D_copyNextFrom_41 (by decide) ?_
    refine lv_icmp_ne (tgt := 74) hx hb d_D_copyNextFrom_43 rfl (fun hc3 => ?_) (fun hc3 => ?_)
    · --  ¬ ((F 9) + (1 : Int32)) = 32
      have hP9 := hP.sub (ws' := [(h0, .inr (2, oD (upc F 9 ((F 9) + (1 : Int32))) r9 k9)), (r9, .inl (cr, 8, .inl rg)), (k9, .inl (ck, 32, .inl (upd cd (Int32.toNatClampNeg (F 9)) (cd2 (Int32.toNatClampNeg (F 9)))))), (e0, .inr (2, oD F2 s9 j9)), (s9, .inl (cr2, 8, .inl rg2)), (j9, .inl (ck2, 32, .inl cd2))]) [0, 1, 2, 3, 4, 5] rfl
      have hD9 := hD.sub (ws' := [(h0, .inr (2, oD (upc F 9 ((F 9) + (1 : Int32))) r9 k9)), (r9, .inl (cr, 8, .inl rg)), (k9, .inl (ck, 32, .inl (upd cd (Int32.toNatClampNeg (F 9)) (cd2 (Int32.toNatClampNeg (F 9)))))), (e0, .inr (2, oD F2 s9 j9)), (s9, .inl (cr2, 8, .inl rg2)), (j9, .inl (ck2, 32, .inl cd2))]) [0, 1, 2, 3, 4, 5] (by decide) rfl
      have hK9 := hK.sub (tys' := [(cr, .int), (ck, .int), (cr2, .int), (ck2, .int)]) [0, 1, 2, 3] rfl
      refine W.widen (k := 0) (n := 0) (Nat.le_of_ble_eq_true rfl) (Nat.le_of_ble_eq_true rfl) ?_
      exact W.vret hx hb hr (fun t ht hW => ⟨⟨(upc F 9 ((F 9) + (1 : Int32)), rg, upd cd (Int32.toNatClampNeg (F 9)) (cd2 (Int32.toNatClampNeg (F 9)))), rfl, ⟨⟨(modF_9 h1 (mk_1 h1.2.2.2 hc1)), h2⟩, (by rw [← hSP, s_D_copyNextFrom]; try (rw [if_neg hc1]); try (rw [if_neg hc3]); all_goals rfl)⟩, by rw [ht]; exact hP9, va_K.moved hW.alike hK9, hD9⟩, hS.F ht⟩) hS.2.2 d_D_copyNextFrom_74
    · --  ((F 9) + (1 : Int32)) = 32
      refine lv_aload_n hx hb d_D_copyNextFrom_46 rfl (lv_at hl 1 rfl) ?_
      refine va_get (D := (dC, dI)) (ci := 2) (v := .ref s9) (C := "VotedTriple$VotedModule") (T := F_D) (N := 19) hx hb hw in_D hown hK hP 3 rfl rfl 0 (by decide) (hw _ k_71) (fun x9 h9 => u_same (hw _ k_72) x9 h9) rfl d_D_copyNextFrom_47 ?_
      refine lv_iconst (v := 0) hx hb d_D_copyNextFrom_50 (by decide) ?_
      refine lv_aload_n hx hb d_D_copyNextFrom_51 rfl (lv_at hl 0 rfl) ?_
      refine va_get (D := (dC, dI)) (ci := 2) (v := .ref r9) (C := "VotedTriple$VotedModule") (T := F_D) (N := 19) hx hb hw in_D hown hK hP 0 rfl rfl 0 (by decide) (hw _ k_71) (fun x9 h9 => u_same (hw _ k_72) x9 h9) rfl d_D_copyNextFrom_52 ?_
      refine lv_iconst (v := 0) hx hb d_D_copyNextFrom_55 (by decide) ?_
      refine lv_bipush (v := 8) hx hb d_D_copyNextFrom_56 (by decide) ?_
      refine va_copyi (ty := .int) hx hb (by rw [hml]; exact hl.1.symm) hown (hw _ k_660) (hw _ k_662) (hw _ k_661) (hw _ k_16) hK hP hD hS 4 1 2 0 rfl rfl rfl rfl rfl (by decide) (by decide) (by decide) (by decide) (by decide) (fun _ _ => rfl) (Nat.le_of_ble_eq_true rfl) (Nat.le_of_ble_eq_true rfl) d_D_copyNextFrom_58 (fun H locs hP hD hS => ?_)
      replace hP : va_P (dC, dI) classes [(h0, .inr (2, [.ref r9, .int (F 1), .int (F 2), .int (F 3), .int (F 4), .int (F 5), .int (F 6), .ref k9, .int (F 8), .int ((F 9) + (1 : Int32)), .int (F 10), .int (F 11), .int (F 12), .int (F 13), .int (F 14), .int (F 15), .int (F 16), .int (F 17), .int (F 18)])), (r9, .inl (cr, 8, .inl (va_cpy rg2 rg 0 0 8))), (k9, .inl (ck, 32, .inl (upd cd (Int32.toNatClampNeg (F 9)) (cd2 (Int32.toNatClampNeg (F 9)))))), (e0, .inr (2, oD F2 s9 j9)), (s9, .inl (cr2, 8, .inl rg2)), (j9, .inl (ck2, 32, .inl cd2))] H := hP
      replace hD : va_D A [(h0, .inr (2, [.ref r9, .int (F 1), .int (F 2), .int (F 3), .int (F 4), .int (F 5), .int (F 6), .ref k9, .int (F 8), .int ((F 9) + (1 : Int32)), .int (F 10), .int (F 11), .int (F 12), .int (F 13), .int (F 14), .int (F 15), .int (F 16), .int (F 17), .int (F 18)])), (r9, .inl (cr, 8, .inl (va_cpy rg2 rg 0 0 8))), (k9, .inl (ck, 32, .inl (upd cd (Int32.toNatClampNeg (F 9)) (cd2 (Int32.toNatClampNeg (F 9)))))), (e0, .inr (2, oD F2 s9 j9)), (s9, .inl (cr2, 8, .inl rg2)), (j9, .inl (ck2, 32, .inl cd2))] := hD
      refine lv_aload_n hx hb d_D_copyNextFrom_61 rfl (lv_at hl 0 rfl) ?_
      refine lv_aload_n hx hb d_D_copyNextFrom_62 rfl (lv_at hl 1 rfl) ?_
      refine va_get (D := (dC, dI)) (ci := 2) (v := .int (F2 1)) (C := "VotedTriple$VotedModule") (T := F_D) (N := 19) hx hb hw in_D hown hK hP 3 rfl rfl 1 (by decide) (hw _ k_75) (fun x9 h9 => u_same (hw _ k_76) x9 h9) rfl d_D_copyNextFrom_63 ?_
      refine va_put (D := (dC, dI)) (ci := 2) (v := .int (F2 1)) (ty := .int) (C := "VotedTriple$VotedModule") (T := F_D) (N := 19) hx hb hw in_D ft_D tyok_D nm_D hown hK hP hD hS 0 rfl rfl 1 (by decide) (hw _ k_75) (fun x9 h9 => u_same (hw _ k_76) x9 h9) rfl (by decide +kernel) rfl rfl (Nat.le_of_ble_eq_true rfl) d_D_copyNextFrom_66 (fun H locs hP hD hS => ?_)
      replace hP : va_P (dC, dI) classes [(h0, .inr (2, [.ref r9, .int (F2 1), .int (F 2), .int (F 3), .int (F 4), .int (F 5), .int (F 6), .ref k9, .int (F 8), .int ((F 9) + (1 : Int32)), .int (F 10), .int (F 11), .int (F 12), .int (F 13), .int (F 14), .int (F 15), .int (F 16), .int (F 17), .int (F 18)])), (r9, .inl (cr, 8, .inl (va_cpy rg2 rg 0 0 8))), (k9, .inl (ck, 32, .inl (upd cd (Int32.toNatClampNeg (F 9)) (cd2 (Int32.toNatClampNeg (F 9)))))), (e0, .inr (2, oD F2 s9 j9)), (s9, .inl (cr2, 8, .inl rg2)), (j9, .inl (ck2, 32, .inl cd2))] H := hP
      replace hD : va_D A [(h0, .inr (2, [.ref r9, .int (F2 1), .int (F 2), .int (F 3), .int (F 4), .int (F 5), .int (F 6), .ref k9, .int (F 8), .int ((F 9) + (1 : Int32)), .int (F 10), .int (F 11), .int (F 12), .int (F 13), .int (F 14), .int (F 15), .int (F 16), .int (F 17), .int (F 18)])), (r9, .inl (cr, 8, .inl (va_cpy rg2 rg 0 0 8))), (k9, .inl (ck, 32, .inl (upd cd (Int32.toNatClampNeg (F 9)) (cd2 (Int32.toNatClampNeg (F 9)))))), (e0, .inr (2, oD F2 s9 j9)), (s9, .inl (cr2, 8, .inl rg2)), (j9, .inl (ck2, 32, .inl cd2))] := hD
      refine lv_aload_n hx hb d_D_copyNextFrom_69 rfl (lv_at hl 0 rfl) ?_
      refine lv_iconst (v := 0) hx hb d_D_copyNextFrom_70 (by decide) ?_
      refine va_put (D := (dC, dI)) (ci := 2) (v := .int 0) (ty := .int) (C := "VotedTriple$VotedModule") (T := F_D) (N := 19) hx hb hw in_D ft_D tyok_D nm_D hown hK hP hD hS 0 rfl rfl 8 (by decide) (hw _ k_142) (fun _ h9 => h9) rfl (by decide +kernel) rfl rfl (Nat.le_of_ble_eq_true rfl) d_D_copyNextFrom_71 (fun H locs hP hD hS => ?_)
      replace hP : va_P (dC, dI) classes [(h0, .inr (2, [.ref r9, .int (F2 1), .int (F 2), .int (F 3), .int (F 4), .int (F 5), .int (F 6), .ref k9, .int 0, .int ((F 9) + (1 : Int32)), .int (F 10), .int (F 11), .int (F 12), .int (F 13), .int (F 14), .int (F 15), .int (F 16), .int (F 17), .int (F 18)])), (r9, .inl (cr, 8, .inl (va_cpy rg2 rg 0 0 8))), (k9, .inl (ck, 32, .inl (upd cd (Int32.toNatClampNeg (F 9)) (cd2 (Int32.toNatClampNeg (F 9)))))), (e0, .inr (2, oD F2 s9 j9)), (s9, .inl (cr2, 8, .inl rg2)), (j9, .inl (ck2, 32, .inl cd2))] H := hP
      replace hD : va_D A [(h0, .inr (2, [.ref r9, .int (F2 1), .int (F 2), .int (F 3), .int (F 4), .int (F 5), .int (F 6), .ref k9, .int 0, .int ((F 9) + (1 : Int32)), .int (F 10), .int (F 11), .int (F 12), .int (F 13), .int (F 14), .int (F 15), .int (F 16), .int (F 17), .int (F 18)])), (r9, .inl (cr, 8, .inl (va_cpy rg2 rg 0 0 8))), (k9, .inl (ck, 32, .inl (upd cd (Int32.toNatClampNeg (F 9)) (cd2 (Int32.toNatClampNeg (F 9)))))), (e0, .inr (2, oD F2 s9 j9)), (s9, .inl (cr2, 8, .inl rg2)), (j9, .inl (ck2, 32, .inl cd2))] := hD
      have p9 := (modF_9 h1 (mk_1 h1.2.2.2 hc1))
      have hP9 := hP.sub (ws' := [(h0, .inr (2, oD (upc (upc (upc F 1 (F2 1)) 8 (0 : Int32)) 9 ((F 9) + (1 : Int32))) r9 k9)), (r9, .inl (cr, 8, .inl (va_cpy rg2 rg 0 0 8))), (k9, .inl (ck, 32, .inl (upd cd (Int32.toNatClampNeg (F 9)) (cd2 (Int32.toNatClampNeg (F 9)))))), (e0, .inr (2, oD F2 s9 j9)), (s9, .inl (cr2, 8, .inl rg2)), (j9, .inl (ck2, 32, .inl cd2))]) [0, 1, 2, 3, 4, 5] rfl
      have hD9 := hD.sub (ws' := [(h0, .inr (2, oD (upc (upc (upc F 1 (F2 1)) 8 (0 : Int32)) 9 ((F 9) + (1 : Int32))) r9 k9)), (r9, .inl (cr, 8, .inl (va_cpy rg2 rg 0 0 8))), (k9, .inl (ck, 32, .inl (upd cd (Int32.toNatClampNeg (F 9)) (cd2 (Int32.toNatClampNeg (F 9)))))), (e0, .inr (2, oD F2 s9 j9)), (s9, .inl (cr2, 8, .inl rg2)), (j9, .inl (ck2, 32, .inl cd2))]) [0, 1, 2, 3, 4, 5] (by decide) rfl
      have hK9 := hK.sub (tys' := [(cr, .int), (ck, .int), (cr2, .int), (ck2, .int)]) [0, 1, 2, 3] rfl
      refine W.widen (k := 0) (n := 0) (Nat.le_of_ble_eq_true rfl) (Nat.le_of_ble_eq_true rfl) ?_
      exact W.vret hx hb hr (fun t ht hW => ⟨⟨(upc (upc (upc F 1 (F2 1)) 8 (0 : Int32)) 9 ((F 9) + (1 : Int32)), va_cpy rg2 rg 0 0 8, upd cd (Int32.toNatClampNeg (F 9)) (cd2 (Int32.toNatClampNeg (F 9)))), rfl, ⟨⟨⟨h3.1, p9.2.1, p9.2.2.1, p9.2.2.2⟩, (wdI_cpy h4 h2)⟩, (by rw [← hSP, s_D_copyNextFrom]; try (rw [if_neg hc1]); try (rw [if_pos hc3]); all_goals rfl)⟩, by rw [ht]; exact hP9, va_K.moved hW.alike hK9, hD9⟩, hS.F ht⟩) hS.2.2 d_D_copyNextFrom_74
