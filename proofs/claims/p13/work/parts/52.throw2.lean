set_option maxHeartbeats 4000000 in
set_option maxRecDepth 100000 in
theorem c_T_step_I (l : Launch) (hst : l.stackTraces = false) (dC : Nat → ClassId) (dI : Nat → Nat → Nat) (h0 : Nat) (p9 : Nat) (a9 : Nat) (e9 : Nat) (n9 : Nat) (o9 : Nat) (uT : Nat → Int32) (x : Int32) (h50 : uT 5 = 0) : tx_Met l y_T_step (tbw y_T_step b_T_step 3 (some .int)) ({ frames := 6, cells := 1, slots := 6, locals := 90 }) (va_Pc [.ref h0, .int x] (fun U => va_P (dC, dI) classes [(h0, .inr (0, oT uT p9 a9 e9 n9 o9))] U.heap ∧ va_K (dC, dI) classes [] U ∧ nw U ∧ tw (fun _ => False) U U.heap)) "java/lang/IllegalStateException" 1 6 := by
  refine tx_ofW (cc := b_T_step) (maxL := 3) (ret := (some .int)) (by decide) rfl ?_
  intro p e s m args below meth c s₁ B hml hv
  obtain ⟨rfl, hP, hK, hnw, htw⟩ := hv
  have hx := B.exec
  have hb := B.bytes
  have hr := B.returns
  have hts := atoms_spec (ws := (tbw y_T_step b_T_step 3 (some .int))) B.pre
  have hw : ∀ z9 ∈ tb, z9.before ([.ref h0, .int x] : List Value).toArray s = true := fun z9 h => hts z9 (List.mem_cons_of_mem _ h)
  have hown : s.vm.findClass "VotedTriple" = some m.cls := findClass_of_methodNamed B.named
  have hlocks := B.notSynchronized
  have hno := B.noHandlers (hts _ List.mem_cons_self)
  have htr : e.platform.stackTraces = false := by rw [(Stand.of_body B).admits.platform]; exact hst
  replace hl := lv_entry ([.ref h0, .int x]) (n := 3) (Nat.le_of_ble_eq_true rfl)
  rw [lg_entry_eq]
  generalize (lg_sl ([.ref h0, .int x]) ++ List.replicate (3 - (lg_sl ([.ref h0, .int x])).length) Slot.unset).toArray = ls at hl ⊢
  replace hl : lv_has ls 3 [(0, .ref h0), (1, .int x)] := hl
  refine lv_aload_n hx hb d_T_step_0 rfl (lv_at hl 0 rfl) ?_
  refine va_get (D := (dC, dI)) (ci := 0) (v := .int (uT 5)) (C := "VotedTriple") (T := F_T) (N := 11) hx hb hw in_T hown hK hP 0 rfl rfl 5 (by decide) (hw _ k_199) (fun _ h9 => h9) rfl d_T_step_1 ?_
  refine lv_if_ne (tgt := 17) hx hb d_T_step_4 rfl (fun hc1 => by first | exact absurd hc1 (h50) | exact absurd (h50) hc1) (fun hc1 => ?_)
  obtain ⟨q9, hq9⟩ := tw_84 htw
  exact tx_throw hx hb htr hlocks hno (by rw [hml]; exact hl.1) hown (by decide) (by decide) (ow_ISE hw hnw htw) (hw _ k_393) (hw _ k_394) (hw _ k_14) hq9 d_T_step_7 d_T_step_10 d_T_step_11 d_T_step_13 d_T_step_16 (Nat.le_of_ble_eq_true rfl) (Nat.le_of_ble_eq_true rfl) (Nat.le_of_ble_eq_true rfl) (Nat.le_of_ble_eq_true rfl)

set_option maxHeartbeats 4000000 in
set_option maxRecDepth 100000 in
theorem c_T_step_A (l : Launch) (hst : l.stackTraces = false) (dC : Nat → ClassId) (dI : Nat → Nat → Nat) (h0 : Nat) (p9 : Nat) (a9 : Nat) (e9 : Nat) (n9 : Nat) (o9 : Nat) (uT : Nat → Int32) (x : Int32) (h51 : ¬ uT 5 = 0) (hr9 : (x < 1 ∨ 2000 < x)) : tx_Met l y_T_step (tbw y_T_step b_T_step 3 (some .int)) ({ frames := 6, cells := 1, slots := 6, locals := 90 }) (va_Pc [.ref h0, .int x] (fun U => va_P (dC, dI) classes [(h0, .inr (0, oT uT p9 a9 e9 n9 o9))] U.heap ∧ va_K (dC, dI) classes [] U ∧ nw U ∧ tw (fun _ => False) U U.heap)) "java/lang/IllegalArgumentException" 1 6 := by
  refine tx_ofW (cc := b_T_step) (maxL := 3) (ret := (some .int)) (by decide) rfl ?_
  intro p e s m args below meth c s₁ B hml hv
  obtain ⟨rfl, hP, hK, hnw, htw⟩ := hv
  have hx := B.exec
  have hb := B.bytes
  have hr := B.returns
  have hts := atoms_spec (ws := (tbw y_T_step b_T_step 3 (some .int))) B.pre
  have hw : ∀ z9 ∈ tb, z9.before ([.ref h0, .int x] : List Value).toArray s = true := fun z9 h => hts z9 (List.mem_cons_of_mem _ h)
  have hown : s.vm.findClass "VotedTriple" = some m.cls := findClass_of_methodNamed B.named
  have hlocks := B.notSynchronized
  have hno := B.noHandlers (hts _ List.mem_cons_self)
  have htr : e.platform.stackTraces = false := by rw [(Stand.of_body B).admits.platform]; exact hst
  replace hl := lv_entry ([.ref h0, .int x]) (n := 3) (Nat.le_of_ble_eq_true rfl)
  rw [lg_entry_eq]
  generalize (lg_sl ([.ref h0, .int x]) ++ List.replicate (3 - (lg_sl ([.ref h0, .int x])).length) Slot.unset).toArray = ls at hl ⊢
  replace hl : lv_has ls 3 [(0, .ref h0), (1, .int x)] := hl
  refine lv_aload_n hx hb d_T_step_0 rfl (lv_at hl 0 rfl) ?_
  refine va_get (D := (dC, dI)) (ci := 0) (v := .int (uT 5)) (C := "VotedTriple") (T := F_T) (N := 11) hx hb hw in_T hown hK hP 0 rfl rfl 5 (by decide) (hw _ k_199) (fun _ h9 => h9) rfl d_T_step_1 ?_
  refine lv_if_ne (tgt := 17) hx hb d_T_step_4 rfl (fun hc1 => ?_) (fun hc1 => by first | exact absurd (h51) hc1 | exact absurd hc1 (h51))
  refine lv_iload_n hx hb d_T_step_17 rfl (lv_at hl 1 rfl) ?_
  refine lv_iconst (v := 1) hx hb d_T_step_18 (by decide) ?_
  refine lv_icmp_lt (tgt := 29) hx hb d_T_step_19 rfl (fun hc2 => ?_) (fun hc2 => ?_)
  · --  x < 1
    obtain ⟨q9, hq9⟩ := tw_91 htw
    exact tx_throw hx hb htr hlocks hno (by rw [hml]; exact hl.1) hown (by decide) (by decide) (ow_IAE hw hnw htw) (hw _ k_461) (hw _ k_462) (hw _ k_15) hq9 d_T_step_29 d_T_step_32 d_T_step_33 d_T_step_35 d_T_step_38 (Nat.le_of_ble_eq_true rfl) (Nat.le_of_ble_eq_true rfl) (Nat.le_of_ble_eq_true rfl) (Nat.le_of_ble_eq_true rfl)
  · --  ¬ x < 1
    refine lv_iload_n hx hb d_T_step_22 rfl (lv_at hl 1 rfl) ?_
    refine lv_sipush (v := 2000) hx hb d_T_step_23 (by decide) ?_
    refine lv_icmp_le (tgt := 39) hx hb d_T_step_26 rfl (fun hc3 => ?_) (fun hc3 => ?_)
    · --  x ≤ 2000
      exact absurd hr9 (fun q => q.elim hc2 (Int32.not_lt.mpr hc3))
    · --  ¬ x ≤ 2000
      obtain ⟨q9, hq9⟩ := tw_91 htw
      exact tx_throw hx hb htr hlocks hno (by rw [hml]; exact hl.1) hown (by decide) (by decide) (ow_IAE hw hnw htw) (hw _ k_461) (hw _ k_462) (hw _ k_15) hq9 d_T_step_29 d_T_step_32 d_T_step_33 d_T_step_35 d_T_step_38 (Nat.le_of_ble_eq_true rfl) (Nat.le_of_ble_eq_true rfl) (Nat.le_of_ble_eq_true rfl) (Nat.le_of_ble_eq_true rfl)

set_option maxHeartbeats 4000000 in
set_option maxRecDepth 100000 in
theorem c_T_output_T (l : Launch) (hst : l.stackTraces = false) (dC : Nat → ClassId) (dI : Nat → Nat → Nat) (h0 : Nat) (p9 : Nat) (a9 : Nat) (e9 : Nat) (n9 : Nat) (o9 : Nat) (ok9 : Nat) (cO : ClassId) (uT : Nat → Int32) (ko : Nat) (kp : Nat → Int32) (x : Int32) (hkp : kpB (nI ko) x = false) : tx_Met l y_T_output (tbw y_T_output b_T_output 2 (some .int)) ({ frames := 6, cells := 1, slots := 6, locals := 90 }) (va_Pc [.ref h0, .int x] (fun U => va_P (dC, dI) classes [(h0, .inr (0, oT uT p9 a9 e9 n9 o9)), (o9, .inr (5, [.ref ok9, .int (nI ko)])), (ok9, .inl (cO, 300, .inl kp))] U.heap ∧ va_K (dC, dI) classes [(cO, .int)] U ∧ nw U ∧ tw (fun _ => False) U U.heap)) "java/lang/IndexOutOfBoundsException" 1 6 := by
  refine tx_ofW (cc := b_T_output) (maxL := 2) (ret := (some .int)) (by decide) rfl ?_
  intro p e s m args below meth c s₁ B hml hv
  obtain ⟨rfl, hP, hK, hnw, htw⟩ := hv
  have hx := B.exec
  have hb := B.bytes
  have hr := B.returns
  have hts := atoms_spec (ws := (tbw y_T_output b_T_output 2 (some .int))) B.pre
  have hw : ∀ z9 ∈ tb, z9.before ([.ref h0, .int x] : List Value).toArray s = true := fun z9 h => hts z9 (List.mem_cons_of_mem _ h)
  have hown : s.vm.findClass "VotedTriple" = some m.cls := findClass_of_methodNamed B.named
  have hlocks := B.notSynchronized
  have hno := B.noHandlers (hts _ List.mem_cons_self)
  have htr : e.platform.stackTraces = false := by rw [(Stand.of_body B).admits.platform]; exact hst
  replace hl := lv_entry ([.ref h0, .int x]) (n := 2) (Nat.le_of_ble_eq_true rfl)
  rw [lg_entry_eq]
  generalize (lg_sl ([.ref h0, .int x]) ++ List.replicate (2 - (lg_sl ([.ref h0, .int x])).length) Slot.unset).toArray = ls at hl ⊢
  replace hl : lv_has ls 2 [(0, .ref h0), (1, .int x)] := hl
  refine lv_aload_n hx hb d_T_output_0 rfl (lv_at hl 0 rfl) ?_
  refine va_get (D := (dC, dI)) (ci := 0) (v := .ref o9) (C := "VotedTriple") (T := F_T) (N := 11) hx hb hw in_T hown hK hP 0 rfl rfl 4 (by decide) (hw _ k_198) (fun _ h9 => h9) rfl d_T_output_1 ?_
  refine lv_iload_n hx hb d_T_output_4 rfl (lv_at hl 1 rfl) ?_
  replace hPc := hP.sub (ws' := [(o9, .inr (5, [.ref ok9, .int (nI ko)]))]) [1] rfl
  replace hKc := hK.sub (tys' := []) [] rfl
  refine vp_callSi (va_runV (C := "VotedTriple$WordsOut") (As := [.int x]) (rest := []) ⟨hx, hb, hml, hown, hw⟩ (c_O_keeps l dC dI o9 ok9 (nI ko) x) (cwV 1 hw (gdV (k_678) (k_675) (k_676) (k_677) (k_5)) rfl rfl rfl (by decide +kernel) ⟨Nat.le_of_ble_eq_true rfl, Nat.le_of_ble_eq_true rfl⟩) ⟨fun a U g mk q => ⟨q.1, q.2.1, va_K.moved (u := U) (U := U.calling g mk a) (Vm.Alike.refl U.vm) q.2.2⟩, va_recv hK hP rfl (q0 := 1) rfl, fun U hU hW => ⟨rfl, by rw [hU]; exact hPc, va_K.moved hW.alike hKc⟩⟩ rfl rfl hl.1 rfl (lv_room (Nat.le_of_ble_eq_true rfl)) d_T_output_5 ⟨Nat.le_of_ble_eq_true rfl, Nat.le_of_ble_eq_true rfl⟩).run (fun r1 hr2 => ?_)
  subst hr2
  refine lv_if_ne (tgt := 21) hx hb d_T_output_8 rfl (fun hc3 => by first | exact absurd hc3 (by rw [hkp]; rfl) | exact absurd (by rw [hkp]; rfl) hc3) (fun hc3 => ?_)
  obtain ⟨q9, hq9⟩ := tw_109 htw
  exact tx_throw hx hb htr hlocks hno (by rw [hml]; exact hl.1) hown (by decide) (by decide) (ow_IOB hw hnw htw) (hw _ k_679) (hw _ k_680) (hw _ k_17) hq9 d_T_output_11 d_T_output_14 d_T_output_15 d_T_output_17 d_T_output_20 (Nat.le_of_ble_eq_true rfl) (Nat.le_of_ble_eq_true rfl) (Nat.le_of_ble_eq_true rfl) (Nat.le_of_ble_eq_true rfl)

set_option maxHeartbeats 4000000 in
set_option maxRecDepth 100000 in
theorem c_T_perfect_T (l : Launch) (hst : l.stackTraces = false) (dC : Nat → ClassId) (dI : Nat → Nat → Nat) (h0 : Nat) (p9 : Nat) (a9 : Nat) (e9 : Nat) (n9 : Nat) (o9 : Nat) (er9 : Nat) (ce : ClassId) (eo9 : Nat) (ew9 : Nat) (cw : ClassId) (ek9 : Nat) (cq : ClassId) (uT : Nat → Int32) (Z : Nat → Int32) (eg : Nat → Int32) (ew : Nat → Int32) (ke : Nat) (pe : Nat → Int32) (x : Int32) (hkp : kpB (nI ke) x = false) : tx_Met l y_T_perfect (tbw y_T_perfect b_T_perfect 2 (some .int)) ({ frames := 6, cells := 1, slots := 6, locals := 90 }) (va_Pc [.ref h0, .int x] (fun U => va_P (dC, dI) classes [(h0, .inr (0, oT uT p9 a9 e9 n9 o9)), (e9, .inr (3, oE Z er9 eo9 ew9)), (er9, .inl (ce, 8, .inl eg)), (ew9, .inl (cw, 32, .inl ew)), (eo9, .inr (5, [.ref ek9, .int (nI ke)])), (ek9, .inl (cq, 300, .inl pe))] U.heap ∧ va_K (dC, dI) classes [(ce, .int), (cw, .int), (cq, .int)] U ∧ nw U ∧ tw (fun _ => False) U U.heap)) "java/lang/IndexOutOfBoundsException" 1 6 := by
  refine tx_ofW (cc := b_T_perfect) (maxL := 2) (ret := (some .int)) (by decide) rfl ?_
  intro p e s m args below meth c s₁ B hml hv
  obtain ⟨rfl, hP, hK, hnw, htw⟩ := hv
  have hx := B.exec
  have hb := B.bytes
  have hr := B.returns
  have hts := atoms_spec (ws := (tbw y_T_perfect b_T_perfect 2 (some .int))) B.pre
  have hw : ∀ z9 ∈ tb, z9.before ([.ref h0, .int x] : List Value).toArray s = true := fun z9 h => hts z9 (List.mem_cons_of_mem _ h)
  have hown : s.vm.findClass "VotedTriple" = some m.cls := findClass_of_methodNamed B.named
  have hlocks := B.notSynchronized
  have hno := B.noHandlers (hts _ List.mem_cons_self)
  have htr : e.platform.stackTraces = false := by rw [(Stand.of_body B).admits.platform]; exact hst
  replace hl := lv_entry ([.ref h0, .int x]) (n := 2) (Nat.le_of_ble_eq_true rfl)
  rw [lg_entry_eq]
  generalize (lg_sl ([.ref h0, .int x]) ++ List.replicate (2 - (lg_sl ([.ref h0, .int x])).length) Slot.unset).toArray = ls at hl ⊢
  replace hl : lv_has ls 2 [(0, .ref h0), (1, .int x)] := hl
  refine lv_aload_n hx hb d_T_perfect_0 rfl (lv_at hl 0 rfl) ?_
  refine va_get (D := (dC, dI)) (ci := 0) (v := .ref e9) (C := "VotedTriple") (T := F_T) (N := 11) hx hb hw in_T hown hK hP 0 rfl rfl 2 (by decide) (hw _ k_196) (fun _ h9 => h9) rfl d_T_perfect_1 ?_
  refine va_get (D := (dC, dI)) (ci := 3) (v := .ref eo9) (C := "VotedTriple$PerfectOne") (T := F_E) (N := 10) hx hb hw in_E hown hK hP 1 rfl rfl 7 (by decide) (hw _ k_67) (fun _ h9 => h9) rfl d_T_perfect_4 ?_
  refine lv_iload_n hx hb d_T_perfect_7 rfl (lv_at hl 1 rfl) ?_
  replace hPc := hP.sub (ws' := [(eo9, .inr (5, [.ref ek9, .int (nI ke)]))]) [4] rfl
  replace hKc := hK.sub (tys' := []) [] rfl
  refine vp_callSi (va_runV (C := "VotedTriple$WordsOut") (As := [.int x]) (rest := []) ⟨hx, hb, hml, hown, hw⟩ (c_O_keeps l dC dI eo9 ek9 (nI ke) x) (cwV 1 hw (gdV (k_678) (k_675) (k_676) (k_677) (k_5)) rfl rfl rfl (by decide +kernel) ⟨Nat.le_of_ble_eq_true rfl, Nat.le_of_ble_eq_true rfl⟩) ⟨fun a U g mk q => ⟨q.1, q.2.1, va_K.moved (u := U) (U := U.calling g mk a) (Vm.Alike.refl U.vm) q.2.2⟩, va_recv hK hP rfl (q0 := 4) rfl, fun U hU hW => ⟨rfl, by rw [hU]; exact hPc, va_K.moved hW.alike hKc⟩⟩ rfl rfl hl.1 rfl (lv_room (Nat.le_of_ble_eq_true rfl)) d_T_perfect_8 ⟨Nat.le_of_ble_eq_true rfl, Nat.le_of_ble_eq_true rfl⟩).run (fun r1 hr2 => ?_)
  subst hr2
  refine lv_if_ne (tgt := 24) hx hb d_T_perfect_11 rfl (fun hc3 => by first | exact absurd hc3 (by rw [hkp]; rfl) | exact absurd (by rw [hkp]; rfl) hc3) (fun hc3 => ?_)
  obtain ⟨q9, hq9⟩ := tw_117 htw
  exact tx_throw hx hb htr hlocks hno (by rw [hml]; exact hl.1) hown (by decide) (by decide) (ow_IOB hw hnw htw) (hw _ k_679) (hw _ k_680) (hw _ k_17) hq9 d_T_perfect_14 d_T_perfect_17 d_T_perfect_18 d_T_perfect_20 d_T_perfect_23 (Nat.le_of_ble_eq_true rfl) (Nat.le_of_ble_eq_true rfl) (Nat.le_of_ble_eq_true rfl) (Nat.le_of_ble_eq_true rfl)

set_option maxHeartbeats 4000000 in
set_option maxRecDepth 100000 in
theorem c_T_flip_T (l : Launch) (hst : l.stackTraces = false) (dC : Nat → ClassId) (dI : Nat → Nat → Nat) (h0 : Nat) (p9 : Nat) (a9 : Nat) (e9 : Nat) (n9 : Nat) (o9 : Nat) (uT : Nat → Int32) (x : Int32) (y : Int32) (z : Int32) (u : Int32) (hfl : (hmB uT x && hbB y z u) = false) : tx_Met l y_T_flip (tbw y_T_flip b_T_flip 6 none) ({ frames := 6, cells := 1, slots := 6, locals := 90 }) (va_Pc [.ref h0, .int x, .int y, .int z, .int u] (fun U => va_P (dC, dI) classes [(h0, .inr (0, oT uT p9 a9 e9 n9 o9))] U.heap ∧ va_K (dC, dI) classes [] U ∧ nw U ∧ tw (fun _ => False) U U.heap)) "java/lang/IndexOutOfBoundsException" 1 6 := by
  refine tx_ofW (cc := b_T_flip) (maxL := 6) (ret := none) (by decide) rfl ?_
  intro p e s m args below meth c s₁ B hml hv
  obtain ⟨rfl, hP, hK, hnw, htw⟩ := hv
  have hx := B.exec
  have hb := B.bytes
  have hr := B.returns
  have hts := atoms_spec (ws := (tbw y_T_flip b_T_flip 6 none)) B.pre
  have hw : ∀ z9 ∈ tb, z9.before ([.ref h0, .int x, .int y, .int z, .int u] : List Value).toArray s = true := fun z9 h => hts z9 (List.mem_cons_of_mem _ h)
  have hown : s.vm.findClass "VotedTriple" = some m.cls := findClass_of_methodNamed B.named
  have hlocks := B.notSynchronized
  have hno := B.noHandlers (hts _ List.mem_cons_self)
  have htr : e.platform.stackTraces = false := by rw [(Stand.of_body B).admits.platform]; exact hst
  replace hl := lv_entry ([.ref h0, .int x, .int y, .int z, .int u]) (n := 6) (Nat.le_of_ble_eq_true rfl)
  rw [lg_entry_eq]
  generalize (lg_sl ([.ref h0, .int x, .int y, .int z, .int u]) ++ List.replicate (6 - (lg_sl ([.ref h0, .int x, .int y, .int z, .int u])).length) Slot.unset).toArray = ls at hl ⊢
  replace hl : lv_has ls 6 [(0, .ref h0), (1, .int x), (2, .int y), (3, .int z), (4, .int u)] := hl
  refine lv_aload_n hx hb d_T_flip_0 rfl (lv_at hl 0 rfl) ?_
  refine lv_iload_n hx hb d_T_flip_1 rfl (lv_at hl 1 rfl) ?_
  replace hPc := hP.sub (ws' := [(h0, .inr (0, oT uT p9 a9 e9 n9 o9))]) [0] rfl
  replace hKc := hK.sub (tys' := []) [] rfl
  refine vp_callSi (va_runV (C := "VotedTriple") (As := [.int x]) (rest := []) ⟨hx, hb, hml, hown, hw⟩ (c_T_hasModule l dC dI h0 p9 a9 e9 n9 o9 uT x) (cwV 1 hw (gdV (k_339) (k_336) (k_338) (ks_0) (k_1)) rfl rfl rfl (by decide +kernel) ⟨Nat.le_of_ble_eq_true rfl, Nat.le_of_ble_eq_true rfl⟩) ⟨fun a U g mk q => ⟨q.1, q.2.1, va_K.moved (u := U) (U := U.calling g mk a) (Vm.Alike.refl U.vm) q.2.2⟩, va_recv hK hP rfl (q0 := 0) rfl, fun U hU hW => ⟨rfl, by rw [hU]; exact hPc, va_K.moved hW.alike hKc⟩⟩ rfl rfl hl.1 rfl (lv_room (Nat.le_of_ble_eq_true rfl)) d_T_flip_2 ⟨Nat.le_of_ble_eq_true rfl, Nat.le_of_ble_eq_true rfl⟩).run (fun r1 hr2 => ?_)
  subst hr2
  refine lv_if_eq (tgt := 18) hx hb d_T_flip_5 rfl (fun hc3 => ?_) (fun hc3 => ?_)
  · --  (bI (hmB uT x)) = 0
    obtain ⟨q9, hq9⟩ := tw_126 htw
    exact tx_throw hx hb htr hlocks hno (by rw [hml]; exact hl.1) hown (by decide) (by decide) (ow_IOB hw hnw htw) (hw _ k_679) (hw _ k_680) (hw _ k_17) hq9 d_T_flip_18 d_T_flip_21 d_T_flip_22 d_T_flip_24 d_T_flip_27 (Nat.le_of_ble_eq_true rfl) (Nat.le_of_ble_eq_true rfl) (Nat.le_of_ble_eq_true rfl) (Nat.le_of_ble_eq_true rfl)
  · --  ¬ (bI (hmB uT x)) = 0
    refine lv_iload_n hx hb d_T_flip_8 rfl (lv_at hl 2 rfl) ?_
    refine lv_iload_n hx hb d_T_flip_9 rfl (lv_at hl 3 rfl) ?_
    refine lv_iload hx hb d_T_flip_10 (lv_at hl 4 rfl) ?_
    refine vp_callSi (va_runS (As := [.int y, .int z, .int u]) (rest := []) ⟨hx, hb, hml, hown, hw⟩ (c_T_hasBit l dC dI y z u) (va_cwS 3 hw (gdS (k_712) (k_710) (k_711) (k_1)) rfl rfl rfl (by decide +kernel) ⟨Nat.le_of_ble_eq_true rfl, Nat.le_of_ble_eq_true rfl⟩) ⟨fun _ _ _ _ q => q, fun _ _ _ => ⟨rfl, trivial⟩⟩ rfl rfl hl.1 rfl (lv_room (Nat.le_of_ble_eq_true rfl)) d_T_flip_12 ⟨Nat.le_of_ble_eq_true rfl, Nat.le_of_ble_eq_true rfl⟩).run (fun r4 hr5 => ?_)
    subst hr5
    refine lv_if_ne (tgt := 28) hx hb d_T_flip_15 rfl (fun hc6 => ?_) (fun hc6 => ?_)
    · --  ¬ (bI (hbB y z u)) = 0
      exact absurd hfl (by rw [bI_t hc3, bI_t hc6]; decide)
    · --  (bI (hbB y z u)) = 0
      obtain ⟨q9, hq9⟩ := tw_126 htw
      exact tx_throw hx hb htr hlocks hno (by rw [hml]; exact hl.1) hown (by decide) (by decide) (ow_IOB hw hnw htw) (hw _ k_679) (hw _ k_680) (hw _ k_17) hq9 d_T_flip_18 d_T_flip_21 d_T_flip_22 d_T_flip_24 d_T_flip_27 (Nat.le_of_ble_eq_true rfl) (Nat.le_of_ble_eq_true rfl) (Nat.le_of_ble_eq_true rfl) (Nat.le_of_ble_eq_true rfl)
