set_option maxHeartbeats 4000000 in
set_option maxRecDepth 100000 in
theorem c_I_bitCount (l : Launch) (dC : Nat → ClassId) (dI : Nat → Nat → Nat) (x : Int32) : Met l y_I_bitCount (tbw y_I_bitCount b_I_bitCount 1 (some .int)) ({ frames := 0, cells := 0, slots := 0, locals := 0 }) (va_Pc [.int x] (fun _ => True)) (vp_Si (fun r => (True) ∧ r = s_I_bitCount x)) 0 0 (fun _ => False) := by
  refine Met.ofW (cc := b_I_bitCount) (maxL := 1) (ret := (some .int)) (by decide) rfl ?_
  intro p e s m args below meth c s₁ B hml hv
  obtain ⟨rfl, -⟩ := hv
  have hx := B.exec
  have hb := B.bytes
  have hr := B.returns
  have hts := atoms_spec (ws := (tbw y_I_bitCount b_I_bitCount 1 (some .int))) B.pre
  have hw : ∀ z9 ∈ tb, z9.before ([.int x] : List Value).toArray s = true := fun z9 h => hts z9 (List.mem_cons_of_mem _ h)
  have hown : s.vm.findClass "java/lang/Integer" = some m.cls := findClass_of_methodNamed B.named
  have hlocks := B.notSynchronized
  replace hl := lv_entry ([.int x]) (n := 1) (Nat.le_of_ble_eq_true rfl)
  rw [lg_entry_eq]
  generalize (lg_sl ([.int x]) ++ List.replicate (1 - (lg_sl ([.int x])).length) Slot.unset).toArray = ls at hl ⊢
  replace hl : lv_has ls 1 [(0, .int x)] := hl
  generalize hSP : s_I_bitCount x = SP
  refine lv_iload_n hx hb d_I_bitCount_0 rfl (lv_at hl 0 rfl) ?_
  refine lv_iload_n hx hb d_I_bitCount_1 rfl (lv_at hl 0 rfl) ?_
  refine lv_iconst (v := 1) hx hb d_I_bitCount_2 (by decide) ?_
  refine lv_iushr (v := ush x 1) hx hb d_I_bitCount_3 rfl ?_
  refine lv_ldcw (v := 1431655765) hx hb hown (hw _ k_288) d_I_bitCount_4 ?_
  refine lv_iand hx hb d_I_bitCount_7 ?_
  refine lv_isub hx hb d_I_bitCount_8 ?_
  refine lv_istore_n hx hb d_I_bitCount_9 rfl hl (by decide) rfl (fun ls hl => ?_)
  replace hl : lv_has ls 1 [(0, .int (x - ((ush x 1) &&& (1431655765 : Int32))))] := hl
  refine lv_iload_n hx hb d_I_bitCount_10 rfl (lv_at hl 0 rfl) ?_
  refine lv_ldcw (v := 858993459) hx hb hown (hw _ k_289) d_I_bitCount_11 ?_
  refine lv_iand hx hb d_I_bitCount_14 ?_
  refine lv_iload_n hx hb d_I_bitCount_15 rfl (lv_at hl 0 rfl) ?_
  refine lv_iconst (v := 2) hx hb d_I_bitCount_16 (by decide) ?_
  refine lv_iushr (v := ush (x - ((ush x 1) &&& (1431655765 : Int32))) 2) hx hb d_I_bitCount_17 rfl ?_
  refine lv_ldcw (v := 858993459) hx hb hown (hw _ k_289) d_I_bitCount_18 ?_
  refine lv_iand hx hb d_I_bitCount_21 ?_
  refine lv_iadd hx hb d_I_bitCount_22 ?_
  refine lv_istore_n hx hb d_I_bitCount_23 rfl hl (by decide) rfl (fun ls hl => ?_)
  replace hl : lv_has ls 1 [(0, .int (((x - ((ush x 1) &&& (1431655765 : Int32))) &&& (858993459 : Int32)) + ((ush (x - ((ush x 1) &&& (1431655765 : Int32))) 2) &&& (858993459 : Int32))))] := hl
  refine lv_iload_n hx hb d_I_bitCount_24 rfl (lv_at hl 0 rfl) ?_
  refine lv_iload_n hx hb d_I_bitCount_25 rfl (lv_at hl 0 rfl) ?_
  refine lv_iconst (v := 4) hx hb d_I_bitCount_26 (by decide) ?_
  refine lv_iushr (v := ush (((x - ((ush x 1) &&& (1431655765 : Int32))) &&& (858993459 : Int32)) + ((ush (x - ((ush x 1) &&& (1431655765 : Int32))) 2) &&& (858993459 : Int32))) 4) hx hb d_I_bitCount_27 rfl ?_
  refine lv_iadd hx hb d_I_bitCount_28 ?_
  refine lv_ldcw (v := 252645135) hx hb hown (hw _ k_290) d_I_bitCount_29 ?_
  refine lv_iand hx hb d_I_bitCount_32 ?_
  refine lv_istore_n hx hb d_I_bitCount_33 rfl hl (by decide) rfl (fun ls hl => ?_)
  replace hl : lv_has ls 1 [(0, .int (((((x - ((ush x 1) &&& (1431655765 : Int32))) &&& (858993459 : Int32)) + ((ush (x - ((ush x 1) &&& (1431655765 : Int32))) 2) &&& (858993459 : Int32))) + (ush (((x - ((ush x 1) &&& (1431655765 : Int32))) &&& (858993459 : Int32)) + ((ush (x - ((ush x 1) &&& (1431655765 : Int32))) 2) &&& (858993459 : Int32))) 4)) &&& (252645135 : Int32)))] := hl
  refine lv_iload_n hx hb d_I_bitCount_34 rfl (lv_at hl 0 rfl) ?_
  refine lv_iload_n hx hb d_I_bitCount_35 rfl (lv_at hl 0 rfl) ?_
  refine lv_bipush (v := 8) hx hb d_I_bitCount_36 (by decide) ?_
  refine lv_iushr (v := ush (((((x - ((ush x 1) &&& (1431655765 : Int32))) &&& (858993459 : Int32)) + ((ush (x - ((ush x 1) &&& (1431655765 : Int32))) 2) &&& (858993459 : Int32))) + (ush (((x - ((ush x 1) &&& (1431655765 : Int32))) &&& (858993459 : Int32)) + ((ush (x - ((ush x 1) &&& (1431655765 : Int32))) 2) &&& (858993459 : Int32))) 4)) &&& (252645135 : Int32)) 8) hx hb d_I_bitCount_38 rfl ?_
  refine lv_iadd hx hb d_I_bitCount_39 ?_
  refine lv_istore_n hx hb d_I_bitCount_40 rfl hl (by decide) rfl (fun ls hl => ?_)
  replace hl : lv_has ls 1 [(0, .int ((((((x - ((ush x 1) &&& (1431655765 : Int32))) &&& (858993459 : Int32)) + ((ush (x - ((ush x 1) &&& (1431655765 : Int32))) 2) &&& (858993459 : Int32))) + (ush (((x - ((ush x 1) &&& (1431655765 : Int32))) &&& (858993459 : Int32)) + ((ush (x - ((ush x 1) &&& (1431655765 : Int32))) 2) &&& (858993459 : Int32))) 4)) &&& (252645135 : Int32)) + (ush (((((x - ((ush x 1) &&& (1431655765 : Int32))) &&& (858993459 : Int32)) + ((ush (x - ((ush x 1) &&& (1431655765 : Int32))) 2) &&& (858993459 : Int32))) + (ush (((x - ((ush x 1) &&& (1431655765 : Int32))) &&& (858993459 : Int32)) + ((ush (x - ((ush x 1) &&& (1431655765 : Int32))) 2) &&& (858993459 : Int32))) 4)) &&& (252645135 : Int32)) 8)))] := hl
  refine lv_iload_n hx hb d_I_bitCount_41 rfl (lv_at hl 0 rfl) ?_
  refine lv_iload_n hx hb d_I_bitCount_42 rfl (lv_at hl 0 rfl) ?_
  refine lv_bipush (v := 16) hx hb d_I_bitCount_43 (by decide) ?_
  refine lv_iushr (v := ush ((((((x - ((ush x 1) &&& (1431655765 : Int32))) &&& (858993459 : Int32)) + ((ush (x - ((ush x 1) &&& (1431655765 : Int32))) 2) &&& (858993459 : Int32))) + (ush (((x - ((ush x 1) &&& (1431655765 : Int32))) &&& (858993459 : Int32)) + ((ush (x - ((ush x 1) &&& (1431655765 : Int32))) 2) &&& (858993459 : Int32))) 4)) &&& (252645135 : Int32)) + (ush (((((x - ((ush x 1) &&& (1431655765 : Int32))) &&& (858993459 : Int32)) + ((ush (x - ((ush x 1) &&& (1431655765 : Int32))) 2) &&& (858993459 : Int32))) + (ush (((x - ((ush x 1) &&& (1431655765 : Int32))) &&& (858993459 : Int32)) + ((ush (x - ((ush x 1) &&& (1431655765 : Int32))) 2) &&& (858993459 : Int32))) 4)) &&& (252645135 : Int32)) 8)) 16) hx hb d_I_bitCount_45 rfl ?_
  refine lv_iadd hx hb d_I_bitCount_46 ?_
  refine lv_istore_n hx hb d_I_bitCount_47 rfl hl (by decide) rfl (fun ls hl => ?_)
  replace hl : lv_has ls 1 [(0, .int (((((((x - ((ush x 1) &&& (1431655765 : Int32))) &&& (858993459 : Int32)) + ((ush (x - ((ush x 1) &&& (1431655765 : Int32))) 2) &&& (858993459 : Int32))) + (ush (((x - ((ush x 1) &&& (1431655765 : Int32))) &&& (858993459 : Int32)) + ((ush (x - ((ush x 1) &&& (1431655765 : Int32))) 2) &&& (858993459 : Int32))) 4)) &&& (252645135 : Int32)) + (ush (((((x - ((ush x 1) &&& (1431655765 : Int32))) &&& (858993459 : Int32)) + ((ush (x - ((ush x 1) &&& (1431655765 : Int32))) 2) &&& (858993459 : Int32))) + (ush (((x - ((ush x 1) &&& (1431655765 : Int32))) &&& (858993459 : Int32)) + ((ush (x - ((ush x 1) &&& (1431655765 : Int32))) 2) &&& (858993459 : Int32))) 4)) &&& (252645135 : Int32)) 8)) + (ush ((((((x - ((ush x 1) &&& (1431655765 : Int32))) &&& (858993459 : Int32)) + ((ush (x - ((ush x 1) &&& (1431655765 : Int32))) 2) &&& (858993459 : Int32))) + (ush (((x - ((ush x 1) &&& (1431655765 : Int32))) &&& (858993459 : Int32)) + ((ush (x - ((ush x 1) &&& (1431655765 : Int32))) 2) &&& (858993459 : Int32))) 4)) &&& (252645135 : Int32)) + (ush (((((x - ((ush x 1) &&& (1431655765 : Int32))) &&& (858993459 : Int32)) + ((ush (x - ((ush x 1) &&& (1431655765 : Int32))) 2) &&& (858993459 : Int32))) + (ush (((x - ((ush x 1) &&& (1431655765 : Int32))) &&& (858993459 : Int32)) + ((ush (x - ((ush x 1) &&& (1431655765 : Int32))) 2) &&& (858993459 : Int32))) 4)) &&& (252645135 : Int32)) 8)) 16)))] := hl
  refine lv_iload_n hx hb d_I_bitCount_48 rfl (lv_at hl 0 rfl) ?_
  refine lv_bipush (v := 63) hx hb d_I_bitCount_49 (by decide) ?_
  refine lv_iand hx hb d_I_bitCount_51 ?_
  exact W.iret (v := ((((((((x - ((ush x 1) &&& (1431655765 : Int32))) &&& (858993459 : Int32)) + ((ush (x - ((ush x 1) &&& (1431655765 : Int32))) 2) &&& (858993459 : Int32))) + (ush (((x - ((ush x 1) &&& (1431655765 : Int32))) &&& (858993459 : Int32)) + ((ush (x - ((ush x 1) &&& (1431655765 : Int32))) 2) &&& (858993459 : Int32))) 4)) &&& (252645135 : Int32)) + (ush (((((x - ((ush x 1) &&& (1431655765 : Int32))) &&& (858993459 : Int32)) + ((ush (x - ((ush x 1) &&& (1431655765 : Int32))) 2) &&& (858993459 : Int32))) + (ush (((x - ((ush x 1) &&& (1431655765 : Int32))) &&& (858993459 : Int32)) + ((ush (x - ((ush x 1) &&& (1431655765 : Int32))) 2) &&& (858993459 : Int32))) 4)) &&& (252645135 : Int32)) 8)) + (ush ((((((x - ((ush x 1) &&& (1431655765 : Int32))) &&& (858993459 : Int32)) + ((ush (x - ((ush x 1) &&& (1431655765 : Int32))) 2) &&& (858993459 : Int32))) + (ush (((x - ((ush x 1) &&& (1431655765 : Int32))) &&& (858993459 : Int32)) + ((ush (x - ((ush x 1) &&& (1431655765 : Int32))) 2) &&& (858993459 : Int32))) 4)) &&& (252645135 : Int32)) + (ush (((((x - ((ush x 1) &&& (1431655765 : Int32))) &&& (858993459 : Int32)) + ((ush (x - ((ush x 1) &&& (1431655765 : Int32))) 2) &&& (858993459 : Int32))) + (ush (((x - ((ush x 1) &&& (1431655765 : Int32))) &&& (858993459 : Int32)) + ((ush (x - ((ush x 1) &&& (1431655765 : Int32))) 2) &&& (858993459 : Int32))) 4)) &&& (252645135 : Int32)) 8)) 16)) &&& (63 : Int32))) hx hb hr (fun t ht _ => ⟨_, rfl, ⟨trivial, (by rw [← hSP, s_I_bitCount]; all_goals rfl)⟩, ht⟩) (fun _ h => by cases h) d_I_bitCount_52

set_option maxHeartbeats 4000000 in
set_option maxRecDepth 100000 in
theorem c_K_exclusiveOr (l : Launch) (dC : Nat → ClassId) (dI : Nat → Nat → Nat) (t9 : Nat) (x : Int32) : Met l y_K_exclusiveOr (tbw y_K_exclusiveOr b_K_exclusiveOr 3 (some .int)) ({ frames := 1, cells := 0, slots := 0, locals := 20 }) (va_Pc [.int x] (fun U => va_P (dC, dI) classes [] U.heap ∧ va_K (dC, dI) classes [] U ∧ cb t9 (fun _ => False) U U.heap)) (vp_Si (fun r => (True) ∧ r = s_K_exclusiveOr x)) 0 0 (fun _ => False) := by
  refine Met.ofW (cc := b_K_exclusiveOr) (maxL := 3) (ret := (some .int)) (by decide) rfl ?_
  intro p e s m args below meth c s₁ B hml hv
  obtain ⟨rfl, hP, hK, hcb⟩ := hv
  have hx := B.exec
  have hb := B.bytes
  have hr := B.returns
  have hts := atoms_spec (ws := (tbw y_K_exclusiveOr b_K_exclusiveOr 3 (some .int))) B.pre
  have hw : ∀ z9 ∈ tb, z9.before ([.int x] : List Value).toArray s = true := fun z9 h => hts z9 (List.mem_cons_of_mem _ h)
  have hown : s.vm.findClass "VotedTriple$Code" = some m.cls := findClass_of_methodNamed B.named
  have hlocks := B.notSynchronized
  replace hl := lv_entry ([.int x]) (n := 3) (Nat.le_of_ble_eq_true rfl)
  rw [lg_entry_eq]
  generalize (lg_sl ([.int x]) ++ List.replicate (3 - (lg_sl ([.int x])).length) Slot.unset).toArray = ls at hl ⊢
  replace hl : lv_has ls 3 [(0, .int x)] := hl
  generalize hSP : s_K_exclusiveOr x = SP
  have cut5 : ∀ (v1 : Int32) (ls : Array Slot), SP = s_K_exclusiveOr_cut5 v1 →  lv_has ls 3 [(0, .int x), (1, .int v1), (2, .int 5)] → W p l e (headSpec (tbw y_K_exclusiveOr b_K_exclusiveOr 3 (some .int)) ({ frames := 1, cells := 0, slots := 0, locals := 20 })).room s m ([.int x] : List Value).toArray below meth c s.heap [] 0 0 (MQ below (vp_Si (fun r => (True) ∧ r = SP)) ([.int x] : List Value).toArray s 0 0 (fun _ => False)) (F0 m 4 ls []) := by
    intro v1 ls hSq0 hl
    refine lv_iload_n hx hb d_K_exclusiveOr_4 rfl (lv_at hl 2 rfl) ?_
    refine va_gets hx hb hcb.1 va_S.rf hown (hw _ k_283) (fun _ h9 => h9) d_K_exclusiveOr_5 ?_
    refine va_tlen (v := 5) hx hb hcb.2 va_S.rf rfl d_K_exclusiveOr_8 ?_
    refine lv_icmp_ge (tgt := 35) hx hb d_K_exclusiveOr_9 rfl (fun hc1 => ?_) (fun hc1 => by first | exact absurd (by decide) hc1 | exact absurd hc1 (by decide))
    refine lv_iload_n hx hb d_K_exclusiveOr_35 rfl (lv_at hl 1 rfl) ?_
    exact W.iret (v := v1) hx hb hr (fun t ht _ => ⟨_, rfl, ⟨trivial, (by rw [hSq0, s_K_exclusiveOr_cut5]; all_goals rfl)⟩, ht⟩) (fun _ h => by cases h) d_K_exclusiveOr_36
  have cut4 : ∀ (v1 : Int32) (ls : Array Slot), SP = s_K_exclusiveOr_cut4 x v1 →  lv_has ls 3 [(0, .int x), (1, .int v1), (2, .int 4)] → W p l e (headSpec (tbw y_K_exclusiveOr b_K_exclusiveOr 3 (some .int)) ({ frames := 1, cells := 0, slots := 0, locals := 20 })).room s m ([.int x] : List Value).toArray below meth c s.heap [] 0 0 (MQ below (vp_Si (fun r => (True) ∧ r = SP)) ([.int x] : List Value).toArray s 0 0 (fun _ => False)) (F0 m 4 ls []) := by
    intro v1 ls hSq0 hl
    refine lv_iload_n hx hb d_K_exclusiveOr_4 rfl (lv_at hl 2 rfl) ?_
    refine va_gets hx hb hcb.1 va_S.rf hown (hw _ k_283) (fun _ h9 => h9) d_K_exclusiveOr_5 ?_
    refine va_tlen (v := 5) hx hb hcb.2 va_S.rf rfl d_K_exclusiveOr_8 ?_
    refine lv_icmp_ge (tgt := 35) hx hb d_K_exclusiveOr_9 rfl (fun hc2 => by first | exact absurd hc2 (by decide) | exact absurd (by decide) hc2) (fun hc2 => ?_)
    refine lv_iload_n hx hb d_K_exclusiveOr_12 rfl (lv_at hl 1 rfl) ?_
    refine lv_iload_n hx hb d_K_exclusiveOr_13 rfl (lv_at hl 0 rfl) ?_
    refine va_gets hx hb hcb.1 va_S.rf hown (hw _ k_283) (fun _ h9 => h9) d_K_exclusiveOr_14 ?_
    refine lv_iload_n hx hb d_K_exclusiveOr_17 rfl (lv_at hl 2 rfl) ?_
    refine va_ti (v := .int 4128768) hx hb hcb.2 va_S.rf (by unfold vp_in; decide) rfl d_K_exclusiveOr_18 ?_
    refine lv_iand hx hb d_K_exclusiveOr_19 ?_
    refine vp_callSi (va_runS (As := [.int (x &&& (4128768 : Int32))]) (rest := [.int v1]) ⟨hx, hb, hml, hown, hw⟩ (c_I_bitCount l dC dI (x &&& (4128768 : Int32))) (va_cwS 1 hw (gdS (k_287) (k_285) (k_286) (k_10)) rfl rfl rfl (by decide +kernel) ⟨Nat.le_of_ble_eq_true rfl, Nat.le_of_ble_eq_true rfl⟩) ⟨fun _ _ _ _ q => q, fun _ _ _ => ⟨rfl, trivial⟩⟩ rfl rfl hl.1 rfl (lv_room (Nat.le_of_ble_eq_true rfl)) d_K_exclusiveOr_20 ⟨Nat.le_of_ble_eq_true rfl, Nat.le_of_ble_eq_true rfl⟩).run (fun r3 hr4 => ?_)
    obtain ⟨hr4, hr4E⟩ := hr4
    refine lv_iconst (v := 1) hx hb d_K_exclusiveOr_23 (by decide) ?_
    refine lv_iand hx hb d_K_exclusiveOr_24 ?_
    refine lv_iload_n hx hb d_K_exclusiveOr_25 rfl (lv_at hl 2 rfl) ?_
    refine lv_ishl hx hb d_K_exclusiveOr_26 ?_
    refine lv_ior hx hb d_K_exclusiveOr_27 ?_
    refine lv_istore_n hx hb d_K_exclusiveOr_28 rfl hl (by decide) rfl (fun ls hl => ?_)
    replace hl : lv_has ls 3 [(1, .int (v1 ||| ((r3 &&& (1 : Int32)) <<< ((4 : Int32) &&& 31)))), (0, .int x), (2, .int 4)] := hl
    refine lv_iinc (k := 2) (v := 5) hx hb d_K_exclusiveOr_29 hl rfl rfl (by decide) rfl (fun ls hl => ?_)
    replace hl : lv_has ls 3 [(2, .int 5), (1, .int (v1 ||| ((r3 &&& (1 : Int32)) <<< ((4 : Int32) &&& 31)))), (0, .int x)] := hl
    refine lv_goto (tgt := 4) hx hb d_K_exclusiveOr_32 rfl ?_
    have hSq : SP = s_K_exclusiveOr_cut5 (v1 ||| ((r3 &&& (1 : Int32)) <<< ((4 : Int32) &&& 31))) := by rw [hSq0, s_K_exclusiveOr_cut4]; try (rw [← hr4E, bnd_eq]); all_goals rfl
    replace hl := lv_sub hl (l' := [(0, .int x), (1, .int (v1 ||| ((r3 &&& (1 : Int32)) <<< ((4 : Int32) &&& 31)))), (2, .int 5)]) [2, 1, 0] rfl
    exact cut5 (v1 ||| ((r3 &&& (1 : Int32)) <<< ((4 : Int32) &&& 31))) _ hSq hl
  have cut3 : ∀ (v1 : Int32) (ls : Array Slot), SP = s_K_exclusiveOr_cut3 x v1 →  lv_has ls 3 [(0, .int x), (1, .int v1), (2, .int 3)] → W p l e (headSpec (tbw y_K_exclusiveOr b_K_exclusiveOr 3 (some .int)) ({ frames := 1, cells := 0, slots := 0, locals := 20 })).room s m ([.int x] : List Value).toArray below meth c s.heap [] 0 0 (MQ below (vp_Si (fun r => (True) ∧ r = SP)) ([.int x] : List Value).toArray s 0 0 (fun _ => False)) (F0 m 4 ls []) := by
    intro v1 ls hSq0 hl
    clear cut5
    refine lv_iload_n hx hb d_K_exclusiveOr_4 rfl (lv_at hl 2 rfl) ?_
    refine va_gets hx hb hcb.1 va_S.rf hown (hw _ k_283) (fun _ h9 => h9) d_K_exclusiveOr_5 ?_
    refine va_tlen (v := 5) hx hb hcb.2 va_S.rf rfl d_K_exclusiveOr_8 ?_
    refine lv_icmp_ge (tgt := 35) hx hb d_K_exclusiveOr_9 rfl (fun hc5 => by first | exact absurd hc5 (by decide) | exact absurd (by decide) hc5) (fun hc5 => ?_)
    refine lv_iload_n hx hb d_K_exclusiveOr_12 rfl (lv_at hl 1 rfl) ?_
    refine lv_iload_n hx hb d_K_exclusiveOr_13 rfl (lv_at hl 0 rfl) ?_
    refine va_gets hx hb hcb.1 va_S.rf hown (hw _ k_283) (fun _ h9 => h9) d_K_exclusiveOr_14 ?_
    refine lv_iload_n hx hb d_K_exclusiveOr_17 rfl (lv_at hl 2 rfl) ?_
    refine va_ti (v := .int 65280) hx hb hcb.2 va_S.rf (by unfold vp_in; decide) rfl d_K_exclusiveOr_18 ?_
    refine lv_iand hx hb d_K_exclusiveOr_19 ?_
    refine vp_callSi (va_runS (As := [.int (x &&& (65280 : Int32))]) (rest := [.int v1]) ⟨hx, hb, hml, hown, hw⟩ (c_I_bitCount l dC dI (x &&& (65280 : Int32))) (va_cwS 1 hw (gdS (k_287) (k_285) (k_286) (k_10)) rfl rfl rfl (by decide +kernel) ⟨Nat.le_of_ble_eq_true rfl, Nat.le_of_ble_eq_true rfl⟩) ⟨fun _ _ _ _ q => q, fun _ _ _ => ⟨rfl, trivial⟩⟩ rfl rfl hl.1 rfl (lv_room (Nat.le_of_ble_eq_true rfl)) d_K_exclusiveOr_20 ⟨Nat.le_of_ble_eq_true rfl, Nat.le_of_ble_eq_true rfl⟩).run (fun r6 hr7 => ?_)
    obtain ⟨hr7, hr7E⟩ := hr7
    refine lv_iconst (v := 1) hx hb d_K_exclusiveOr_23 (by decide) ?_
    refine lv_iand hx hb d_K_exclusiveOr_24 ?_
    refine lv_iload_n hx hb d_K_exclusiveOr_25 rfl (lv_at hl 2 rfl) ?_
    refine lv_ishl hx hb d_K_exclusiveOr_26 ?_
    refine lv_ior hx hb d_K_exclusiveOr_27 ?_
    refine lv_istore_n hx hb d_K_exclusiveOr_28 rfl hl (by decide) rfl (fun ls hl => ?_)
    replace hl : lv_has ls 3 [(1, .int (v1 ||| ((r6 &&& (1 : Int32)) <<< ((3 : Int32) &&& 31)))), (0, .int x), (2, .int 3)] := hl
    refine lv_iinc (k := 2) (v := 4) hx hb d_K_exclusiveOr_29 hl rfl rfl (by decide) rfl (fun ls hl => ?_)
    replace hl : lv_has ls 3 [(2, .int 4), (1, .int (v1 ||| ((r6 &&& (1 : Int32)) <<< ((3 : Int32) &&& 31)))), (0, .int x)] := hl
    refine lv_goto (tgt := 4) hx hb d_K_exclusiveOr_32 rfl ?_
    have hSq : SP = s_K_exclusiveOr_cut4 x (v1 ||| ((r6 &&& (1 : Int32)) <<< ((3 : Int32) &&& 31))) := by rw [hSq0, s_K_exclusiveOr_cut3]; try (rw [← hr7E, bnd_eq]); all_goals rfl
    replace hl := lv_sub hl (l' := [(0, .int x), (1, .int (v1 ||| ((r6 &&& (1 : Int32)) <<< ((3 : Int32) &&& 31)))), (2, .int 4)]) [2, 1, 0] rfl
    exact cut4 (v1 ||| ((r6 &&& (1 : Int32)) <<< ((3 : Int32) &&& 31))) _ hSq hl
  have cut2 : ∀ (v1 : Int32) (ls : Array Slot), SP = s_K_exclusiveOr_cut2 x v1 →  lv_has ls 3 [(0, .int x), (1, .int v1), (2, .int 2)] → W p l e (headSpec (tbw y_K_exclusiveOr b_K_exclusiveOr 3 (some .int)) ({ frames := 1, cells := 0, slots := 0, locals := 20 })).room s m ([.int x] : List Value).toArray below meth c s.heap [] 0 0 (MQ below (vp_Si (fun r => (True) ∧ r = SP)) ([.int x] : List Value).toArray s 0 0 (fun _ => False)) (F0 m 4 ls []) := by
    intro v1 ls hSq0 hl
    clear cut5 cut4
    refine lv_iload_n hx hb d_K_exclusiveOr_4 rfl (lv_at hl 2 rfl) ?_
    refine va_gets hx hb hcb.1 va_S.rf hown (hw _ k_283) (fun _ h9 => h9) d_K_exclusiveOr_5 ?_
    refine va_tlen (v := 5) hx hb hcb.2 va_S.rf rfl d_K_exclusiveOr_8 ?_
    refine lv_icmp_ge (tgt := 35) hx hb d_K_exclusiveOr_9 rfl (fun hc8 => by first | exact absurd hc8 (by decide) | exact absurd (by decide) hc8) (fun hc8 => ?_)
    refine lv_iload_n hx hb d_K_exclusiveOr_12 rfl (lv_at hl 1 rfl) ?_
    refine lv_iload_n hx hb d_K_exclusiveOr_13 rfl (lv_at hl 0 rfl) ?_
    refine va_gets hx hb hcb.1 va_S.rf hown (hw _ k_283) (fun _ h9 => h9) d_K_exclusiveOr_14 ?_
    refine lv_iload_n hx hb d_K_exclusiveOr_17 rfl (lv_at hl 2 rfl) ?_
    refine va_ti (v := .int 3207408) hx hb hcb.2 va_S.rf (by unfold vp_in; decide) rfl d_K_exclusiveOr_18 ?_
    refine lv_iand hx hb d_K_exclusiveOr_19 ?_
    refine vp_callSi (va_runS (As := [.int (x &&& (3207408 : Int32))]) (rest := [.int v1]) ⟨hx, hb, hml, hown, hw⟩ (c_I_bitCount l dC dI (x &&& (3207408 : Int32))) (va_cwS 1 hw (gdS (k_287) (k_285) (k_286) (k_10)) rfl rfl rfl (by decide +kernel) ⟨Nat.le_of_ble_eq_true rfl, Nat.le_of_ble_eq_true rfl⟩) ⟨fun _ _ _ _ q => q, fun _ _ _ => ⟨rfl, trivial⟩⟩ rfl rfl hl.1 rfl (lv_room (Nat.le_of_ble_eq_true rfl)) d_K_exclusiveOr_20 ⟨Nat.le_of_ble_eq_true rfl, Nat.le_of_ble_eq_true rfl⟩).run (fun r9 hr10 => ?_)
    obtain ⟨hr10, hr10E⟩ := hr10
    refine lv_iconst (v := 1) hx hb d_K_exclusiveOr_23 (by decide) ?_
    refine lv_iand hx hb d_K_exclusiveOr_24 ?_
    refine lv_iload_n hx hb d_K_exclusiveOr_25 rfl (lv_at hl 2 rfl) ?_
    refine lv_ishl hx hb d_K_exclusiveOr_26 ?_
    refine lv_ior hx hb d_K_exclusiveOr_27 ?_
    refine lv_istore_n hx hb d_K_exclusiveOr_28 rfl hl (by decide) rfl (fun ls hl => ?_)
    replace hl : lv_has ls 3 [(1, .int (v1 ||| ((r9 &&& (1 : Int32)) <<< ((2 : Int32) &&& 31)))), (0, .int x), (2, .int 2)] := hl
    refine lv_iinc (k := 2) (v := 3) hx hb d_K_exclusiveOr_29 hl rfl rfl (by decide) rfl (fun ls hl => ?_)
    replace hl : lv_has ls 3 [(2, .int 3), (1, .int (v1 ||| ((r9 &&& (1 : Int32)) <<< ((2 : Int32) &&& 31)))), (0, .int x)] := hl
    refine lv_goto (tgt := 4) hx hb d_K_exclusiveOr_32 rfl ?_
    have hSq : SP = s_K_exclusiveOr_cut3 x (v1 ||| ((r9 &&& (1 : Int32)) <<< ((2 : Int32) &&& 31))) := by rw [hSq0, s_K_exclusiveOr_cut2]; try (rw [← hr10E, bnd_eq]); all_goals rfl
    replace hl := lv_sub hl (l' := [(0, .int x), (1, .int (v1 ||| ((r9 &&& (1 : Int32)) <<< ((2 : Int32) &&& 31)))), (2, .int 3)]) [2, 1, 0] rfl
    exact cut3 (v1 ||| ((r9 &&& (1 : Int32)) <<< ((2 : Int32) &&& 31))) _ hSq hl
  have cut1 : ∀ (v1 : Int32) (ls : Array Slot), SP = s_K_exclusiveOr_cut1 x v1 →  lv_has ls 3 [(0, .int x), (1, .int v1), (2, .int 1)] → W p l e (headSpec (tbw y_K_exclusiveOr b_K_exclusiveOr 3 (some .int)) ({ frames := 1, cells := 0, slots := 0, locals := 20 })).room s m ([.int x] : List Value).toArray below meth c s.heap [] 0 0 (MQ below (vp_Si (fun r => (True) ∧ r = SP)) ([.int x] : List Value).toArray s 0 0 (fun _ => False)) (F0 m 4 ls []) := by
    intro v1 ls hSq0 hl
    clear cut5 cut4 cut3
    refine lv_iload_n hx hb d_K_exclusiveOr_4 rfl (lv_at hl 2 rfl) ?_
    refine va_gets hx hb hcb.1 va_S.rf hown (hw _ k_283) (fun _ h9 => h9) d_K_exclusiveOr_5 ?_
    refine va_tlen (v := 5) hx hb hcb.2 va_S.rf rfl d_K_exclusiveOr_8 ?_
    refine lv_icmp_ge (tgt := 35) hx hb d_K_exclusiveOr_9 rfl (fun hc11 => by first | exact absurd hc11 (by decide) | exact absurd (by decide) hc11) (fun hc11 => ?_)
    refine lv_iload_n hx hb d_K_exclusiveOr_12 rfl (lv_at hl 1 rfl) ?_
    refine lv_iload_n hx hb d_K_exclusiveOr_13 rfl (lv_at hl 0 rfl) ?_
    refine va_gets hx hb hcb.1 va_S.rf hown (hw _ k_283) (fun _ h9 => h9) d_K_exclusiveOr_14 ?_
    refine lv_iload_n hx hb d_K_exclusiveOr_17 rfl (lv_at hl 2 rfl) ?_
    refine va_ti (v := .int 838860) hx hb hcb.2 va_S.rf (by unfold vp_in; decide) rfl d_K_exclusiveOr_18 ?_
    refine lv_iand hx hb d_K_exclusiveOr_19 ?_
    refine vp_callSi (va_runS (As := [.int (x &&& (838860 : Int32))]) (rest := [.int v1]) ⟨hx, hb, hml, hown, hw⟩ (c_I_bitCount l dC dI (x &&& (838860 : Int32))) (va_cwS 1 hw (gdS (k_287) (k_285) (k_286) (k_10)) rfl rfl rfl (by decide +kernel) ⟨Nat.le_of_ble_eq_true rfl, Nat.le_of_ble_eq_true rfl⟩) ⟨fun _ _ _ _ q => q, fun _ _ _ => ⟨rfl, trivial⟩⟩ rfl rfl hl.1 rfl (lv_room (Nat.le_of_ble_eq_true rfl)) d_K_exclusiveOr_20 ⟨Nat.le_of_ble_eq_true rfl, Nat.le_of_ble_eq_true rfl⟩).run (fun r12 hr13 => ?_)
    obtain ⟨hr13, hr13E⟩ := hr13
    refine lv_iconst (v := 1) hx hb d_K_exclusiveOr_23 (by decide) ?_
    refine lv_iand hx hb d_K_exclusiveOr_24 ?_
    refine lv_iload_n hx hb d_K_exclusiveOr_25 rfl (lv_at hl 2 rfl) ?_
    refine lv_ishl hx hb d_K_exclusiveOr_26 ?_
    refine lv_ior hx hb d_K_exclusiveOr_27 ?_
    refine lv_istore_n hx hb d_K_exclusiveOr_28 rfl hl (by decide) rfl (fun ls hl => ?_)
    replace hl : lv_has ls 3 [(1, .int (v1 ||| ((r12 &&& (1 : Int32)) <<< ((1 : Int32) &&& 31)))), (0, .int x), (2, .int 1)] := hl
    refine lv_iinc (k := 2) (v := 2) hx hb d_K_exclusiveOr_29 hl rfl rfl (by decide) rfl (fun ls hl => ?_)
    replace hl : lv_has ls 3 [(2, .int 2), (1, .int (v1 ||| ((r12 &&& (1 : Int32)) <<< ((1 : Int32) &&& 31)))), (0, .int x)] := hl
    refine lv_goto (tgt := 4) hx hb d_K_exclusiveOr_32 rfl ?_
    have hSq : SP = s_K_exclusiveOr_cut2 x (v1 ||| ((r12 &&& (1 : Int32)) <<< ((1 : Int32) &&& 31))) := by rw [hSq0, s_K_exclusiveOr_cut1]; try (rw [← hr13E, bnd_eq]); all_goals rfl
    replace hl := lv_sub hl (l' := [(0, .int x), (1, .int (v1 ||| ((r12 &&& (1 : Int32)) <<< ((1 : Int32) &&& 31)))), (2, .int 2)]) [2, 1, 0] rfl
    exact cut2 (v1 ||| ((r12 &&& (1 : Int32)) <<< ((1 : Int32) &&& 31))) _ hSq hl
  clear cut5 cut4 cut3 cut2
  refine lv_iconst (v := 0) hx hb d_K_exclusiveOr_0 (by decide) ?_
  refine lv_istore_n hx hb d_K_exclusiveOr_1 rfl hl (by decide) rfl (fun ls hl => ?_)
  replace hl : lv_has ls 3 [(1, .int 0), (0, .int x)] := hl
  refine lv_iconst (v := 0) hx hb d_K_exclusiveOr_2 (by decide) ?_
  refine lv_istore_n hx hb d_K_exclusiveOr_3 rfl hl (by decide) rfl (fun ls hl => ?_)
  replace hl : lv_has ls 3 [(2, .int 0), (1, .int 0), (0, .int x)] := hl
  refine lv_iload_n hx hb d_K_exclusiveOr_4 rfl (lv_at hl 0 rfl) ?_
  refine va_gets hx hb hcb.1 va_S.rf hown (hw _ k_283) (fun _ h9 => h9) d_K_exclusiveOr_5 ?_
  refine va_tlen (v := 5) hx hb hcb.2 va_S.rf rfl d_K_exclusiveOr_8 ?_
  refine lv_icmp_ge (tgt := 35) hx hb d_K_exclusiveOr_9 rfl (fun hc14 => by first | exact absurd hc14 (by decide) | exact absurd (by decide) hc14) (fun hc14 => ?_)
  refine lv_iload_n hx hb d_K_exclusiveOr_12 rfl (lv_at hl 1 rfl) ?_
  refine lv_iload_n hx hb d_K_exclusiveOr_13 rfl (lv_at hl 2 rfl) ?_
  refine va_gets hx hb hcb.1 va_S.rf hown (hw _ k_283) (fun _ h9 => h9) d_K_exclusiveOr_14 ?_
  refine lv_iload_n hx hb d_K_exclusiveOr_17 rfl (lv_at hl 0 rfl) ?_
  refine va_ti (v := .int 2796202) hx hb hcb.2 va_S.rf (by unfold vp_in; decide) rfl d_K_exclusiveOr_18 ?_
  refine lv_iand hx hb d_K_exclusiveOr_19 ?_
  refine vp_callSi (va_runS (As := [.int (x &&& (2796202 : Int32))]) (rest := [.int 0]) ⟨hx, hb, hml, hown, hw⟩ (c_I_bitCount l dC dI (x &&& (2796202 : Int32))) (va_cwS 1 hw (gdS (k_287) (k_285) (k_286) (k_10)) rfl rfl rfl (by decide +kernel) ⟨Nat.le_of_ble_eq_true rfl, Nat.le_of_ble_eq_true rfl⟩) ⟨fun _ _ _ _ q => q, fun _ _ _ => ⟨rfl, trivial⟩⟩ rfl rfl hl.1 rfl (lv_room (Nat.le_of_ble_eq_true rfl)) d_K_exclusiveOr_20 ⟨Nat.le_of_ble_eq_true rfl, Nat.le_of_ble_eq_true rfl⟩).run (fun r15 hr16 => ?_)
  obtain ⟨hr16, hr16E⟩ := hr16
  refine lv_iconst (v := 1) hx hb d_K_exclusiveOr_23 (by decide) ?_
  refine lv_iand hx hb d_K_exclusiveOr_24 ?_
  refine lv_iload_n hx hb d_K_exclusiveOr_25 rfl (lv_at hl 0 rfl) ?_
  refine lv_ishl hx hb d_K_exclusiveOr_26 ?_
  refine lv_ior hx hb d_K_exclusiveOr_27 ?_
  refine lv_istore_n hx hb d_K_exclusiveOr_28 rfl hl (by decide) rfl (fun ls hl => ?_)
  replace hl : lv_has ls 3 [(1, .int ((0 : Int32) ||| ((r15 &&& (1 : Int32)) <<< ((0 : Int32) &&& 31)))), (2, .int 0), (0, .int x)] := hl
  refine lv_iinc (k := 1) (v := 1) hx hb d_K_exclusiveOr_29 hl rfl rfl (by decide) rfl (fun ls hl => ?_)
  replace hl : lv_has ls 3 [(2, .int 1), (1, .int ((0 : Int32) ||| ((r15 &&& (1 : Int32)) <<< ((0 : Int32) &&& 31)))), (0, .int x)] := hl
  refine lv_goto (tgt := 4) hx hb d_K_exclusiveOr_32 rfl ?_
  have hSq : SP = s_K_exclusiveOr_cut1 x ((0 : Int32) ||| ((r15 &&& (1 : Int32)) <<< ((0 : Int32) &&& 31))) := by rw [← hSP, s_K_exclusiveOr]; try (rw [← hr16E, bnd_eq]); all_goals rfl
  replace hl := lv_sub hl (l' := [(0, .int x), (1, .int ((0 : Int32) ||| ((r15 &&& (1 : Int32)) <<< ((0 : Int32) &&& 31)))), (2, .int 1)]) [2, 1, 0] rfl
  exact cut1 ((0 : Int32) ||| ((r15 &&& (1 : Int32)) <<< ((0 : Int32) &&& 31))) _ hSq hl

set_option maxHeartbeats 4000000 in
set_option maxRecDepth 100000 in
theorem c_K_ofWord (l : Launch) (dC : Nat → ClassId) (dI : Nat → Nat → Nat) (t9 : Nat) (x : Int32) : Met l y_K_ofWord (tbw y_K_ofWord b_K_ofWord 4 (some .int)) ({ frames := 2, cells := 0, slots := 0, locals := 42 }) (va_Pc [.int x] (fun U => va_P (dC, dI) classes [] U.heap ∧ va_K (dC, dI) classes [] U ∧ cb t9 (fun _ => False) U U.heap)) (vp_Si (fun r => (True) ∧ r = s_K_ofWord x)) 0 0 (fun _ => False) := by
  refine Met.ofW (cc := b_K_ofWord) (maxL := 4) (ret := (some .int)) (by decide) rfl ?_
  intro p e s m args below meth c s₁ B hml hv
  obtain ⟨rfl, hP, hK, hcb⟩ := hv
  have hx := B.exec
  have hb := B.bytes
  have hr := B.returns
  have hts := atoms_spec (ws := (tbw y_K_ofWord b_K_ofWord 4 (some .int))) B.pre
  have hw : ∀ z9 ∈ tb, z9.before ([.int x] : List Value).toArray s = true := fun z9 h => hts z9 (List.mem_cons_of_mem _ h)
  have hown : s.vm.findClass "VotedTriple$Code" = some m.cls := findClass_of_methodNamed B.named
  have hlocks := B.notSynchronized
  replace hl := lv_entry ([.int x]) (n := 4) (Nat.le_of_ble_eq_true rfl)
  rw [lg_entry_eq]
  generalize (lg_sl ([.int x]) ++ List.replicate (4 - (lg_sl ([.int x])).length) Slot.unset).toArray = ls at hl ⊢
  replace hl : lv_has ls 4 [(0, .int x)] := hl
  generalize hSP : s_K_ofWord x = SP
  have cut5 : ∀ (v1 : Int32) (v2 : Int32) (ls : Array Slot), SP = s_K_ofWord_cut5 v1 v2 →  lv_has ls 4 [(1, .int v1), (2, .int v2), (3, .int 5)] → W p l e (headSpec (tbw y_K_ofWord b_K_ofWord 4 (some .int)) ({ frames := 2, cells := 0, slots := 0, locals := 42 })).room s m ([.int x] : List Value).toArray below meth c s.heap [] 0 0 (MQ below (vp_Si (fun r => (True) ∧ r = SP)) ([.int x] : List Value).toArray s 0 0 (fun _ => False)) (F0 m 36 ls []) := by
    intro v1 v2 ls hSq0 hl
    refine lv_iload_n hx hb d_K_ofWord_36 rfl (lv_at hl 2 rfl) ?_
    refine va_gets hx hb hcb.1 va_S.rf hown (hw _ k_283) (fun _ h9 => h9) d_K_ofWord_37 ?_
    refine va_tlen (v := 5) hx hb hcb.2 va_S.rf rfl d_K_ofWord_40 ?_
    refine lv_icmp_ge (tgt := 66) hx hb d_K_ofWord_41 rfl (fun hc1 => ?_) (fun hc1 => by first | exact absurd (by decide) hc1 | exact absurd hc1 (by decide))
    refine lv_iload_n hx hb d_K_ofWord_66 rfl (lv_at hl 0 rfl) ?_
    refine lv_iload_n hx hb d_K_ofWord_67 rfl (lv_at hl 0 rfl) ?_
    refine vp_callSi (va_runS (As := [.int v1]) (rest := [.int v1]) ⟨hx, hb, hml, hown, hw⟩ (c_I_bitCount l dC dI v1) (va_cwS 1 hw (gdS (k_287) (k_285) (k_286) (k_10)) rfl rfl rfl (by decide +kernel) ⟨Nat.le_of_ble_eq_true rfl, Nat.le_of_ble_eq_true rfl⟩) ⟨fun _ _ _ _ q => q, fun _ _ _ => ⟨rfl, trivial⟩⟩ rfl rfl hl.1 rfl (lv_room (Nat.le_of_ble_eq_true rfl)) d_K_ofWord_68 ⟨Nat.le_of_ble_eq_true rfl, Nat.le_of_ble_eq_true rfl⟩).run (fun r2 hr3 => ?_)
    obtain ⟨hr3, hr3E⟩ := hr3
    refine lv_iconst (v := 1) hx hb d_K_ofWord_71 (by decide) ?_
    refine lv_iand hx hb d_K_ofWord_72 ?_
    refine lv_ior hx hb d_K_ofWord_73 ?_
    exact W.iret (v := (v1 ||| (r2 &&& (1 : Int32)))) hx hb hr (fun t ht _ => ⟨_, rfl, ⟨trivial, (by rw [hSq0, s_K_ofWord_cut5]; try (rw [← hr3E, bnd_eq]); all_goals rfl)⟩, ht⟩) (fun _ h => by cases h) d_K_ofWord_74
  have cut4 : ∀ (v1 : Int32) (v2 : Int32) (ls : Array Slot), SP = s_K_ofWord_cut4 v1 v2 →  lv_has ls 4 [(1, .int v1), (2, .int v2), (3, .int 4)] → W p l e (headSpec (tbw y_K_ofWord b_K_ofWord 4 (some .int)) ({ frames := 2, cells := 0, slots := 0, locals := 42 })).room s m ([.int x] : List Value).toArray below meth c s.heap [] 0 0 (MQ below (vp_Si (fun r => (True) ∧ r = SP)) ([.int x] : List Value).toArray s 0 0 (fun _ => False)) (F0 m 36 ls []) := by
    intro v1 v2 ls hSq0 hl
    refine lv_iload_n hx hb d_K_ofWord_36 rfl (lv_at hl 2 rfl) ?_
    refine va_gets hx hb hcb.1 va_S.rf hown (hw _ k_283) (fun _ h9 => h9) d_K_ofWord_37 ?_
    refine va_tlen (v := 5) hx hb hcb.2 va_S.rf rfl d_K_ofWord_40 ?_
    refine lv_icmp_ge (tgt := 66) hx hb d_K_ofWord_41 rfl (fun hc4 => by first | exact absurd hc4 (by decide) | exact absurd (by decide) hc4) (fun hc4 => ?_)
    refine lv_iload_n hx hb d_K_ofWord_44 rfl (lv_at hl 1 rfl) ?_
    refine lv_iload_n hx hb d_K_ofWord_45 rfl (lv_at hl 2 rfl) ?_
    refine lv_ishr hx hb d_K_ofWord_46 ?_
    refine lv_iconst (v := 1) hx hb d_K_ofWord_47 (by decide) ?_
    refine lv_iand hx hb d_K_ofWord_48 ?_
    refine lv_if_eq (tgt := 60) hx hb d_K_ofWord_49 rfl (fun hc5 => ?_) (fun hc5 => ?_)
    · --  ((v2 >>> ((4 : Int32) &&& 31)) &&& (1 : Int32)) = 0
      refine lv_iinc (k := 2) (v := 5) hx hb d_K_ofWord_60 hl rfl rfl (by decide) rfl (fun ls hl => ?_)
      replace hl : lv_has ls 4 [(3, .int 5), (1, .int v1), (2, .int v2)] := hl
      refine lv_goto (tgt := 36) hx hb d_K_ofWord_63 rfl ?_
      have hSq : SP = s_K_ofWord_cut5 v1 v2 := by rw [hSq0, s_K_ofWord_cut4]; try (rw [if_pos hc5]); all_goals rfl
      replace hl := lv_sub hl (l' := [(1, .int v1), (2, .int v2), (3, .int 5)]) [1, 2, 0] rfl
      exact cut5 v1 v2 _ hSq hl
    · --  ¬ ((v2 >>> ((4 : Int32) &&& 31)) &&& (1 : Int32)) = 0
      refine lv_iload_n hx hb d_K_ofWord_52 rfl (lv_at hl 0 rfl) ?_
      refine lv_iconst (v := 1) hx hb d_K_ofWord_53 (by decide) ?_
      refine lv_iconst (v := 1) hx hb d_K_ofWord_54 (by decide) ?_
      refine lv_iload_n hx hb d_K_ofWord_55 rfl (lv_at hl 2 rfl) ?_
      refine lv_ishl hx hb d_K_ofWord_56 ?_
      refine lv_ishl hx hb d_K_ofWord_57 ?_
      refine lv_ior hx hb d_K_ofWord_58 ?_
      refine lv_istore_n hx hb d_K_ofWord_59 rfl hl (by decide) rfl (fun ls hl => ?_)
      replace hl : lv_has ls 4 [(1, .int (v1 ||| ((1 : Int32) <<< (((1 : Int32) <<< ((4 : Int32) &&& 31)) &&& 31)))), (2, .int v2), (3, .int 4)] := hl
      refine lv_iinc (k := 2) (v := 5) hx hb d_K_ofWord_60 hl rfl rfl (by decide) rfl (fun ls hl => ?_)
      replace hl : lv_has ls 4 [(3, .int 5), (1, .int (v1 ||| ((1 : Int32) <<< (((1 : Int32) <<< ((4 : Int32) &&& 31)) &&& 31)))), (2, .int v2)] := hl
      refine lv_goto (tgt := 36) hx hb d_K_ofWord_63 rfl ?_
      have hSq : SP = s_K_ofWord_cut5 (v1 ||| ((1 : Int32) <<< (((1 : Int32) <<< ((4 : Int32) &&& 31)) &&& 31))) v2 := by rw [hSq0, s_K_ofWord_cut4]; try (rw [if_neg hc5]); all_goals rfl
      replace hl := lv_sub hl (l' := [(1, .int (v1 ||| ((1 : Int32) <<< (((1 : Int32) <<< ((4 : Int32) &&& 31)) &&& 31)))), (2, .int v2), (3, .int 5)]) [1, 2, 0] rfl
      exact cut5 (v1 ||| ((1 : Int32) <<< (((1 : Int32) <<< ((4 : Int32) &&& 31)) &&& 31))) v2 _ hSq hl
  have cut3 : ∀ (v1 : Int32) (v2 : Int32) (ls : Array Slot), SP = s_K_ofWord_cut3 v1 v2 →  lv_has ls 4 [(1, .int v1), (2, .int v2), (3, .int 3)] → W p l e (headSpec (tbw y_K_ofWord b_K_ofWord 4 (some .int)) ({ frames := 2, cells := 0, slots := 0, locals := 42 })).room s m ([.int x] : List Value).toArray below meth c s.heap [] 0 0 (MQ below (vp_Si (fun r => (True) ∧ r = SP)) ([.int x] : List Value).toArray s 0 0 (fun _ => False)) (F0 m 36 ls []) := by
    intro v1 v2 ls hSq0 hl
    clear cut5
    refine lv_iload_n hx hb d_K_ofWord_36 rfl (lv_at hl 2 rfl) ?_
    refine va_gets hx hb hcb.1 va_S.rf hown (hw _ k_283) (fun _ h9 => h9) d_K_ofWord_37 ?_
    refine va_tlen (v := 5) hx hb hcb.2 va_S.rf rfl d_K_ofWord_40 ?_
    refine lv_icmp_ge (tgt := 66) hx hb d_K_ofWord_41 rfl (fun hc6 => by first | exact absurd hc6 (by decide) | exact absurd (by decide) hc6) (fun hc6 => ?_)
    refine lv_iload_n hx hb d_K_ofWord_44 rfl (lv_at hl 1 rfl) ?_
    refine lv_iload_n hx hb d_K_ofWord_45 rfl (lv_at hl 2 rfl) ?_
    refine lv_ishr hx hb d_K_ofWord_46 ?_
    refine lv_iconst (v := 1) hx hb d_K_ofWord_47 (by decide) ?_
    refine lv_iand hx hb d_K_ofWord_48 ?_
    refine lv_if_eq (tgt := 60) hx hb d_K_ofWord_49 rfl (fun hc7 => ?_) (fun hc7 => ?_)
    · --  ((v2 >>> ((3 : Int32) &&& 31)) &&& (1 : Int32)) = 0
      refine lv_iinc (k := 2) (v := 4) hx hb d_K_ofWord_60 hl rfl rfl (by decide) rfl (fun ls hl => ?_)
      replace hl : lv_has ls 4 [(3, .int 4), (1, .int v1), (2, .int v2)] := hl
      refine lv_goto (tgt := 36) hx hb d_K_ofWord_63 rfl ?_
      have hSq : SP = s_K_ofWord_cut4 v1 v2 := by rw [hSq0, s_K_ofWord_cut3]; try (rw [if_pos hc7]); all_goals rfl
      replace hl := lv_sub hl (l' := [(1, .int v1), (2, .int v2), (3, .int 4)]) [1, 2, 0] rfl
      exact cut4 v1 v2 _ hSq hl
    · --  ¬ ((v2 >>> ((3 : Int32) &&& 31)) &&& (1 : Int32)) = 0
      refine lv_iload_n hx hb d_K_ofWord_52 rfl (lv_at hl 0 rfl) ?_
      refine lv_iconst (v := 1) hx hb d_K_ofWord_53 (by decide) ?_
      refine lv_iconst (v := 1) hx hb d_K_ofWord_54 (by decide) ?_
      refine lv_iload_n hx hb d_K_ofWord_55 rfl (lv_at hl 2 rfl) ?_
      refine lv_ishl hx hb d_K_ofWord_56 ?_
      refine lv_ishl hx hb d_K_ofWord_57 ?_
      refine lv_ior hx hb d_K_ofWord_58 ?_
      refine lv_istore_n hx hb d_K_ofWord_59 rfl hl (by decide) rfl (fun ls hl => ?_)
      replace hl : lv_has ls 4 [(1, .int (v1 ||| ((1 : Int32) <<< (((1 : Int32) <<< ((3 : Int32) &&& 31)) &&& 31)))), (2, .int v2), (3, .int 3)] := hl
      refine lv_iinc (k := 2) (v := 4) hx hb d_K_ofWord_60 hl rfl rfl (by decide) rfl (fun ls hl => ?_)
      replace hl : lv_has ls 4 [(3, .int 4), (1, .int (v1 ||| ((1 : Int32) <<< (((1 : Int32) <<< ((3 : Int32) &&& 31)) &&& 31)))), (2, .int v2)] := hl
      refine lv_goto (tgt := 36) hx hb d_K_ofWord_63 rfl ?_
      have hSq : SP = s_K_ofWord_cut4 (v1 ||| ((1 : Int32) <<< (((1 : Int32) <<< ((3 : Int32) &&& 31)) &&& 31))) v2 := by rw [hSq0, s_K_ofWord_cut3]; try (rw [if_neg hc7]); all_goals rfl
      replace hl := lv_sub hl (l' := [(1, .int (v1 ||| ((1 : Int32) <<< (((1 : Int32) <<< ((3 : Int32) &&& 31)) &&& 31)))), (2, .int v2), (3, .int 4)]) [1, 2, 0] rfl
      exact cut4 (v1 ||| ((1 : Int32) <<< (((1 : Int32) <<< ((3 : Int32) &&& 31)) &&& 31))) v2 _ hSq hl
  have cut2 : ∀ (v1 : Int32) (v2 : Int32) (ls : Array Slot), SP = s_K_ofWord_cut2 v1 v2 →  lv_has ls 4 [(1, .int v1), (2, .int v2), (3, .int 2)] → W p l e (headSpec (tbw y_K_ofWord b_K_ofWord 4 (some .int)) ({ frames := 2, cells := 0, slots := 0, locals := 42 })).room s m ([.int x] : List Value).toArray below meth c s.heap [] 0 0 (MQ below (vp_Si (fun r => (True) ∧ r = SP)) ([.int x] : List Value).toArray s 0 0 (fun _ => False)) (F0 m 36 ls []) := by
    intro v1 v2 ls hSq0 hl
    clear cut5 cut4
    refine lv_iload_n hx hb d_K_ofWord_36 rfl (lv_at hl 2 rfl) ?_
    refine va_gets hx hb hcb.1 va_S.rf hown (hw _ k_283) (fun _ h9 => h9) d_K_ofWord_37 ?_
    refine va_tlen (v := 5) hx hb hcb.2 va_S.rf rfl d_K_ofWord_40 ?_
    refine lv_icmp_ge (tgt := 66) hx hb d_K_ofWord_41 rfl (fun hc8 => by first | exact absurd hc8 (by decide) | exact absurd (by decide) hc8) (fun hc8 => ?_)
    refine lv_iload_n hx hb d_K_ofWord_44 rfl (lv_at hl 1 rfl) ?_
    refine lv_iload_n hx hb d_K_ofWord_45 rfl (lv_at hl 2 rfl) ?_
    refine lv_ishr hx hb d_K_ofWord_46 ?_
    refine lv_iconst (v := 1) hx hb d_K_ofWord_47 (by decide) ?_
    refine lv_iand hx hb d_K_ofWord_48 ?_
    refine lv_if_eq (tgt := 60) hx hb d_K_ofWord_49 rfl (fun hc9 => ?_) (fun hc9 => ?_)
    · --  ((v2 >>> ((2 : Int32) &&& 31)) &&& (1 : Int32)) = 0
      refine lv_iinc (k := 2) (v := 3) hx hb d_K_ofWord_60 hl rfl rfl (by decide) rfl (fun ls hl => ?_)
      replace hl : lv_has ls 4 [(3, .int 3), (1, .int v1), (2, .int v2)] := hl
      refine lv_goto (tgt := 36) hx hb d_K_ofWord_63 rfl ?_
      have hSq : SP = s_K_ofWord_cut3 v1 v2 := by rw [hSq0, s_K_ofWord_cut2]; try (rw [if_pos hc9]); all_goals rfl
      replace hl := lv_sub hl (l' := [(1, .int v1), (2, .int v2), (3, .int 3)]) [1, 2, 0] rfl
      exact cut3 v1 v2 _ hSq hl
    · --  ¬ ((v2 >>> ((2 : Int32) &&& 31)) &&& (1 : Int32)) = 0
      refine lv_iload_n hx hb d_K_ofWord_52 rfl (lv_at hl 0 rfl) ?_
      refine lv_iconst (v := 1) hx hb d_K_ofWord_53 (by decide) ?_
      refine lv_iconst (v := 1) hx hb d_K_ofWord_54 (by decide) ?_
      refine lv_iload_n hx hb d_K_ofWord_55 rfl (lv_at hl 2 rfl) ?_
      refine lv_ishl hx hb d_K_ofWord_56 ?_
      refine lv_ishl hx hb d_K_ofWord_57 ?_
      refine lv_ior hx hb d_K_ofWord_58 ?_
      refine lv_istore_n hx hb d_K_ofWord_59 rfl hl (by decide) rfl (fun ls hl => ?_)
      replace hl : lv_has ls 4 [(1, .int (v1 ||| ((1 : Int32) <<< (((1 : Int32) <<< ((2 : Int32) &&& 31)) &&& 31)))), (2, .int v2), (3, .int 2)] := hl
      refine lv_iinc (k := 2) (v := 3) hx hb d_K_ofWord_60 hl rfl rfl (by decide) rfl (fun ls hl => ?_)
      replace hl : lv_has ls 4 [(3, .int 3), (1, .int (v1 ||| ((1 : Int32) <<< (((1 : Int32) <<< ((2 : Int32) &&& 31)) &&& 31)))), (2, .int v2)] := hl
      refine lv_goto (tgt := 36) hx hb d_K_ofWord_63 rfl ?_
      have hSq : SP = s_K_ofWord_cut3 (v1 ||| ((1 : Int32) <<< (((1 : Int32) <<< ((2 : Int32) &&& 31)) &&& 31))) v2 := by rw [hSq0, s_K_ofWord_cut2]; try (rw [if_neg hc9]); all_goals rfl
      replace hl := lv_sub hl (l' := [(1, .int (v1 ||| ((1 : Int32) <<< (((1 : Int32) <<< ((2 : Int32) &&& 31)) &&& 31)))), (2, .int v2), (3, .int 3)]) [1, 2, 0] rfl
      exact cut3 (v1 ||| ((1 : Int32) <<< (((1 : Int32) <<< ((2 : Int32) &&& 31)) &&& 31))) v2 _ hSq hl
  have cut1 : ∀ (v1 : Int32) (v2 : Int32) (ls : Array Slot), SP = s_K_ofWord_cut1 v1 v2 →  lv_has ls 4 [(1, .int v1), (2, .int v2), (3, .int 1)] → W p l e (headSpec (tbw y_K_ofWord b_K_ofWord 4 (some .int)) ({ frames := 2, cells := 0, slots := 0, locals := 42 })).room s m ([.int x] : List Value).toArray below meth c s.heap [] 0 0 (MQ below (vp_Si (fun r => (True) ∧ r = SP)) ([.int x] : List Value).toArray s 0 0 (fun _ => False)) (F0 m 36 ls []) := by
    intro v1 v2 ls hSq0 hl
    clear cut5 cut4 cut3
    refine lv_iload_n hx hb d_K_ofWord_36 rfl (lv_at hl 2 rfl) ?_
    refine va_gets hx hb hcb.1 va_S.rf hown (hw _ k_283) (fun _ h9 => h9) d_K_ofWord_37 ?_
    refine va_tlen (v := 5) hx hb hcb.2 va_S.rf rfl d_K_ofWord_40 ?_
    refine lv_icmp_ge (tgt := 66) hx hb d_K_ofWord_41 rfl (fun hc10 => by first | exact absurd hc10 (by decide) | exact absurd (by decide) hc10) (fun hc10 => ?_)
    refine lv_iload_n hx hb d_K_ofWord_44 rfl (lv_at hl 1 rfl) ?_
    refine lv_iload_n hx hb d_K_ofWord_45 rfl (lv_at hl 2 rfl) ?_
    refine lv_ishr hx hb d_K_ofWord_46 ?_
    refine lv_iconst (v := 1) hx hb d_K_ofWord_47 (by decide) ?_
    refine lv_iand hx hb d_K_ofWord_48 ?_
    refine lv_if_eq (tgt := 60) hx hb d_K_ofWord_49 rfl (fun hc11 => ?_) (fun hc11 => ?_)
    · --  ((v2 >>> ((1 : Int32) &&& 31)) &&& (1 : Int32)) = 0
      refine lv_iinc (k := 2) (v := 2) hx hb d_K_ofWord_60 hl rfl rfl (by decide) rfl (fun ls hl => ?_)
      replace hl : lv_has ls 4 [(3, .int 2), (1, .int v1), (2, .int v2)] := hl
      refine lv_goto (tgt := 36) hx hb d_K_ofWord_63 rfl ?_
      have hSq : SP = s_K_ofWord_cut2 v1 v2 := by rw [hSq0, s_K_ofWord_cut1]; try (rw [if_pos hc11]); all_goals rfl
      replace hl := lv_sub hl (l' := [(1, .int v1), (2, .int v2), (3, .int 2)]) [1, 2, 0] rfl
      exact cut2 v1 v2 _ hSq hl
    · --  ¬ ((v2 >>> ((1 : Int32) &&& 31)) &&& (1 : Int32)) = 0
      refine lv_iload_n hx hb d_K_ofWord_52 rfl (lv_at hl 0 rfl) ?_
      refine lv_iconst (v := 1) hx hb d_K_ofWord_53 (by decide) ?_
      refine lv_iconst (v := 1) hx hb d_K_ofWord_54 (by decide) ?_
      refine lv_iload_n hx hb d_K_ofWord_55 rfl (lv_at hl 2 rfl) ?_
      refine lv_ishl hx hb d_K_ofWord_56 ?_
      refine lv_ishl hx hb d_K_ofWord_57 ?_
      refine lv_ior hx hb d_K_ofWord_58 ?_
      refine lv_istore_n hx hb d_K_ofWord_59 rfl hl (by decide) rfl (fun ls hl => ?_)
      replace hl : lv_has ls 4 [(1, .int (v1 ||| ((1 : Int32) <<< (((1 : Int32) <<< ((1 : Int32) &&& 31)) &&& 31)))), (2, .int v2), (3, .int 1)] := hl
      refine lv_iinc (k := 2) (v := 2) hx hb d_K_ofWord_60 hl rfl rfl (by decide) rfl (fun ls hl => ?_)
      replace hl : lv_has ls 4 [(3, .int 2), (1, .int (v1 ||| ((1 : Int32) <<< (((1 : Int32) <<< ((1 : Int32) &&& 31)) &&& 31)))), (2, .int v2)] := hl
      refine lv_goto (tgt := 36) hx hb d_K_ofWord_63 rfl ?_
      have hSq : SP = s_K_ofWord_cut2 (v1 ||| ((1 : Int32) <<< (((1 : Int32) <<< ((1 : Int32) &&& 31)) &&& 31))) v2 := by rw [hSq0, s_K_ofWord_cut1]; try (rw [if_neg hc11]); all_goals rfl
      replace hl := lv_sub hl (l' := [(1, .int (v1 ||| ((1 : Int32) <<< (((1 : Int32) <<< ((1 : Int32) &&& 31)) &&& 31)))), (2, .int v2), (3, .int 2)]) [1, 2, 0] rfl
      exact cut2 (v1 ||| ((1 : Int32) <<< (((1 : Int32) <<< ((1 : Int32) &&& 31)) &&& 31))) v2 _ hSq hl
  have cut0 : ∀ (v1 : Int32) (v2 : Int32) (ls : Array Slot), SP = s_K_ofWord_cut0 v1 v2 →  lv_has ls 4 [(1, .int v1), (2, .int v2), (3, .int 0)] → W p l e (headSpec (tbw y_K_ofWord b_K_ofWord 4 (some .int)) ({ frames := 2, cells := 0, slots := 0, locals := 42 })).room s m ([.int x] : List Value).toArray below meth c s.heap [] 0 0 (MQ below (vp_Si (fun r => (True) ∧ r = SP)) ([.int x] : List Value).toArray s 0 0 (fun _ => False)) (F0 m 36 ls []) := by
    intro v1 v2 ls hSq0 hl
    clear cut5 cut4 cut3 cut2
    refine lv_iload_n hx hb d_K_ofWord_36 rfl (lv_at hl 2 rfl) ?_
    refine va_gets hx hb hcb.1 va_S.rf hown (hw _ k_283) (fun _ h9 => h9) d_K_ofWord_37 ?_
    refine va_tlen (v := 5) hx hb hcb.2 va_S.rf rfl d_K_ofWord_40 ?_
    refine lv_icmp_ge (tgt := 66) hx hb d_K_ofWord_41 rfl (fun hc12 => by first | exact absurd hc12 (by decide) | exact absurd (by decide) hc12) (fun hc12 => ?_)
    refine lv_iload_n hx hb d_K_ofWord_44 rfl (lv_at hl 1 rfl) ?_
    refine lv_iload_n hx hb d_K_ofWord_45 rfl (lv_at hl 2 rfl) ?_
    refine lv_ishr hx hb d_K_ofWord_46 ?_
    refine lv_iconst (v := 1) hx hb d_K_ofWord_47 (by decide) ?_
    refine lv_iand hx hb d_K_ofWord_48 ?_
    refine lv_if_eq (tgt := 60) hx hb d_K_ofWord_49 rfl (fun hc13 => ?_) (fun hc13 => ?_)
    · --  ((v2 >>> ((0 : Int32) &&& 31)) &&& (1 : Int32)) = 0
      refine lv_iinc (k := 2) (v := 1) hx hb d_K_ofWord_60 hl rfl rfl (by decide) rfl (fun ls hl => ?_)
      replace hl : lv_has ls 4 [(3, .int 1), (1, .int v1), (2, .int v2)] := hl
      refine lv_goto (tgt := 36) hx hb d_K_ofWord_63 rfl ?_
      have hSq : SP = s_K_ofWord_cut1 v1 v2 := by rw [hSq0, s_K_ofWord_cut0]; try (rw [if_pos hc13]); all_goals rfl
      replace hl := lv_sub hl (l' := [(1, .int v1), (2, .int v2), (3, .int 1)]) [1, 2, 0] rfl
      exact cut1 v1 v2 _ hSq hl
    · --  ¬ ((v2 >>> ((0 : Int32) &&& 31)) &&& (1 : Int32)) = 0
      refine lv_iload_n hx hb d_K_ofWord_52 rfl (lv_at hl 0 rfl) ?_
      refine lv_iconst (v := 1) hx hb d_K_ofWord_53 (by decide) ?_
      refine lv_iconst (v := 1) hx hb d_K_ofWord_54 (by decide) ?_
      refine lv_iload_n hx hb d_K_ofWord_55 rfl (lv_at hl 2 rfl) ?_
      refine lv_ishl hx hb d_K_ofWord_56 ?_
      refine lv_ishl hx hb d_K_ofWord_57 ?_
      refine lv_ior hx hb d_K_ofWord_58 ?_
      refine lv_istore_n hx hb d_K_ofWord_59 rfl hl (by decide) rfl (fun ls hl => ?_)
      replace hl : lv_has ls 4 [(1, .int (v1 ||| ((1 : Int32) <<< (((1 : Int32) <<< ((0 : Int32) &&& 31)) &&& 31)))), (2, .int v2), (3, .int 0)] := hl
      refine lv_iinc (k := 2) (v := 1) hx hb d_K_ofWord_60 hl rfl rfl (by decide) rfl (fun ls hl => ?_)
      replace hl : lv_has ls 4 [(3, .int 1), (1, .int (v1 ||| ((1 : Int32) <<< (((1 : Int32) <<< ((0 : Int32) &&& 31)) &&& 31)))), (2, .int v2)] := hl
      refine lv_goto (tgt := 36) hx hb d_K_ofWord_63 rfl ?_
      have hSq : SP = s_K_ofWord_cut1 (v1 ||| ((1 : Int32) <<< (((1 : Int32) <<< ((0 : Int32) &&& 31)) &&& 31))) v2 := by rw [hSq0, s_K_ofWord_cut0]; try (rw [if_neg hc13]); all_goals rfl
      replace hl := lv_sub hl (l' := [(1, .int (v1 ||| ((1 : Int32) <<< (((1 : Int32) <<< ((0 : Int32) &&& 31)) &&& 31)))), (2, .int v2), (3, .int 1)]) [1, 2, 0] rfl
      exact cut1 (v1 ||| ((1 : Int32) <<< (((1 : Int32) <<< ((0 : Int32) &&& 31)) &&& 31))) v2 _ hSq hl
  clear cut5 cut4 cut3 cut2 cut1
  refine lv_iload_n hx hb d_K_ofWord_0 rfl (lv_at hl 0 rfl) ?_
  refine lv_iconst (v := 1) hx hb d_K_ofWord_1 (by decide) ?_
  refine lv_iand hx hb d_K_ofWord_2 ?_
  refine lv_iconst (v := 3) hx hb d_K_ofWord_3 (by decide) ?_
  refine lv_ishl hx hb d_K_ofWord_4 ?_
  refine lv_iload_n hx hb d_K_ofWord_5 rfl (lv_at hl 0 rfl) ?_
  refine lv_bipush (v := 14) hx hb d_K_ofWord_6 (by decide) ?_
  refine lv_iand hx hb d_K_ofWord_8 ?_
  refine lv_iconst (v := 4) hx hb d_K_ofWord_9 (by decide) ?_
  refine lv_ishl hx hb d_K_ofWord_10 ?_
  refine lv_ior hx hb d_K_ofWord_11 ?_
  refine lv_iload_n hx hb d_K_ofWord_12 rfl (lv_at hl 0 rfl) ?_
  refine lv_sipush (v := 2032) hx hb d_K_ofWord_13 (by decide) ?_
  refine lv_iand hx hb d_K_ofWord_16 ?_
  refine lv_iconst (v := 5) hx hb d_K_ofWord_17 (by decide) ?_
  refine lv_ishl hx hb d_K_ofWord_18 ?_
  refine lv_ior hx hb d_K_ofWord_19 ?_
  refine lv_iload_n hx hb d_K_ofWord_20 rfl (lv_at hl 0 rfl) ?_
  refine lv_ldc (v := 63488) hx hb hown (hw _ k_279) d_K_ofWord_21 ?_
  refine lv_iand hx hb d_K_ofWord_23 ?_
  refine lv_bipush (v := 6) hx hb d_K_ofWord_24 (by decide) ?_
  refine lv_ishl hx hb d_K_ofWord_26 ?_
  refine lv_ior hx hb d_K_ofWord_27 ?_
  refine lv_istore_n hx hb d_K_ofWord_28 rfl hl (by decide) rfl (fun ls hl => ?_)
  replace hl : lv_has ls 4 [(1, .int (((((x &&& (1 : Int32)) <<< ((3 : Int32) &&& 31)) ||| ((x &&& (14 : Int32)) <<< ((4 : Int32) &&& 31))) ||| ((x &&& (2032 : Int32)) <<< ((5 : Int32) &&& 31))) ||| ((x &&& (63488 : Int32)) <<< ((6 : Int32) &&& 31)))), (0, .int x)] := hl
  refine lv_iload_n hx hb d_K_ofWord_29 rfl (lv_at hl 0 rfl) ?_
  replace hPc := hP.sub (ws' := []) [] rfl
  replace hKc := hK.sub (tys' := []) [] rfl
  refine vp_callSi (va_runS (As := [.int (((((x &&& (1 : Int32)) <<< ((3 : Int32) &&& 31)) ||| ((x &&& (14 : Int32)) <<< ((4 : Int32) &&& 31))) ||| ((x &&& (2032 : Int32)) <<< ((5 : Int32) &&& 31))) ||| ((x &&& (63488 : Int32)) <<< ((6 : Int32) &&& 31)))]) (rest := []) ⟨hx, hb, hml, hown, hw⟩ (c_K_exclusiveOr l dC dI t9 (((((x &&& (1 : Int32)) <<< ((3 : Int32) &&& 31)) ||| ((x &&& (14 : Int32)) <<< ((4 : Int32) &&& 31))) ||| ((x &&& (2032 : Int32)) <<< ((5 : Int32) &&& 31))) ||| ((x &&& (63488 : Int32)) <<< ((6 : Int32) &&& 31)))) (va_cwS 1 hw (gdS (k_282) (k_280) (k_281) (k_9)) rfl rfl rfl (by decide +kernel) ⟨Nat.le_of_ble_eq_true rfl, Nat.le_of_ble_eq_true rfl⟩) ⟨fun a U g mk q => ⟨q.1, q.2.1, va_K.moved (u := U) (U := U.calling g mk a) (Vm.Alike.refl U.vm) q.2.2.1, cb_vm (u := U) (U := U.calling g mk a) rfl q.2.2.2⟩, fun U hU hW => ⟨rfl, by rw [hU]; exact hPc, va_K.moved hW.alike hKc, by rw [hU]; exact cb_warm hW hcb⟩⟩ rfl rfl hl.1 rfl (lv_room (Nat.le_of_ble_eq_true rfl)) d_K_ofWord_30 ⟨Nat.le_of_ble_eq_true rfl, Nat.le_of_ble_eq_true rfl⟩).run (fun r14 hr15 => ?_)
  obtain ⟨hr15, hr15E⟩ := hr15
  refine lv_istore_n hx hb d_K_ofWord_33 rfl hl (by decide) rfl (fun ls hl => ?_)
  replace hl : lv_has ls 4 [(2, .int r14), (1, .int (((((x &&& (1 : Int32)) <<< ((3 : Int32) &&& 31)) ||| ((x &&& (14 : Int32)) <<< ((4 : Int32) &&& 31))) ||| ((x &&& (2032 : Int32)) <<< ((5 : Int32) &&& 31))) ||| ((x &&& (63488 : Int32)) <<< ((6 : Int32) &&& 31)))), (0, .int x)] := hl
  refine lv_iconst (v := 0) hx hb d_K_ofWord_34 (by decide) ?_
  refine lv_istore_n hx hb d_K_ofWord_35 rfl hl (by decide) rfl (fun ls hl => ?_)
  replace hl : lv_has ls 4 [(3, .int 0), (2, .int r14), (1, .int (((((x &&& (1 : Int32)) <<< ((3 : Int32) &&& 31)) ||| ((x &&& (14 : Int32)) <<< ((4 : Int32) &&& 31))) ||| ((x &&& (2032 : Int32)) <<< ((5 : Int32) &&& 31))) ||| ((x &&& (63488 : Int32)) <<< ((6 : Int32) &&& 31)))), (0, .int x)] := hl
  have hSq : SP = s_K_ofWord_cut0 (((((x &&& (1 : Int32)) <<< ((3 : Int32) &&& 31)) ||| ((x &&& (14 : Int32)) <<< ((4 : Int32) &&& 31))) ||| ((x &&& (2032 : Int32)) <<< ((5 : Int32) &&& 31))) ||| ((x &&& (63488 : Int32)) <<< ((6 : Int32) &&& 31))) r14 := by rw [← hSP, s_K_ofWord]; try (rw [← hr15E, bnd_eq]); all_goals rfl
  replace hl := lv_sub hl (l' := [(1, .int (((((x &&& (1 : Int32)) <<< ((3 : Int32) &&& 31)) ||| ((x &&& (14 : Int32)) <<< ((4 : Int32) &&& 31))) ||| ((x &&& (2032 : Int32)) <<< ((5 : Int32) &&& 31))) ||| ((x &&& (63488 : Int32)) <<< ((6 : Int32) &&& 31)))), (2, .int r14), (3, .int 0)]) [2, 1, 0] rfl
  exact cut0 (((((x &&& (1 : Int32)) <<< ((3 : Int32) &&& 31)) ||| ((x &&& (14 : Int32)) <<< ((4 : Int32) &&& 31))) ||| ((x &&& (2032 : Int32)) <<< ((5 : Int32) &&& 31))) ||| ((x &&& (63488 : Int32)) <<< ((6 : Int32) &&& 31))) r14 _ hSq hl
