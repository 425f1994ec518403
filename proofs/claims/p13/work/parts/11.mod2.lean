set_option maxHeartbeats 4000000 in
set_option maxRecDepth 100000 in
theorem c_D_isTrusted (l : Launch) (dC : Nat → ClassId) (dI : Nat → Nat → Nat) (h0 r9 k9 : Nat) (F : Nat → Int32) : Met l y_D_isTrusted (tbw y_D_isTrusted b_D_isTrusted 1 (some .boolean)) ({ frames := 0, cells := 0, slots := 0, locals := 0 }) (va_Pc [.ref h0] (fun U => va_P (dC, dI) classes [(h0, .inr (2, oD F r9 k9))] U.heap ∧ va_K (dC, dI) classes [] U)) (vp_Si (fun r => r = bI (trB F))) 0 0 (fun _ => False) := by
  refine Met.ofW (cc := b_D_isTrusted) (maxL := 1) (ret := (some .boolean)) (by decide) rfl ?_
  intro p e s m args below meth c s₁ B hml hv
  obtain ⟨rfl, hP, hK⟩ := hv
  have hx := B.exec
  have hb := B.bytes
  have hr := B.returns
  have hts := atoms_spec (ws := (tbw y_D_isTrusted b_D_isTrusted 1 (some .boolean))) B.pre
  have hw : ∀ z9 ∈ tb, z9.before ([.ref h0] : List Value).toArray s = true := fun z9 h => hts z9 (List.mem_cons_of_mem _ h)
  have hown : s.vm.findClass "VotedTriple$VotedModule" = some m.cls := findClass_of_methodNamed B.named
  have hlocks := B.notSynchronized
  replace hl := lv_entry ([.ref h0]) (n := 1) (Nat.le_of_ble_eq_true rfl)
  rw [lg_entry_eq]
  generalize (lg_sl ([.ref h0]) ++ List.replicate (1 - (lg_sl ([.ref h0])).length) Slot.unset).toArray = ls at hl ⊢
  replace hl : lv_has ls 1 [(0, .ref h0)] := hl
  refine lv_aload_n hx hb d_D_isTrusted_0 rfl (lv_at hl 0 rfl) ?_
  refine va_get (D := (dC, dI)) (ci := 2) (v := .int (F 8)) (C := "VotedTriple$VotedModule") (T := F_D) (N := 19) hx hb hw in_D hown hK hP 0 rfl rfl 8 (by decide) (hw _ k_142) (fun _ h9 => h9) rfl d_D_isTrusted_1 ?_
  refine lv_if_ne (tgt := 18) hx hb d_D_isTrusted_4 rfl (fun hc1 => ?_) (fun hc1 => ?_)
  · --  ¬ (F 8) = 0
    refine lv_iconst (v := 0) hx hb d_D_isTrusted_18 (by decide) ?_
    exact W.zret (v := 0) (ty := .boolean) hx hb hr rfl (fun t ht _ => ⟨_, rfl, (by simp [bI, trB, hc1]), ht⟩) (fun _ h => by cases h) d_D_isTrusted_19
  · --  (F 8) = 0
    refine lv_aload_n hx hb d_D_isTrusted_7 rfl (lv_at hl 0 rfl) ?_
    refine va_get (D := (dC, dI)) (ci := 2) (v := .int (F 15)) (C := "VotedTriple$VotedModule") (T := F_D) (N := 19) hx hb hw in_D hown hK hP 0 rfl rfl 15 (by decide) (hw _ k_156) (fun _ h9 => h9) rfl d_D_isTrusted_8 ?_
    refine lv_if_ne (tgt := 18) hx hb d_D_isTrusted_11 rfl (fun hc2 => ?_) (fun hc2 => ?_)
    · --  ¬ (F 15) = 0
      refine lv_iconst (v := 0) hx hb d_D_isTrusted_18 (by decide) ?_
      exact W.zret (v := 0) (ty := .boolean) hx hb hr rfl (fun t ht _ => ⟨_, rfl, (by simp [bI, trB, hc1, hc2]), ht⟩) (fun _ h => by cases h) d_D_isTrusted_19
    · --  (F 15) = 0
      refine lv_iconst (v := 1) hx hb d_D_isTrusted_14 (by decide) ?_
      refine lv_goto (tgt := 19) hx hb d_D_isTrusted_15 rfl ?_
      exact W.zret (v := 1) (ty := .boolean) hx hb hr rfl (fun t ht _ => ⟨_, rfl, (by simp [bI, trB, hc1, hc2]), ht⟩) (fun _ h => by cases h) d_D_isTrusted_19

set_option maxHeartbeats 4000000 in
set_option maxRecDepth 100000 in
theorem c_D_shownMark (l : Launch) (dC : Nat → ClassId) (dI : Nat → Nat → Nat) (h0 r9 k9 : Nat) (F : Nat → Int32) : Met l y_D_shownMark (tbw y_D_shownMark b_D_shownMark 1 (some .int)) ({ frames := 0, cells := 0, slots := 0, locals := 0 }) (va_Pc [.ref h0] (fun U => va_P (dC, dI) classes [(h0, .inr (2, oD F r9 k9))] U.heap ∧ va_K (dC, dI) classes [] U)) (vp_Si (fun r => (True) ∧ r = s_D_shownMark F)) 0 0 (fun _ => False) := by
  refine Met.ofW (cc := b_D_shownMark) (maxL := 1) (ret := (some .int)) (by decide) rfl ?_
  intro p e s m args below meth c s₁ B hml hv
  obtain ⟨rfl, hP, hK⟩ := hv
  have hx := B.exec
  have hb := B.bytes
  have hr := B.returns
  have hts := atoms_spec (ws := (tbw y_D_shownMark b_D_shownMark 1 (some .int))) B.pre
  have hw : ∀ z9 ∈ tb, z9.before ([.ref h0] : List Value).toArray s = true := fun z9 h => hts z9 (List.mem_cons_of_mem _ h)
  have hown : s.vm.findClass "VotedTriple$VotedModule" = some m.cls := findClass_of_methodNamed B.named
  have hlocks := B.notSynchronized
  replace hl := lv_entry ([.ref h0]) (n := 1) (Nat.le_of_ble_eq_true rfl)
  rw [lg_entry_eq]
  generalize (lg_sl ([.ref h0]) ++ List.replicate (1 - (lg_sl ([.ref h0])).length) Slot.unset).toArray = ls at hl ⊢
  replace hl : lv_has ls 1 [(0, .ref h0)] := hl
  generalize hSP : s_D_shownMark F = SP
  refine lv_aload_n hx hb d_D_shownMark_0 rfl (lv_at hl 0 rfl) ?_
  refine va_get (D := (dC, dI)) (ci := 2) (v := .int (F 8)) (C := "VotedTriple$VotedModule") (T := F_D) (N := 19) hx hb hw in_D hown hK hP 0 rfl rfl 8 (by decide) (hw _ k_142) (fun _ h9 => h9) rfl d_D_shownMark_1 ?_
  refine lv_iconst (v := 1) hx hb d_D_shownMark_4 (by decide) ?_
  refine lv_icmp_ne (tgt := 13) hx hb d_D_shownMark_5 rfl (fun hc1 => ?_) (fun hc1 => ?_)
  · --  ¬ (F 8) = 1
    refine lv_aload_n hx hb d_D_shownMark_13 rfl (lv_at hl 0 rfl) ?_
    refine va_get (D := (dC, dI)) (ci := 2) (v := .int (F 8)) (C := "VotedTriple$VotedModule") (T := F_D) (N := 19) hx hb hw in_D hown hK hP 0 rfl rfl 8 (by decide) (hw _ k_142) (fun _ h9 => h9) rfl d_D_shownMark_14 ?_
    refine lv_if_ne (tgt := 25) hx hb d_D_shownMark_17 rfl (fun hc2 => ?_) (fun hc2 => ?_)
    · --  ¬ (F 8) = 0
      refine lv_iconst (v := 0) hx hb d_D_shownMark_25 (by decide) ?_
      exact W.iret (v := 0) hx hb hr (fun t ht _ => ⟨_, rfl, ⟨trivial, (by rw [← hSP, s_D_shownMark]; try (rw [if_neg hc1]); try (rw [if_neg hc2]); all_goals rfl)⟩, ht⟩) (fun _ h => by cases h) d_D_shownMark_26
    · --  (F 8) = 0
      refine lv_bipush (v := 32) hx hb d_D_shownMark_20 (by decide) ?_
      refine lv_goto (tgt := 26) hx hb d_D_shownMark_22 rfl ?_
      exact W.iret (v := 32) hx hb hr (fun t ht _ => ⟨_, rfl, ⟨trivial, (by rw [← hSP, s_D_shownMark]; try (rw [if_neg hc1]); try (rw [if_pos hc2]); all_goals rfl)⟩, ht⟩) (fun _ h => by cases h) d_D_shownMark_26
  · --  (F 8) = 1
    refine lv_aload_n hx hb d_D_shownMark_8 rfl (lv_at hl 0 rfl) ?_
    refine va_get (D := (dC, dI)) (ci := 2) (v := .int (F 9)) (C := "VotedTriple$VotedModule") (T := F_D) (N := 19) hx hb hw in_D hown hK hP 0 rfl rfl 9 (by decide) (hw _ k_144) (fun _ h9 => h9) rfl d_D_shownMark_9 ?_
    exact W.iret (v := (F 9)) hx hb hr (fun t ht _ => ⟨_, rfl, ⟨trivial, (by rw [← hSP, s_D_shownMark]; try (rw [if_pos hc1]); all_goals rfl)⟩, ht⟩) (fun _ h => by cases h) d_D_shownMark_12

set_option maxHeartbeats 4000000 in
set_option maxRecDepth 100000 in
theorem c_D_wishAsBallot (l : Launch) (dC : Nat → ClassId) (dI : Nat → Nat → Nat) (h0 r9 k9 : Nat) (F : Nat → Int32) : Met l y_D_wishAsBallot (tbw y_D_wishAsBallot b_D_wishAsBallot 1 (some .int)) ({ frames := 0, cells := 0, slots := 0, locals := 0 }) (va_Pc [.ref h0] (fun U => va_P (dC, dI) classes [(h0, .inr (2, oD F r9 k9))] U.heap ∧ va_K (dC, dI) classes [] U)) (vp_Si (fun r => (True) ∧ r = s_D_wishAsBallot F)) 0 0 (fun _ => False) := by
  refine Met.ofW (cc := b_D_wishAsBallot) (maxL := 1) (ret := (some .int)) (by decide) rfl ?_
  intro p e s m args below meth c s₁ B hml hv
  obtain ⟨rfl, hP, hK⟩ := hv
  have hx := B.exec
  have hb := B.bytes
  have hr := B.returns
  have hts := atoms_spec (ws := (tbw y_D_wishAsBallot b_D_wishAsBallot 1 (some .int))) B.pre
  have hw : ∀ z9 ∈ tb, z9.before ([.ref h0] : List Value).toArray s = true := fun z9 h => hts z9 (List.mem_cons_of_mem _ h)
  have hown : s.vm.findClass "VotedTriple$VotedModule" = some m.cls := findClass_of_methodNamed B.named
  have hlocks := B.notSynchronized
  replace hl := lv_entry ([.ref h0]) (n := 1) (Nat.le_of_ble_eq_true rfl)
  rw [lg_entry_eq]
  generalize (lg_sl ([.ref h0]) ++ List.replicate (1 - (lg_sl ([.ref h0])).length) Slot.unset).toArray = ls at hl ⊢
  replace hl : lv_has ls 1 [(0, .ref h0)] := hl
  generalize hSP : s_D_wishAsBallot F = SP
  refine lv_aload_n hx hb d_D_wishAsBallot_0 rfl (lv_at hl 0 rfl) ?_
  refine va_get (D := (dC, dI)) (ci := 2) (v := .int (F 2)) (C := "VotedTriple$VotedModule") (T := F_D) (N := 19) hx hb hw in_D hown hK hP 0 rfl rfl 2 (by decide) (hw _ k_80) (fun x9 h9 => u_same (hw _ k_81) x9 h9) rfl d_D_wishAsBallot_1 ?_
  refine lv_iconst (v := 2) hx hb d_D_wishAsBallot_4 (by decide) ?_
  refine lv_imul hx hb d_D_wishAsBallot_5 ?_
  refine lv_aload_n hx hb d_D_wishAsBallot_6 rfl (lv_at hl 0 rfl) ?_
  refine va_get (D := (dC, dI)) (ci := 2) (v := .int (F 16)) (C := "VotedTriple$VotedModule") (T := F_D) (N := 19) hx hb hw in_D hown hK hP 0 rfl rfl 16 (by decide) (hw _ k_158) (fun _ h9 => h9) rfl d_D_wishAsBallot_7 ?_
  refine lv_if_eq (tgt := 17) hx hb d_D_wishAsBallot_10 rfl (fun hc1 => ?_) (fun hc1 => ?_)
  · --  (F 16) = 0
    refine lv_iconst (v := 0) hx hb d_D_wishAsBallot_17 (by decide) ?_
    refine lv_iadd hx hb d_D_wishAsBallot_18 ?_
    refine lv_bipush (v := 16) hx hb d_D_wishAsBallot_19 (by decide) ?_
    refine lv_ishl hx hb d_D_wishAsBallot_21 ?_
    refine lv_aload_n hx hb d_D_wishAsBallot_22 rfl (lv_at hl 0 rfl) ?_
    refine va_get (D := (dC, dI)) (ci := 2) (v := .int (F 3)) (C := "VotedTriple$VotedModule") (T := F_D) (N := 19) hx hb hw in_D hown hK hP 0 rfl rfl 3 (by decide) (hw _ k_87) (fun x9 h9 => u_same (hw _ k_88) x9 h9) rfl d_D_wishAsBallot_23 ?_
    refine lv_ior hx hb d_D_wishAsBallot_26 ?_
    exact W.iret (v := (((((F 2) * (2 : Int32)) + (0 : Int32)) <<< ((16 : Int32) &&& 31)) ||| (F 3))) hx hb hr (fun t ht _ => ⟨_, rfl, ⟨trivial, (by rw [← hSP, s_D_wishAsBallot]; try (rw [if_pos hc1]); all_goals rfl)⟩, ht⟩) (fun _ h => by cases h) d_D_wishAsBallot_27
  · --  ¬ (F 16) = 0
    refine lv_iconst (v := 1) hx hb d_D_wishAsBallot_13 (by decide) ?_
    refine lv_goto (tgt := 18) hx hb d_D_wishAsBallot_14 rfl ?_
    refine lv_iadd hx hb d_D_wishAsBallot_18 ?_
    refine lv_bipush (v := 16) hx hb d_D_wishAsBallot_19 (by decide) ?_
    refine lv_ishl hx hb d_D_wishAsBallot_21 ?_
    refine lv_aload_n hx hb d_D_wishAsBallot_22 rfl (lv_at hl 0 rfl) ?_
    refine va_get (D := (dC, dI)) (ci := 2) (v := .int (F 3)) (C := "VotedTriple$VotedModule") (T := F_D) (N := 19) hx hb hw in_D hown hK hP 0 rfl rfl 3 (by decide) (hw _ k_87) (fun x9 h9 => u_same (hw _ k_88) x9 h9) rfl d_D_wishAsBallot_23 ?_
    refine lv_ior hx hb d_D_wishAsBallot_26 ?_
    exact W.iret (v := (((((F 2) * (2 : Int32)) + (1 : Int32)) <<< ((16 : Int32) &&& 31)) ||| (F 3))) hx hb hr (fun t ht _ => ⟨_, rfl, ⟨trivial, (by rw [← hSP, s_D_wishAsBallot]; try (rw [if_neg hc1]); all_goals rfl)⟩, ht⟩) (fun _ h => by cases h) d_D_wishAsBallot_27

set_option maxHeartbeats 4000000 in
set_option maxRecDepth 100000 in
theorem c_D_digest (l : Launch) (dC : Nat → ClassId) (dI : Nat → Nat → Nat) (h0 r9 k9 : Nat) (F : Nat → Int32) (cr : ClassId) (rg : Nat → Int32) : Met l y_D_digest (tbw y_D_digest b_D_digest 4 (some .int)) ({ frames := 0, cells := 0, slots := 0, locals := 0 }) (va_Pc [.ref h0] (fun U => va_P (dC, dI) classes [(h0, .inr (2, oD F r9 k9)), (r9, .inl (cr, 8, .inl rg))] U.heap ∧ va_K (dC, dI) classes [(cr, .int)] U)) (vp_Si (fun r => (True) ∧ r = s_D_digest F rg)) 0 0 (fun _ => False) := by
  refine Met.ofW (cc := b_D_digest) (maxL := 4) (ret := (some .int)) (by decide) rfl ?_
  intro p e s m args below meth c s₁ B hml hv
  obtain ⟨rfl, hP, hK⟩ := hv
  have hx := B.exec
  have hb := B.bytes
  have hr := B.returns
  have hts := atoms_spec (ws := (tbw y_D_digest b_D_digest 4 (some .int))) B.pre
  have hw : ∀ z9 ∈ tb, z9.before ([.ref h0] : List Value).toArray s = true := fun z9 h => hts z9 (List.mem_cons_of_mem _ h)
  have hown : s.vm.findClass "VotedTriple$VotedModule" = some m.cls := findClass_of_methodNamed B.named
  have hlocks := B.notSynchronized
  replace hl := lv_entry ([.ref h0]) (n := 4) (Nat.le_of_ble_eq_true rfl)
  rw [lg_entry_eq]
  generalize (lg_sl ([.ref h0]) ++ List.replicate (4 - (lg_sl ([.ref h0])).length) Slot.unset).toArray = ls at hl ⊢
  replace hl : lv_has ls 4 [(0, .ref h0)] := hl
  generalize hSP : s_D_digest F rg = SP
  have cut8 : ∀ (v1 : Int32) (ls : Array Slot), SP = s_D_digest_cut8 v1 →  lv_has ls 4 [(0, .ref h0), (1, .int v1), (2, .int 8)] → W p l e (headSpec (tbw y_D_digest b_D_digest 4 (some .int)) ({ frames := 0, cells := 0, slots := 0, locals := 0 })).room s m ([.ref h0] : List Value).toArray below meth c s.heap [] 0 0 (MQ below (vp_Si (fun r => (True) ∧ r = SP)) ([.ref h0] : List Value).toArray s 0 0 (fun _ => False)) (F0 m 7 ls []) := by
    intro v1 ls hSq0 hl
    refine lv_iload_n hx hb d_D_digest_7 rfl (lv_at hl 2 rfl) ?_
    refine lv_bipush (v := 8) hx hb d_D_digest_8 (by decide) ?_
    refine lv_icmp_ge (tgt := 47) hx hb d_D_digest_10 rfl (fun hc1 => ?_) (fun hc1 => by first | exact absurd (by decide) hc1 | exact absurd hc1 (by decide))
    refine lv_iload_n hx hb d_D_digest_47 rfl (lv_at hl 1 rfl) ?_
    exact W.iret (v := v1) hx hb hr (fun t ht _ => ⟨_, rfl, ⟨trivial, (by rw [hSq0, s_D_digest_cut8]; all_goals rfl)⟩, ht⟩) (fun _ h => by cases h) d_D_digest_48
  have cut7 : ∀ (v1 : Int32) (ls : Array Slot), SP = s_D_digest_cut7 rg v1 →  lv_has ls 4 [(0, .ref h0), (1, .int v1), (2, .int 7)] → W p l e (headSpec (tbw y_D_digest b_D_digest 4 (some .int)) ({ frames := 0, cells := 0, slots := 0, locals := 0 })).room s m ([.ref h0] : List Value).toArray below meth c s.heap [] 0 0 (MQ below (vp_Si (fun r => (True) ∧ r = SP)) ([.ref h0] : List Value).toArray s 0 0 (fun _ => False)) (F0 m 7 ls []) := by
    intro v1 ls hSq0 hl
    refine lv_iload_n hx hb d_D_digest_7 rfl (lv_at hl 2 rfl) ?_
    refine lv_bipush (v := 8) hx hb d_D_digest_8 (by decide) ?_
    refine lv_icmp_ge (tgt := 47) hx hb d_D_digest_10 rfl (fun hc2 => by first | exact absurd hc2 (by decide) | exact absurd (by decide) hc2) (fun hc2 => ?_)
    refine lv_aload_n hx hb d_D_digest_13 rfl (lv_at hl 0 rfl) ?_
    refine va_get (D := (dC, dI)) (ci := 2) (v := .ref r9) (C := "VotedTriple$VotedModule") (T := F_D) (N := 19) hx hb hw in_D hown hK hP 0 rfl rfl 0 (by decide) (hw _ k_71) (fun x9 h9 => u_same (hw _ k_72) x9 h9) rfl d_D_digest_14 ?_
    refine lv_iload_n hx hb d_D_digest_17 rfl (lv_at hl 2 rfl) ?_
    refine va_iald hx hb hK hP 1 0 rfl rfl (by unfold vp_in; decide) d_D_digest_18 ?_
    refine lv_iload_n hx hb d_D_digest_19 rfl (lv_at hl 2 rfl) ?_
    refine lv_ishl hx hb d_D_digest_20 ?_
    refine lv_aload_n hx hb d_D_digest_21 rfl (lv_at hl 0 rfl) ?_
    refine va_get (D := (dC, dI)) (ci := 2) (v := .ref r9) (C := "VotedTriple$VotedModule") (T := F_D) (N := 19) hx hb hw in_D hown hK hP 0 rfl rfl 0 (by decide) (hw _ k_71) (fun x9 h9 => u_same (hw _ k_72) x9 h9) rfl d_D_digest_22 ?_
    refine lv_iload_n hx hb d_D_digest_25 rfl (lv_at hl 2 rfl) ?_
    refine va_iald hx hb hK hP 1 0 rfl rfl (by unfold vp_in; decide) d_D_digest_26 ?_
    refine lv_bipush (v := 16) hx hb d_D_digest_27 (by decide) ?_
    refine lv_iload_n hx hb d_D_digest_29 rfl (lv_at hl 2 rfl) ?_
    refine lv_isub hx hb d_D_digest_30 ?_
    refine lv_iushr (v := ush (rg (Int32.toNatClampNeg (7 : Int32))) ((16 : Int32) - (7 : Int32))) hx hb d_D_digest_31 rfl ?_
    refine lv_ior hx hb d_D_digest_32 ?_
    refine lv_istore_n hx hb d_D_digest_33 rfl hl (by decide) rfl (fun ls hl => ?_)
    replace hl : lv_has ls 4 [(3, .int (((rg (Int32.toNatClampNeg (7 : Int32))) <<< ((7 : Int32) &&& 31)) ||| (ush (rg (Int32.toNatClampNeg (7 : Int32))) ((16 : Int32) - (7 : Int32))))), (0, .ref h0), (1, .int v1), (2, .int 7)] := hl
    refine lv_iload_n hx hb d_D_digest_34 rfl (lv_at hl 2 rfl) ?_
    refine lv_iload_n hx hb d_D_digest_35 rfl (lv_at hl 0 rfl) ?_
    refine lv_ldc (v := 65535) hx hb hown (hw _ k_643) d_D_digest_36 ?_
    refine lv_iand hx hb d_D_digest_38 ?_
    refine lv_ixor hx hb d_D_digest_39 ?_
    refine lv_istore_n hx hb d_D_digest_40 rfl hl (by decide) rfl (fun ls hl => ?_)
    replace hl : lv_has ls 4 [(1, .int (v1 ^^^ ((((rg (Int32.toNatClampNeg (7 : Int32))) <<< ((7 : Int32) &&& 31)) ||| (ush (rg (Int32.toNatClampNeg (7 : Int32))) ((16 : Int32) - (7 : Int32)))) &&& (65535 : Int32)))), (3, .int (((rg (Int32.toNatClampNeg (7 : Int32))) <<< ((7 : Int32) &&& 31)) ||| (ush (rg (Int32.toNatClampNeg (7 : Int32))) ((16 : Int32) - (7 : Int32))))), (0, .ref h0), (2, .int 7)] := hl
    refine lv_iinc (k := 3) (v := 8) hx hb d_D_digest_41 hl rfl rfl (by decide) rfl (fun ls hl => ?_)
    replace hl : lv_has ls 4 [(2, .int 8), (1, .int (v1 ^^^ ((((rg (Int32.toNatClampNeg (7 : Int32))) <<< ((7 : Int32) &&& 31)) ||| (ush (rg (Int32.toNatClampNeg (7 : Int32))) ((16 : Int32) - (7 : Int32)))) &&& (65535 : Int32)))), (3, .int (((rg (Int32.toNatClampNeg (7 : Int32))) <<< ((7 : Int32) &&& 31)) ||| (ush (rg (Int32.toNatClampNeg (7 : Int32))) ((16 : Int32) - (7 : Int32))))), (0, .ref h0)] := hl
    refine lv_goto (tgt := 7) hx hb d_D_digest_44 rfl ?_
    have hSq : SP = s_D_digest_cut8 (v1 ^^^ ((((rg (Int32.toNatClampNeg (7 : Int32))) <<< ((7 : Int32) &&& 31)) ||| (ush (rg (Int32.toNatClampNeg (7 : Int32))) ((16 : Int32) - (7 : Int32)))) &&& (65535 : Int32))) := by rw [hSq0, s_D_digest_cut7]; all_goals rfl
    replace hl := lv_sub hl (l' := [(0, .ref h0), (1, .int (v1 ^^^ ((((rg (Int32.toNatClampNeg (7 : Int32))) <<< ((7 : Int32) &&& 31)) ||| (ush (rg (Int32.toNatClampNeg (7 : Int32))) ((16 : Int32) - (7 : Int32)))) &&& (65535 : Int32)))), (2, .int 8)]) [3, 1, 0] rfl
    exact cut8 (v1 ^^^ ((((rg (Int32.toNatClampNeg (7 : Int32))) <<< ((7 : Int32) &&& 31)) ||| (ush (rg (Int32.toNatClampNeg (7 : Int32))) ((16 : Int32) - (7 : Int32)))) &&& (65535 : Int32))) _ hSq hl
  have cut6 : ∀ (v1 : Int32) (ls : Array Slot), SP = s_D_digest_cut6 rg v1 →  lv_has ls 4 [(0, .ref h0), (1, .int v1), (2, .int 6)] → W p l e (headSpec (tbw y_D_digest b_D_digest 4 (some .int)) ({ frames := 0, cells := 0, slots := 0, locals := 0 })).room s m ([.ref h0] : List Value).toArray below meth c s.heap [] 0 0 (MQ below (vp_Si (fun r => (True) ∧ r = SP)) ([.ref h0] : List Value).toArray s 0 0 (fun _ => False)) (F0 m 7 ls []) := by
    intro v1 ls hSq0 hl
    clear cut8
    refine lv_iload_n hx hb d_D_digest_7 rfl (lv_at hl 2 rfl) ?_
    refine lv_bipush (v := 8) hx hb d_D_digest_8 (by decide) ?_
    refine lv_icmp_ge (tgt := 47) hx hb d_D_digest_10 rfl (fun hc3 => by first | exact absurd hc3 (by decide) | exact absurd (by decide) hc3) (fun hc3 => ?_)
    refine lv_aload_n hx hb d_D_digest_13 rfl (lv_at hl 0 rfl) ?_
    refine va_get (D := (dC, dI)) (ci := 2) (v := .ref r9) (C := "VotedTriple$VotedModule") (T := F_D) (N := 19) hx hb hw in_D hown hK hP 0 rfl rfl 0 (by decide) (hw _ k_71) (fun x9 h9 => u_same (hw _ k_72) x9 h9) rfl d_D_digest_14 ?_
    refine lv_iload_n hx hb d_D_digest_17 rfl (lv_at hl 2 rfl) ?_
    refine va_iald hx hb hK hP 1 0 rfl rfl (by unfold vp_in; decide) d_D_digest_18 ?_
    refine lv_iload_n hx hb d_D_digest_19 rfl (lv_at hl 2 rfl) ?_
    refine lv_ishl hx hb d_D_digest_20 ?_
    refine lv_aload_n hx hb d_D_digest_21 rfl (lv_at hl 0 rfl) ?_
    refine va_get (D := (dC, dI)) (ci := 2) (v := .ref r9) (C := "VotedTriple$VotedModule") (T := F_D) (N := 19) hx hb hw in_D hown hK hP 0 rfl rfl 0 (by decide) (hw _ k_71) (fun x9 h9 => u_same (hw _ k_72) x9 h9) rfl d_D_digest_22 ?_
    refine lv_iload_n hx hb d_D_digest_25 rfl (lv_at hl 2 rfl) ?_
    refine va_iald hx hb hK hP 1 0 rfl rfl (by unfold vp_in; decide) d_D_digest_26 ?_
    refine lv_bipush (v := 16) hx hb d_D_digest_27 (by decide) ?_
    refine lv_iload_n hx hb d_D_digest_29 rfl (lv_at hl 2 rfl) ?_
    refine lv_isub hx hb d_D_digest_30 ?_
    refine lv_iushr (v := ush (rg (Int32.toNatClampNeg (6 : Int32))) ((16 : Int32) - (6 : Int32))) hx hb d_D_digest_31 rfl ?_
    refine lv_ior hx hb d_D_digest_32 ?_
    refine lv_istore_n hx hb d_D_digest_33 rfl hl (by decide) rfl (fun ls hl => ?_)
    replace hl : lv_has ls 4 [(3, .int (((rg (Int32.toNatClampNeg (6 : Int32))) <<< ((6 : Int32) &&& 31)) ||| (ush (rg (Int32.toNatClampNeg (6 : Int32))) ((16 : Int32) - (6 : Int32))))), (0, .ref h0), (1, .int v1), (2, .int 6)] := hl
    refine lv_iload_n hx hb d_D_digest_34 rfl (lv_at hl 2 rfl) ?_
    refine lv_iload_n hx hb d_D_digest_35 rfl (lv_at hl 0 rfl) ?_
    refine lv_ldc (v := 65535) hx hb hown (hw _ k_643) d_D_digest_36 ?_
    refine lv_iand hx hb d_D_digest_38 ?_
    refine lv_ixor hx hb d_D_digest_39 ?_
    refine lv_istore_n hx hb d_D_digest_40 rfl hl (by decide) rfl (fun ls hl => ?_)
    replace hl : lv_has ls 4 [(1, .int (v1 ^^^ ((((rg (Int32.toNatClampNeg (6 : Int32))) <<< ((6 : Int32) &&& 31)) ||| (ush (rg (Int32.toNatClampNeg (6 : Int32))) ((16 : Int32) - (6 : Int32)))) &&& (65535 : Int32)))), (3, .int (((rg (Int32.toNatClampNeg (6 : Int32))) <<< ((6 : Int32) &&& 31)) ||| (ush (rg (Int32.toNatClampNeg (6 : Int32))) ((16 : Int32) - (6 : Int32))))), (0, .ref h0), (2, .int 6)] := hl
    refine lv_iinc (k := 3) (v := 7) hx hb d_D_digest_41 hl rfl rfl (by decide) rfl (fun ls hl => ?_)
    replace hl : lv_has ls 4 [(2, .int 7), (1, .int (v1 ^^^ ((((rg (Int32.toNatClampNeg (6 : Int32))) <<< ((6 : Int32) &&& 31)) ||| (ush (rg (Int32.toNatClampNeg (6 : Int32))) ((16 : Int32) - (6 : Int32)))) &&& (65535 : Int32)))), (3, .int (((rg (Int32.toNatClampNeg (6 : Int32))) <<< ((6 : Int32) &&& 31)) ||| (ush (rg (Int32.toNatClampNeg (6 : Int32))) ((16 : Int32) - (6 : Int32))))), (0, .ref h0)] := hl
    refine lv_goto (tgt := 7) hx hb d_D_digest_44 rfl ?_
    have hSq : SP = s_D_digest_cut7 rg (v1 ^^^ ((((rg (Int32.toNatClampNeg (6 : Int32))) <<< ((6 : Int32) &&& 31)) ||| (ush (rg (Int32.toNatClampNeg (6 : Int32))) ((16 : Int32) - (6 : Int32)))) &&& (65535 : Int32))) := by rw [hSq0, s_D_digest_cut6]; all_goals rfl
    replace hl := lv_sub hl (l' := [(0, .ref h0), (1, .int (v1 ^^^ ((((rg (Int32.toNatClampNeg (6 : Int32))) <<< ((6 : Int32) &&& 31)) ||| (ush (rg (Int32.toNatClampNeg (6 : Int32))) ((16 : Int32) - (6 : Int32)))) &&& (65535 : Int32)))), (2, .int 7)]) [3, 1, 0] rfl
    exact cut7 (v1 ^^^ ((((rg (Int32.toNatClampNeg (6 : Int32))) <<< ((6 : Int32) &&& 31)) ||| (ush (rg (Int32.toNatClampNeg (6 : Int32))) ((16 : Int32) - (6 : Int32)))) &&& (65535 : Int32))) _ hSq hl
  have cut5 : ∀ (v1 : Int32) (ls : Array Slot), SP = s_D_digest_cut5 rg v1 →  lv_has ls 4 [(0, .ref h0), (1, .int v1), (2, .int 5)] → W p l e (headSpec (tbw y_D_digest b_D_digest 4 (some .int)) ({ frames := 0, cells := 0, slots := 0, locals := 0 })).room s m ([.ref h0] : List Value).toArray below meth c s.heap [] 0 0 (MQ below (vp_Si (fun r => (True) ∧ r = SP)) ([.ref h0] : List Value).toArray s 0 0 (fun _ => False)) (F0 m 7 ls []) := by
    intro v1 ls hSq0 hl
    clear cut8 cut7
    refine lv_iload_n hx hb d_D_digest_7 rfl (lv_at hl 2 rfl) ?_
    refine lv_bipush (v := 8) hx hb d_D_digest_8 (by decide) ?_
    refine lv_icmp_ge (tgt := 47) hx hb d_D_digest_10 rfl (fun hc4 => by first | exact absurd hc4 (by decide) | exact absurd (by decide) hc4) (fun hc4 => ?_)
    refine lv_aload_n hx hb d_D_digest_13 rfl (lv_at hl 0 rfl) ?_
    refine va_get (D := (dC, dI)) (ci := 2) (v := .ref r9) (C := "VotedTriple$VotedModule") (T := F_D) (N := 19) hx hb hw in_D hown hK hP 0 rfl rfl 0 (by decide) (hw _ k_71) (fun x9 h9 => u_same (hw _ k_72) x9 h9) rfl d_D_digest_14 ?_
    refine lv_iload_n hx hb d_D_digest_17 rfl (lv_at hl 2 rfl) ?_
    refine va_iald hx hb hK hP 1 0 rfl rfl (by unfold vp_in; decide) d_D_digest_18 ?_
    refine lv_iload_n hx hb d_D_digest_19 rfl (lv_at hl 2 rfl) ?_
    refine lv_ishl hx hb d_D_digest_20 ?_
    refine lv_aload_n hx hb d_D_digest_21 rfl (lv_at hl 0 rfl) ?_
    refine va_get (D := (dC, dI)) (ci := 2) (v := .ref r9) (C := "VotedTriple$VotedModule") (T := F_D) (N := 19) hx hb hw in_D hown hK hP 0 rfl rfl 0 (by decide) (hw _ k_71) (fun x9 h9 => u_same (hw _ k_72) x9 h9) rfl d_D_digest_22 ?_
    refine lv_iload_n hx hb d_D_digest_25 rfl (lv_at hl 2 rfl) ?_
    refine va_iald hx hb hK hP 1 0 rfl rfl (by unfold vp_in; decide) d_D_digest_26 ?_
    refine lv_bipush (v := 16) hx hb d_D_digest_27 (by decide) ?_
    refine lv_iload_n hx hb d_D_digest_29 rfl (lv_at hl 2 rfl) ?_
    refine lv_isub hx hb d_D_digest_30 ?_
    refine lv_iushr (v := ush (rg (Int32.toNatClampNeg (5 : Int32))) ((16 : Int32) - (5 : Int32))) hx hb d_D_digest_31 rfl ?_
    refine lv_ior hx hb d_D_digest_32 ?_
    refine lv_istore_n hx hb d_D_digest_33 rfl hl (by decide) rfl (fun ls hl => ?_)
    replace hl : lv_has ls 4 [(3, .int (((rg (Int32.toNatClampNeg (5 : Int32))) <<< ((5 : Int32) &&& 31)) ||| (ush (rg (Int32.toNatClampNeg (5 : Int32))) ((16 : Int32) - (5 : Int32))))), (0, .ref h0), (1, .int v1), (2, .int 5)] := hl
    refine lv_iload_n hx hb d_D_digest_34 rfl (lv_at hl 2 rfl) ?_
    refine lv_iload_n hx hb d_D_digest_35 rfl (lv_at hl 0 rfl) ?_
    refine lv_ldc (v := 65535) hx hb hown (hw _ k_643) d_D_digest_36 ?_
    refine lv_iand hx hb d_D_digest_38 ?_
    refine lv_ixor hx hb d_D_digest_39 ?_
    refine lv_istore_n hx hb d_D_digest_40 rfl hl (by decide) rfl (fun ls hl => ?_)
    replace hl : lv_has ls 4 [(1, .int (v1 ^^^ ((((rg (Int32.toNatClampNeg (5 : Int32))) <<< ((5 : Int32) &&& 31)) ||| (ush (rg (Int32.toNatClampNeg (5 : Int32))) ((16 : Int32) - (5 : Int32)))) &&& (65535 : Int32)))), (3, .int (((rg (Int32.toNatClampNeg (5 : Int32))) <<< ((5 : Int32) &&& 31)) ||| (ush (rg (Int32.toNatClampNeg (5 : Int32))) ((16 : Int32) - (5 : Int32))))), (0, .ref h0), (2, .int 5)] := hl
    refine lv_iinc (k := 3) (v := 6) hx hb d_D_digest_41 hl rfl rfl (by decide) rfl (fun ls hl => ?_)
    replace hl : lv_has ls 4 [(2, .int 6), (1, .int (v1 ^^^ ((((rg (Int32.toNatClampNeg (5 : Int32))) <<< ((5 : Int32) &&& 31)) ||| (ush (rg (Int32.toNatClampNeg (5 : Int32))) ((16 : Int32) - (5 : Int32)))) &&& (65535 : Int32)))), (3, .int (((rg (Int32.toNatClampNeg (5 : Int32))) <<< ((5 : Int32) &&& 31)) ||| (ush (rg (Int32.toNatClampNeg (5 : Int32))) ((16 : Int32) - (5 : Int32))))), (0, .ref h0)] := hl
    refine lv_goto (tgt := 7) hx hb d_D_digest_44 rfl ?_
    have hSq : SP = s_D_digest_cut6 rg (v1 ^^^ ((((rg (Int32.toNatClampNeg (5 : Int32))) <<< ((5 : Int32) &&& 31)) ||| (ush (rg (Int32.toNatClampNeg (5 : Int32))) ((16 : Int32) - (5 : Int32)))) &&& (65535 : Int32))) := by rw [hSq0, s_D_digest_cut5]; all_goals rfl
    replace hl := lv_sub hl (l' := [(0, .ref h0), (1, .int (v1 ^^^ ((((rg (Int32.toNatClampNeg (5 : Int32))) <<< ((5 : Int32) &&& 31)) ||| (ush (rg (Int32.toNatClampNeg (5 : Int32))) ((16 : Int32) - (5 : Int32)))) &&& (65535 : Int32)))), (2, .int 6)]) [3, 1, 0] rfl
    exact cut6 (v1 ^^^ ((((rg (Int32.toNatClampNeg (5 : Int32))) <<< ((5 : Int32) &&& 31)) ||| (ush (rg (Int32.toNatClampNeg (5 : Int32))) ((16 : Int32) - (5 : Int32)))) &&& (65535 : Int32))) _ hSq hl
  have cut4 : ∀ (v1 : Int32) (ls : Array Slot), SP = s_D_digest_cut4 rg v1 →  lv_has ls 4 [(0, .ref h0), (1, .int v1), (2, .int 4)] → W p l e (headSpec (tbw y_D_digest b_D_digest 4 (some .int)) ({ frames := 0, cells := 0, slots := 0, locals := 0 })).room s m ([.ref h0] : List Value).toArray below meth c s.heap [] 0 0 (MQ below (vp_Si (fun r => (True) ∧ r = SP)) ([.ref h0] : List Value).toArray s 0 0 (fun _ => False)) (F0 m 7 ls []) := by
    intro v1 ls hSq0 hl
    clear cut8 cut7 cut6
    refine lv_iload_n hx hb d_D_digest_7 rfl (lv_at hl 2 rfl) ?_
    refine lv_bipush (v := 8) hx hb d_D_digest_8 (by decide) ?_
    refine lv_icmp_ge (tgt := 47) hx hb d_D_digest_10 rfl (fun hc5 => by first | exact absurd hc5 (by decide) | exact absurd (by decide) hc5) (fun hc5 => ?_)
    refine lv_aload_n hx hb d_D_digest_13 rfl (lv_at hl 0 rfl) ?_
    refine va_get (D := (dC, dI)) (ci := 2) (v := .ref r9) (C := "VotedTriple$VotedModule") (T := F_D) (N := 19) hx hb hw in_D hown hK hP 0 rfl rfl 0 (by decide) (hw _ k_71) (fun x9 h9 => u_same (hw _ k_72) x9 h9) rfl d_D_digest_14 ?_
    refine lv_iload_n hx hb d_D_digest_17 rfl (lv_at hl 2 rfl) ?_
    refine va_iald hx hb hK hP 1 0 rfl rfl (by unfold vp_in; decide) d_D_digest_18 ?_
    refine lv_iload_n hx hb d_D_digest_19 rfl (lv_at hl 2 rfl) ?_
    refine lv_ishl hx hb d_D_digest_20 ?_
    refine lv_aload_n hx hb d_D_digest_21 rfl (lv_at hl 0 rfl) ?_
    refine va_get (D := (dC, dI)) (ci := 2) (v := .ref r9) (C := "VotedTriple$VotedModule") (T := F_D) (N := 19) hx hb hw in_D hown hK hP 0 rfl rfl 0 (by decide) (hw _ k_71) (fun x9 h9 => u_same (hw _ k_72) x9 h9) rfl d_D_digest_22 ?_
    refine lv_iload_n hx hb d_D_digest_25 rfl (lv_at hl 2 rfl) ?_
    refine va_iald hx hb hK hP 1 0 rfl rfl (by unfold vp_in; decide) d_D_digest_26 ?_
    refine lv_bipush (v := 16) hx hb d_D_digest_27 (by decide) ?_
    refine lv_iload_n hx hb d_D_digest_29 rfl (lv_at hl 2 rfl) ?_
    refine lv_isub hx hb d_D_digest_30 ?_
    refine lv_iushr (v := ush (rg (Int32.toNatClampNeg (4 : Int32))) ((16 : Int32) - (4 : Int32))) hx hb d_D_digest_31 rfl ?_
    refine lv_ior hx hb d_D_digest_32 ?_
    refine lv_istore_n hx hb d_D_digest_33 rfl hl (by decide) rfl (fun ls hl => ?_)
    replace hl : lv_has ls 4 [(3, .int (((rg (Int32.toNatClampNeg (4 : Int32))) <<< ((4 : Int32) &&& 31)) ||| (ush (rg (Int32.toNatClampNeg (4 : Int32))) ((16 : Int32) - (4 : Int32))))), (0, .ref h0), (1, .int v1), (2, .int 4)] := hl
    refine lv_iload_n hx hb d_D_digest_34 rfl (lv_at hl 2 rfl) ?_
    refine lv_iload_n hx hb d_D_digest_35 rfl (lv_at hl 0 rfl) ?_
    refine lv_ldc (v := 65535) hx hb hown (hw _ k_643) d_D_digest_36 ?_
    refine lv_iand hx hb d_D_digest_38 ?_
    refine lv_ixor hx hb d_D_digest_39 ?_
    refine lv_istore_n hx hb d_D_digest_40 rfl hl (by decide) rfl (fun ls hl => ?_)
    replace hl : lv_has ls 4 [(1, .int (v1 ^^^ ((((rg (Int32.toNatClampNeg (4 : Int32))) <<< ((4 : Int32) &&& 31)) ||| (ush (rg (Int32.toNatClampNeg (4 : Int32))) ((16 : Int32) - (4 : Int32)))) &&& (65535 : Int32)))), (3, .int (((rg (Int32.toNatClampNeg (4 : Int32))) <<< ((4 : Int32) &&& 31)) ||| (ush (rg (Int32.toNatClampNeg (4 : Int32))) ((16 : Int32) - (4 : Int32))))), (0, .ref h0), (2, .int 4)] := hl
    refine lv_iinc (k := 3) (v := 5) hx hb d_D_digest_41 hl rfl rfl (by decide) rfl (fun ls hl => ?_)
    replace hl : lv_has ls 4 [(2, .int 5), (1, .int (v1 ^^^ ((((rg (Int32.toNatClampNeg (4 : Int32))) <<< ((4 : Int32) &&& 31)) ||| (ush (rg (Int32.toNatClampNeg (4 : Int32))) ((16 : Int32) - (4 : Int32)))) &&& (65535 : Int32)))), (3, .int (((rg (Int32.toNatClampNeg (4 : Int32))) <<< ((4 : Int32) &&& 31)) ||| (ush (rg (Int32.toNatClampNeg (4 : Int32))) ((16 : Int32) - (4 : Int32))))), (0, .ref h0)] := hl
    refine lv_goto (tgt := 7) hx hb d_D_digest_44 rfl ?_
    have hSq : SP = s_D_digest_cut5 rg (v1 ^^^ ((((rg (Int32.toNatClampNeg (4 : Int32))) <<< ((4 : Int32) &&& 31)) ||| (ush (rg (Int32.toNatClampNeg (4 : Int32))) ((16 : Int32) - (4 : Int32)))) &&& (65535 : Int32))) := by rw [hSq0, s_D_digest_cut4]; all_goals rfl
    replace hl := lv_sub hl (l' := [(0, .ref h0), (1, .int (v1 ^^^ ((((rg (Int32.toNatClampNeg (4 : Int32))) <<< ((4 : Int32) &&& 31)) ||| (ush (rg (Int32.toNatClampNeg (4 : Int32))) ((16 : Int32) - (4 : Int32)))) &&& (65535 : Int32)))), (2, .int 5)]) [3, 1, 0] rfl
    exact cut5 (v1 ^^^ ((((rg (Int32.toNatClampNeg (4 : Int32))) <<< ((4 : Int32) &&& 31)) ||| (ush (rg (Int32.toNatClampNeg (4 : Int32))) ((16 : Int32) - (4 : Int32)))) &&& (65535 : Int32))) _ hSq hl
  have cut3 : ∀ (v1 : Int32) (ls : Array Slot), SP = s_D_digest_cut3 rg v1 →  lv_has ls 4 [(0, .ref h0), (1, .int v1), (2, .int 3)] → W p l e (headSpec (tbw y_D_digest b_D_digest 4 (some .int)) ({ frames := 0, cells := 0, slots := 0, locals := 0 })).room s m ([.ref h0] : List Value).toArray below meth c s.heap [] 0 0 (MQ below (vp_Si (fun r => (True) ∧ r = SP)) ([.ref h0] : List Value).toArray s 0 0 (fun _ => False)) (F0 m 7 ls []) := by
    intro v1 ls hSq0 hl
    clear cut8 cut7 cut6 cut5
    refine lv_iload_n hx hb d_D_digest_7 rfl (lv_at hl 2 rfl) ?_
    refine lv_bipush (v := 8) hx hb d_D_digest_8 (by decide) ?_
    refine lv_icmp_ge (tgt := 47) hx hb d_D_digest_10 rfl (fun hc6 => by first | exact absurd hc6 (by decide) | exact absurd (by decide) hc6) (fun hc6 => ?_)
    refine lv_aload_n hx hb d_D_digest_13 rfl (lv_at hl 0 rfl) ?_
    refine va_get (D := (dC, dI)) (ci := 2) (v := .ref r9) (C := "VotedTriple$VotedModule") (T := F_D) (N := 19) hx hb hw in_D hown hK hP 0 rfl rfl 0 (by decide) (hw _ k_71) (fun x9 h9 => u_same (hw _ k_72) x9 h9) rfl d_D_digest_14 ?_
    refine lv_iload_n hx hb d_D_digest_17 rfl (lv_at hl 2 rfl) ?_
    refine va_iald hx hb hK hP 1 0 rfl rfl (by unfold vp_in; decide) d_D_digest_18 ?_
    refine lv_iload_n hx hb d_D_digest_19 rfl (lv_at hl 2 rfl) ?_
    refine lv_ishl hx hb d_D_digest_20 ?_
    refine lv_aload_n hx hb d_D_digest_21 rfl (lv_at hl 0 rfl) ?_
    refine va_get (D := (dC, dI)) (ci := 2) (v := .ref r9) (C := "VotedTriple$VotedModule") (T := F_D) (N := 19) hx hb hw in_D hown hK hP 0 rfl rfl 0 (by decide) (hw _ k_71) (fun x9 h9 => u_same (hw _ k_72) x9 h9) rfl d_D_digest_22 ?_
    refine lv_iload_n hx hb d_D_digest_25 rfl (lv_at hl 2 rfl) ?_
    refine va_iald hx hb hK hP 1 0 rfl rfl (by unfold vp_in; decide) d_D_digest_26 ?_
    refine lv_bipush (v := 16) hx hb d_D_digest_27 (by decide) ?_
    refine lv_iload_n hx hb d_D_digest_29 rfl (lv_at hl 2 rfl) ?_
    refine lv_isub hx hb d_D_digest_30 ?_
    refine lv_iushr (v := ush (rg (Int32.toNatClampNeg (3 : Int32))) ((16 : Int32) - (3 : Int32))) hx hb d_D_digest_31 rfl ?_
    refine lv_ior hx hb d_D_digest_32 ?_
    refine lv_istore_n hx hb d_D_digest_33 rfl hl (by decide) rfl (fun ls hl => ?_)
    replace hl : lv_has ls 4 [(3, .int (((rg (Int32.toNatClampNeg (3 : Int32))) <<< ((3 : Int32) &&& 31)) ||| (ush (rg (Int32.toNatClampNeg (3 : Int32))) ((16 : Int32) - (3 : Int32))))), (0, .ref h0), (1, .int v1), (2, .int 3)] := hl
    refine lv_iload_n hx hb d_D_digest_34 rfl (lv_at hl 2 rfl) ?_
    refine lv_iload_n hx hb d_D_digest_35 rfl (lv_at hl 0 rfl) ?_
    refine lv_ldc (v := 65535) hx hb hown (hw _ k_643) d_D_digest_36 ?_
    refine lv_iand hx hb d_D_digest_38 ?_
    refine lv_ixor hx hb d_D_digest_39 ?_
    refine lv_istore_n hx hb d_D_digest_40 rfl hl (by decide) rfl (fun ls hl => ?_)
    replace hl : lv_has ls 4 [(1, .int (v1 ^^^ ((((rg (Int32.toNatClampNeg (3 : Int32))) <<< ((3 : Int32) &&& 31)) ||| (ush (rg (Int32.toNatClampNeg (3 : Int32))) ((16 : Int32) - (3 : Int32)))) &&& (65535 : Int32)))), (3, .int (((rg (Int32.toNatClampNeg (3 : Int32))) <<< ((3 : Int32) &&& 31)) ||| (ush (rg (Int32.toNatClampNeg (3 : Int32))) ((16 : Int32) - (3 : Int32))))), (0, .ref h0), (2, .int 3)] := hl
    refine lv_iinc (k := 3) (v := 4) hx hb d_D_digest_41 hl rfl rfl (by decide) rfl (fun ls hl => ?_)
    replace hl : lv_has ls 4 [(2, .int 4), (1, .int (v1 ^^^ ((((rg (Int32.toNatClampNeg (3 : Int32))) <<< ((3 : Int32) &&& 31)) ||| (ush (rg (Int32.toNatClampNeg (3 : Int32))) ((16 : Int32) - (3 : Int32)))) &&& (65535 : Int32)))), (3, .int (((rg (Int32.toNatClampNeg (3 : Int32))) <<< ((3 : Int32) &&& 31)) ||| (ush (rg (Int32.toNatClampNeg (3 : Int32))) ((16 : Int32) - (3 : Int32))))), (0, .ref h0)] := hl
    refine lv_goto (tgt := 7) hx hb d_D_digest_44 rfl ?_
    have hSq : SP = s_D_digest_cut4 rg (v1 ^^^ ((((rg (Int32.toNatClampNeg (3 : Int32))) <<< ((3 : Int32) &&& 31)) ||| (ush (rg (Int32.toNatClampNeg (3 : Int32))) ((16 : Int32) - (3 : Int32)))) &&& (65535 : Int32))) := by rw [hSq0, s_D_digest_cut3]; all_goals rfl
    replace hl := lv_sub hl (l' := [(0, .ref h0), (1, .int (v1 ^^^ ((((rg (Int32.toNatClampNeg (3 : Int32))) <<< ((3 : Int32) &&& 31)) ||| (ush (rg (Int32.toNatClampNeg (3 : Int32))) ((16 : Int32) - (3 : Int32)))) &&& (65535 : Int32)))), (2, .int 4)]) [3, 1, 0] rfl
    exact cut4 (v1 ^^^ ((((rg (Int32.toNatClampNeg (3 : Int32))) <<< ((3 : Int32) &&& 31)) ||| (ush (rg (Int32.toNatClampNeg (3 : Int32))) ((16 : Int32) - (3 : Int32)))) &&& (65535 : Int32))) _ hSq hl
  have cut2 : ∀ (v1 : Int32) (ls : Array Slot), SP = s_D_digest_cut2 rg v1 →  lv_has ls 4 [(0, .ref h0), (1, .int v1), (2, .int 2)] → W p l e (headSpec (tbw y_D_digest b_D_digest 4 (some .int)) ({ frames := 0, cells := 0, slots := 0, locals := 0 })).room s m ([.ref h0] : List Value).toArray below meth c s.heap [] 0 0 (MQ below (vp_Si (fun r => (True) ∧ r = SP)) ([.ref h0] : List Value).toArray s 0 0 (fun _ => False)) (F0 m 7 ls []) := by
    intro v1 ls hSq0 hl
    clear cut8 cut7 cut6 cut5 cut4
    refine lv_iload_n hx hb d_D_digest_7 rfl (lv_at hl 2 rfl) ?_
    refine lv_bipush (v := 8) hx hb d_D_digest_8 (by decide) ?_
    refine lv_icmp_ge (tgt := 47) hx hb d_D_digest_10 rfl (fun hc7 => by first | exact absurd hc7 (by decide) | exact absurd (by decide) hc7) (fun hc7 => ?_)
    refine lv_aload_n hx hb d_D_digest_13 rfl (lv_at hl 0 rfl) ?_
    refine va_get (D := (dC, dI)) (ci := 2) (v := .ref r9) (C := "VotedTriple$VotedModule") (T := F_D) (N := 19) hx hb hw in_D hown hK hP 0 rfl rfl 0 (by decide) (hw _ k_71) (fun x9 h9 => u_same (hw _ k_72) x9 h9) rfl d_D_digest_14 ?_
    refine lv_iload_n hx hb d_D_digest_17 rfl (lv_at hl 2 rfl) ?_
    refine va_iald hx hb hK hP 1 0 rfl rfl (by unfold vp_in; decide) d_D_digest_18 ?_
    refine lv_iload_n hx hb d_D_digest_19 rfl (lv_at hl 2 rfl) ?_
    refine lv_ishl hx hb d_D_digest_20 ?_
    refine lv_aload_n hx hb d_D_digest_21 rfl (lv_at hl 0 rfl) ?_
    refine va_get (D := (dC, dI)) (ci := 2) (v := .ref r9) (C := "VotedTriple$VotedModule") (T := F_D) (N := 19) hx hb hw in_D hown hK hP 0 rfl rfl 0 (by decide) (hw _ k_71) (fun x9 h9 => u_same (hw _ k_72) x9 h9) rfl d_D_digest_22 ?_
    refine lv_iload_n hx hb d_D_digest_25 rfl (lv_at hl 2 rfl) ?_
    refine va_iald hx hb hK hP 1 0 rfl rfl (by unfold vp_in; decide) d_D_digest_26 ?_
    refine lv_bipush (v := 16) hx hb d_D_digest_27 (by decide) ?_
    refine lv_iload_n hx hb d_D_digest_29 rfl (lv_at hl 2 rfl) ?_
    refine lv_isub hx hb d_D_digest_30 ?_
    refine lv_iushr (v := ush (rg (Int32.toNatClampNeg (2 : Int32))) ((16 : Int32) - (2 : Int32))) hx hb d_D_digest_31 rfl ?_
    refine lv_ior hx hb d_D_digest_32 ?_
    refine lv_istore_n hx hb d_D_digest_33 rfl hl (by decide) rfl (fun ls hl => ?_)
    replace hl : lv_has ls 4 [(3, .int (((rg (Int32.toNatClampNeg (2 : Int32))) <<< ((2 : Int32) &&& 31)) ||| (ush (rg (Int32.toNatClampNeg (2 : Int32))) ((16 : Int32) - (2 : Int32))))), (0, .ref h0), (1, .int v1), (2, .int 2)] := hl
    refine lv_iload_n hx hb d_D_digest_34 rfl (lv_at hl 2 rfl) ?_
    refine lv_iload_n hx hb d_D_digest_35 rfl (lv_at hl 0 rfl) ?_
    refine lv_ldc (v := 65535) hx hb hown (hw _ k_643) d_D_digest_36 ?_
    refine lv_iand hx hb d_D_digest_38 ?_
    refine lv_ixor hx hb d_D_digest_39 ?_
    refine lv_istore_n hx hb d_D_digest_40 rfl hl (by decide) rfl (fun ls hl => ?_)
    replace hl : lv_has ls 4 [(1, .int (v1 ^^^ ((((rg (Int32.toNatClampNeg (2 : Int32))) <<< ((2 : Int32) &&& 31)) ||| (ush (rg (Int32.toNatClampNeg (2 : Int32))) ((16 : Int32) - (2 : Int32)))) &&& (65535 : Int32)))), (3, .int (((rg (Int32.toNatClampNeg (2 : Int32))) <<< ((2 : Int32) &&& 31)) ||| (ush (rg (Int32.toNatClampNeg (2 : Int32))) ((16 : Int32) - (2 : Int32))))), (0, .ref h0), (2, .int 2)] := hl
    refine lv_iinc (k := 3) (v := 3) hx hb d_D_digest_41 hl rfl rfl (by decide) rfl (fun ls hl => ?_)
    replace hl : lv_has ls 4 [(2, .int 3), (1, .int (v1 ^^^ ((((rg (Int32.toNatClampNeg (2 : Int32))) <<< ((2 : Int32) &&& 31)) ||| (ush (rg (Int32.toNatClampNeg (2 : Int32))) ((16 : Int32) - (2 : Int32)))) &&& (65535 : Int32)))), (3, .int (((rg (Int32.toNatClampNeg (2 : Int32))) <<< ((2 : Int32) &&& 31)) ||| (ush (rg (Int32.toNatClampNeg (2 : Int32))) ((16 : Int32) - (2 : Int32))))), (0, .ref h0)] := hl
    refine lv_goto (tgt := 7) hx hb d_D_digest_44 rfl ?_
    have hSq : SP = s_D_digest_cut3 rg (v1 ^^^ ((((rg (Int32.toNatClampNeg (2 : Int32))) <<< ((2 : Int32) &&& 31)) ||| (ush (rg (Int32.toNatClampNeg (2 : Int32))) ((16 : Int32) - (2 : Int32)))) &&& (65535 : Int32))) := by rw [hSq0, s_D_digest_cut2]; all_goals rfl
    replace hl := lv_sub hl (l' := [(0, .ref h0), (1, .int (v1 ^^^ ((((rg (Int32.toNatClampNeg (2 : Int32))) <<< ((2 : Int32) &&& 31)) ||| (ush (rg (Int32.toNatClampNeg (2 : Int32))) ((16 : Int32) - (2 : Int32)))) &&& (65535 : Int32)))), (2, .int 3)]) [3, 1, 0] rfl
    exact cut3 (v1 ^^^ ((((rg (Int32.toNatClampNeg (2 : Int32))) <<< ((2 : Int32) &&& 31)) ||| (ush (rg (Int32.toNatClampNeg (2 : Int32))) ((16 : Int32) - (2 : Int32)))) &&& (65535 : Int32))) _ hSq hl
  have cut1 : ∀ (v1 : Int32) (ls : Array Slot), SP = s_D_digest_cut1 rg v1 →  lv_has ls 4 [(0, .ref h0), (1, .int v1), (2, .int 1)] → W p l e (headSpec (tbw y_D_digest b_D_digest 4 (some .int)) ({ frames := 0, cells := 0, slots := 0, locals := 0 })).room s m ([.ref h0] : List Value).toArray below meth c s.heap [] 0 0 (MQ below (vp_Si (fun r => (True) ∧ r = SP)) ([.ref h0] : List Value).toArray s 0 0 (fun _ => False)) (F0 m 7 ls []) := by
    intro v1 ls hSq0 hl
    clear cut8 cut7 cut6 cut5 cut4 cut3
    refine lv_iload_n hx hb d_D_digest_7 rfl (lv_at hl 2 rfl) ?_
    refine lv_bipush (v := 8) hx hb d_D_digest_8 (by decide) ?_
    refine lv_icmp_ge (tgt := 47) hx hb d_D_digest_10 rfl (fun hc8 => by first | exact absurd hc8 (by decide) | exact absurd (by decide) hc8) (fun hc8 => ?_)
    refine lv_aload_n hx hb d_D_digest_13 rfl (lv_at hl 0 rfl) ?_
    refine va_get (D := (dC, dI)) (ci := 2) (v := .ref r9) (C := "VotedTriple$VotedModule") (T := F_D) (N := 19) hx hb hw in_D hown hK hP 0 rfl rfl 0 (by decide) (hw _ k_71) (fun x9 h9 => u_same (hw _ k_72) x9 h9) rfl d_D_digest_14 ?_
    refine lv_iload_n hx hb d_D_digest_17 rfl (lv_at hl 2 rfl) ?_
    refine va_iald hx hb hK hP 1 0 rfl rfl (by unfold vp_in; decide) d_D_digest_18 ?_
    refine lv_iload_n hx hb d_D_digest_19 rfl (lv_at hl 2 rfl) ?_
    refine lv_ishl hx hb d_D_digest_20 ?_
    refine lv_aload_n hx hb d_D_digest_21 rfl (lv_at hl 0 rfl) ?_
    refine va_get (D := (dC, dI)) (ci := 2) (v := .ref r9) (C := "VotedTriple$VotedModule") (T := F_D) (N := 19) hx hb hw in_D hown hK hP 0 rfl rfl 0 (by decide) (hw _ k_71) (fun x9 h9 => u_same (hw _ k_72) x9 h9) rfl d_D_digest_22 ?_
    refine lv_iload_n hx hb d_D_digest_25 rfl (lv_at hl 2 rfl) ?_
    refine va_iald hx hb hK hP 1 0 rfl rfl (by unfold vp_in; decide) d_D_digest_26 ?_
    refine lv_bipush (v := 16) hx hb d_D_digest_27 (by decide) ?_
    refine lv_iload_n hx hb d_D_digest_29 rfl (lv_at hl 2 rfl) ?_
    refine lv_isub hx hb d_D_digest_30 ?_
    refine lv_iushr (v := ush (rg (Int32.toNatClampNeg (1 : Int32))) ((16 : Int32) - (1 : Int32))) hx hb d_D_digest_31 rfl ?_
    refine lv_ior hx hb d_D_digest_32 ?_
    refine lv_istore_n hx hb d_D_digest_33 rfl hl (by decide) rfl (fun ls hl => ?_)
    replace hl : lv_has ls 4 [(3, .int (((rg (Int32.toNatClampNeg (1 : Int32))) <<< ((1 : Int32) &&& 31)) ||| (ush (rg (Int32.toNatClampNeg (1 : Int32))) ((16 : Int32) - (1 : Int32))))), (0, .ref h0), (1, .int v1), (2, .int 1)] := hl
    refine lv_iload_n hx hb d_D_digest_34 rfl (lv_at hl 2 rfl) ?_
    refine lv_iload_n hx hb d_D_digest_35 rfl (lv_at hl 0 rfl) ?_
    refine lv_ldc (v := 65535) hx hb hown (hw _ k_643) d_D_digest_36 ?_
    refine lv_iand hx hb d_D_digest_38 ?_
    refine lv_ixor hx hb d_D_digest_39 ?_
    refine lv_istore_n hx hb d_D_digest_40 rfl hl (by decide) rfl (fun ls hl => ?_)
    replace hl : lv_has ls 4 [(1, .int (v1 ^^^ ((((rg (Int32.toNatClampNeg (1 : Int32))) <<< ((1 : Int32) &&& 31)) ||| (ush (rg (Int32.toNatClampNeg (1 : Int32))) ((16 : Int32) - (1 : Int32)))) &&& (65535 : Int32)))), (3, .int (((rg (Int32.toNatClampNeg (1 : Int32))) <<< ((1 : Int32) &&& 31)) ||| (ush (rg (Int32.toNatClampNeg (1 : Int32))) ((16 : Int32) - (1 : Int32))))), (0, .ref h0), (2, .int 1)] := hl
    refine lv_iinc (k := 3) (v := 2) hx hb d_D_digest_41 hl rfl rfl (by decide) rfl (fun ls hl => ?_)
    replace hl : lv_has ls 4 [(2, .int 2), (1, .int (v1 ^^^ ((((rg (Int32.toNatClampNeg (1 : Int32))) <<< ((1 : Int32) &&& 31)) ||| (ush (rg (Int32.toNatClampNeg (1 : Int32))) ((16 : Int32) - (1 : Int32)))) &&& (65535 : Int32)))), (3, .int (((rg (Int32.toNatClampNeg (1 : Int32))) <<< ((1 : Int32) &&& 31)) ||| (ush (rg (Int32.toNatClampNeg (1 : Int32))) ((16 : Int32) - (1 : Int32))))), (0, .ref h0)] := hl
    refine lv_goto (tgt := 7) hx hb d_D_digest_44 rfl ?_
    have hSq : SP = s_D_digest_cut2 rg (v1 ^^^ ((((rg (Int32.toNatClampNeg (1 : Int32))) <<< ((1 : Int32) &&& 31)) ||| (ush (rg (Int32.toNatClampNeg (1 : Int32))) ((16 : Int32) - (1 : Int32)))) &&& (65535 : Int32))) := by rw [hSq0, s_D_digest_cut1]; all_goals rfl
    replace hl := lv_sub hl (l' := [(0, .ref h0), (1, .int (v1 ^^^ ((((rg (Int32.toNatClampNeg (1 : Int32))) <<< ((1 : Int32) &&& 31)) ||| (ush (rg (Int32.toNatClampNeg (1 : Int32))) ((16 : Int32) - (1 : Int32)))) &&& (65535 : Int32)))), (2, .int 2)]) [3, 1, 0] rfl
    exact cut2 (v1 ^^^ ((((rg (Int32.toNatClampNeg (1 : Int32))) <<< ((1 : Int32) &&& 31)) ||| (ush (rg (Int32.toNatClampNeg (1 : Int32))) ((16 : Int32) - (1 : Int32)))) &&& (65535 : Int32))) _ hSq hl
  clear cut8 cut7 cut6 cut5 cut4 cut3 cut2
  refine lv_aload_n hx hb d_D_digest_0 rfl (lv_at hl 0 rfl) ?_
  refine va_get (D := (dC, dI)) (ci := 2) (v := .int (F 1)) (C := "VotedTriple$VotedModule") (T := F_D) (N := 19) hx hb hw in_D hown hK hP 0 rfl rfl 1 (by decide) (hw _ k_75) (fun x9 h9 => u_same (hw _ k_76) x9 h9) rfl d_D_digest_1 ?_
  refine lv_istore_n hx hb d_D_digest_4 rfl hl (by decide) rfl (fun ls hl => ?_)
  replace hl : lv_has ls 4 [(1, .int (F 1)), (0, .ref h0)] := hl
  refine lv_iconst (v := 0) hx hb d_D_digest_5 (by decide) ?_
  refine lv_istore_n hx hb d_D_digest_6 rfl hl (by decide) rfl (fun ls hl => ?_)
  replace hl : lv_has ls 4 [(2, .int 0), (1, .int (F 1)), (0, .ref h0)] := hl
  refine lv_iload_n hx hb d_D_digest_7 rfl (lv_at hl 0 rfl) ?_
  refine lv_bipush (v := 8) hx hb d_D_digest_8 (by decide) ?_
  refine lv_icmp_ge (tgt := 47) hx hb d_D_digest_10 rfl (fun hc9 => by first | exact absurd hc9 (by decide) | exact absurd (by decide) hc9) (fun hc9 => ?_)
  refine lv_aload_n hx hb d_D_digest_13 rfl (lv_at hl 2 rfl) ?_
  refine va_get (D := (dC, dI)) (ci := 2) (v := .ref r9) (C := "VotedTriple$VotedModule") (T := F_D) (N := 19) hx hb hw in_D hown hK hP 0 rfl rfl 0 (by decide) (hw _ k_71) (fun x9 h9 => u_same (hw _ k_72) x9 h9) rfl d_D_digest_14 ?_
  refine lv_iload_n hx hb d_D_digest_17 rfl (lv_at hl 0 rfl) ?_
  refine va_iald hx hb hK hP 1 0 rfl rfl (by unfold vp_in; decide) d_D_digest_18 ?_
  refine lv_iload_n hx hb d_D_digest_19 rfl (lv_at hl 0 rfl) ?_
  refine lv_ishl hx hb d_D_digest_20 ?_
  refine lv_aload_n hx hb d_D_digest_21 rfl (lv_at hl 2 rfl) ?_
  refine va_get (D := (dC, dI)) (ci := 2) (v := .ref r9) (C := "VotedTriple$VotedModule") (T := F_D) (N := 19) hx hb hw in_D hown hK hP 0 rfl rfl 0 (by decide) (hw _ k_71) (fun x9 h9 => u_same (hw _ k_72) x9 h9) rfl d_D_digest_22 ?_
  refine lv_iload_n hx hb d_D_digest_25 rfl (lv_at hl 0 rfl) ?_
  refine va_iald hx hb hK hP 1 0 rfl rfl (by unfold vp_in; decide) d_D_digest_26 ?_
  refine lv_bipush (v := 16) hx hb d_D_digest_27 (by decide) ?_
  refine lv_iload_n hx hb d_D_digest_29 rfl (lv_at hl 0 rfl) ?_
  refine lv_isub hx hb d_D_digest_30 ?_
  refine lv_iushr (v := ush (rg (Int32.toNatClampNeg (0 : Int32))) ((16 : Int32) - (0 : Int32))) hx hb d_D_digest_31 rfl ?_
  refine lv_ior hx hb d_D_digest_32 ?_
  refine lv_istore_n hx hb d_D_digest_33 rfl hl (by decide) rfl (fun ls hl => ?_)
  replace hl : lv_has ls 4 [(3, .int (((rg (Int32.toNatClampNeg (0 : Int32))) <<< ((0 : Int32) &&& 31)) ||| (ush (rg (Int32.toNatClampNeg (0 : Int32))) ((16 : Int32) - (0 : Int32))))), (2, .int 0), (1, .int (F 1)), (0, .ref h0)] := hl
  refine lv_iload_n hx hb d_D_digest_34 rfl (lv_at hl 2 rfl) ?_
  refine lv_iload_n hx hb d_D_digest_35 rfl (lv_at hl 0 rfl) ?_
  refine lv_ldc (v := 65535) hx hb hown (hw _ k_643) d_D_digest_36 ?_
  refine lv_iand hx hb d_D_digest_38 ?_
  refine lv_ixor hx hb d_D_digest_39 ?_
  refine lv_istore_n hx hb d_D_digest_40 rfl hl (by decide) rfl (fun ls hl => ?_)
  replace hl : lv_has ls 4 [(1, .int ((F 1) ^^^ ((((rg (Int32.toNatClampNeg (0 : Int32))) <<< ((0 : Int32) &&& 31)) ||| (ush (rg (Int32.toNatClampNeg (0 : Int32))) ((16 : Int32) - (0 : Int32)))) &&& (65535 : Int32)))), (3, .int (((rg (Int32.toNatClampNeg (0 : Int32))) <<< ((0 : Int32) &&& 31)) ||| (ush (rg (Int32.toNatClampNeg (0 : Int32))) ((16 : Int32) - (0 : Int32))))), (2, .int 0), (0, .ref h0)] := hl
  refine lv_iinc (k := 2) (v := 1) hx hb d_D_digest_41 hl rfl rfl (by decide) rfl (fun ls hl => ?_)
  replace hl : lv_has ls 4 [(2, .int 1), (1, .int ((F 1) ^^^ ((((rg (Int32.toNatClampNeg (0 : Int32))) <<< ((0 : Int32) &&& 31)) ||| (ush (rg (Int32.toNatClampNeg (0 : Int32))) ((16 : Int32) - (0 : Int32)))) &&& (65535 : Int32)))), (3, .int (((rg (Int32.toNatClampNeg (0 : Int32))) <<< ((0 : Int32) &&& 31)) ||| (ush (rg (Int32.toNatClampNeg (0 : Int32))) ((16 : Int32) - (0 : Int32))))), (0, .ref h0)] := hl
  refine lv_goto (tgt := 7) hx hb d_D_digest_44 rfl ?_
  have hSq : SP = s_D_digest_cut1 rg ((F 1) ^^^ ((((rg (Int32.toNatClampNeg (0 : Int32))) <<< ((0 : Int32) &&& 31)) ||| (ush (rg (Int32.toNatClampNeg (0 : Int32))) ((16 : Int32) - (0 : Int32)))) &&& (65535 : Int32))) := by rw [← hSP, s_D_digest]; all_goals rfl
  replace hl := lv_sub hl (l' := [(0, .ref h0), (1, .int ((F 1) ^^^ ((((rg (Int32.toNatClampNeg (0 : Int32))) <<< ((0 : Int32) &&& 31)) ||| (ush (rg (Int32.toNatClampNeg (0 : Int32))) ((16 : Int32) - (0 : Int32)))) &&& (65535 : Int32)))), (2, .int 1)]) [3, 1, 0] rfl
  exact cut1 ((F 1) ^^^ ((((rg (Int32.toNatClampNeg (0 : Int32))) <<< ((0 : Int32) &&& 31)) ||| (ush (rg (Int32.toNatClampNeg (0 : Int32))) ((16 : Int32) - (0 : Int32)))) &&& (65535 : Int32))) _ hSq hl

set_option maxHeartbeats 4000000 in
set_option maxRecDepth 100000 in
theorem c_D_forgetLastStep (l : Launch) (dC : Nat → ClassId) (dI : Nat → Nat → Nat) (h0 r9 k9 : Nat) (F : Nat → Int32) (sz : Nat) : Met l y_D_forgetLastStep (tbw y_D_forgetLastStep b_D_forgetLastStep 1 none) ({ frames := 2, cells := 0, slots := 0, locals := 40 }) (va_Pc [.ref h0] (fun U => U.heap.size = sz ∧ va_P (dC, dI) classes [(h0, .inr (2, oD F r9 k9))] U.heap ∧ va_K (dC, dI) classes [] U ∧ va_D (fun _ => True) [(h0, .inr (2, oD F r9 k9))])) (va_Qv (fun (u9 : Unit) => match u9 with | _ => True) (fun (u9 : Unit) t => match u9 with | _ => va_P (dC, dI) classes [(h0, .inr (2, oD (flF F) r9 k9))] t.heap ∧ va_K (dC, dI) classes [] t ∧ va_D (va_A [(h0, .inr (2, oD F r9 k9))] sz) [(h0, .inr (2, oD (flF F) r9 k9))]) (va_A [(h0, .inr (2, oD F r9 k9))] sz)) 0 0 (va_A [(h0, .inr (2, oD F r9 k9))] sz) := by
  refine Met.ofW (cc := b_D_forgetLastStep) (maxL := 1) (ret := none) (by decide) rfl ?_
  intro p e s m args below meth c s₁ B hml hv
  obtain ⟨rfl, hsz, hP, hK, hD0⟩ := hv
  have hx := B.exec
  have hb := B.bytes
  have hr := B.returns
  have hts := atoms_spec (ws := (tbw y_D_forgetLastStep b_D_forgetLastStep 1 none)) B.pre
  have hw : ∀ z9 ∈ tb, z9.before ([.ref h0] : List Value).toArray s = true := fun z9 h => hts z9 (List.mem_cons_of_mem _ h)
  have hown : s.vm.findClass "VotedTriple$VotedModule" = some m.cls := findClass_of_methodNamed B.named
  have hlocks := B.notSynchronized
  subst hsz
  replace hD := hD0.self (sz := s.heap.size)
  generalize hAe : va_A [(h0, .inr (2, oD F r9 k9))] s.heap.size = A at hD ⊢
  have hA : ∀ q : Nat, s.heap.size ≤ q → A q := fun q h => by rw [← hAe]; exact Or.inr h
  have hS : va_S A s.heap s.heap [] := va_S.rf
  replace hl := lv_entry ([.ref h0]) (n := 1) (Nat.le_of_ble_eq_true rfl)
  rw [lg_entry_eq]
  generalize (lg_sl ([.ref h0]) ++ List.replicate (1 - (lg_sl ([.ref h0])).length) Slot.unset).toArray = ls at hl ⊢
  replace hl : lv_has ls 1 [(0, .ref h0)] := hl
  refine lv_aload_n hx hb d_D_forgetLastStep_0 rfl (lv_at hl 0 rfl) ?_
  replace hPc := hP.sub (ws' := [(h0, .inr (2, oD F r9 k9))]) [0] rfl
  replace hKc := hK.sub (tys' := []) [] rfl
  replace hDc := hD.sub (ws' := [(h0, .inr (2, oD F r9 k9))]) [0] (by decide) rfl
  replace hFc := va_free (wc := [(h0, .inr (2, oD F r9 k9))]) hD hS hA [0] rfl
  refine va_callv (va_runU (C := "VotedTriple$VotedModule") (As := []) (rest := []) ⟨hx, hb, hml, hown, hw⟩ (c_C_clearEffects_D l dC dI h0 r9 k9 F s.heap.size) (va_cwU (C := "VotedTriple$VotedModule") (owner := "VotedTriple$Processor") (x := ⟨"VotedTriple$VotedModule", "clearEffects", "()V"⟩) (y := y_C_clearEffects) 0 hw (gd_l (List.forall_mem_cons.mpr ⟨k_295, List.forall_mem_cons.mpr ⟨k_296, List.forall_mem_cons.mpr ⟨k_298, List.forall_mem_cons.mpr ⟨k_299, List.forall_mem_cons.mpr ⟨k_3, fun _ h => absurd h List.not_mem_nil⟩⟩⟩⟩⟩) (gd (k_300))) rfl rfl rfl rfl (by decide +kernel) ⟨Nat.le_of_ble_eq_true rfl, Nat.le_of_ble_eq_true rfl⟩) ⟨fun a U g mk q => by obtain ⟨q0, q1, qP, qK, qD⟩ := q; exact ⟨q0, q1, qP, va_K.moved (u := U) (U := U.calling g mk a) (Vm.Alike.refl U.vm) qK, qD⟩, va_recv hK hP rfl (q0 := 0) rfl, fun U hU hW => ⟨rfl, by rw [hU], by rw [hU]; exact hPc, va_K.moved hW.alike hKc, hDc.weaken (fun _ _ _ _ => trivial)⟩⟩ rfl rfl hl.1 rfl (lv_room (Nat.le_of_ble_eq_true rfl)) d_D_forgetLastStep_1 ⟨Nat.le_of_ble_eq_true rfl, Nat.le_of_ble_eq_true rfl⟩) hS (fun q _ h => hFc q h) hFc (fun u9 t H1 locs ht hvm hr2 hB hz1 hk1 hS => ?_)
  obtain ⟨hP1, hK1, hD1⟩ := hB
  rw [ht] at hP1
  replace hK1 := va_K.moved hvm.symm hK1
  try dsimp only at hr2 hP1 hK1 hD1
  obtain ⟨hPz, hDz⟩ := va_join (wr := []) (w1 := [(h0, .inr (2, oD (clE F) r9 k9))]) hP hD [0] [] rfl rfl (by decide) (by decide) hk1 hFc hP1 hD1
  clear hP hD hPc hDc hP1 hD1 hFc
  have hP := hPz
  have hD := hDz
  clear hPz hDz
  replace hK := (hK.sub (tys' := []) [] rfl).app hK1
  clear hK1 hKc
  generalize H1 = H at hP hS ⊢
  replace hP : va_P (dC, dI) classes [(h0, .inr (2, oD (clE F) r9 k9))] H := hP
  replace hD : va_D A [(h0, .inr (2, oD (clE F) r9 k9))] := hD
  replace hK : va_K (dC, dI) classes [] s := hK
  refine W.widen (k := 0) (n := 0) (Nat.le_of_ble_eq_true rfl) (Nat.le_of_ble_eq_true rfl) ?_
  refine lv_aload_n hx hb d_D_forgetLastStep_4 rfl (lv_at hl 0 rfl) ?_
  refine lv_iconst (v := 0) hx hb d_D_forgetLastStep_5 (by decide) ?_
  refine va_put (D := (dC, dI)) (ci := 2) (v := .int 0) (ty := .boolean) (C := "VotedTriple$VotedModule") (T := F_D) (N := 19) hx hb hw in_D ft_D tyok_D nm_D hown hK hP hD hS 0 rfl rfl 15 (by decide) (hw _ k_156) (fun _ h9 => h9) rfl (by decide +kernel) rfl rfl (Nat.le_of_ble_eq_true rfl) d_D_forgetLastStep_6 (fun H locs hP hD hS => ?_)
  replace hP : va_P (dC, dI) classes [(h0, .inr (2, [.ref r9, .int (clE F 1), .int (clE F 2), .int (clE F 3), .int (clE F 4), .int (clE F 5), .int (clE F 6), .ref k9, .int (clE F 8), .int (clE F 9), .int (clE F 10), .int (clE F 11), .int (clE F 12), .int (clE F 13), .int (clE F 14), .int 0, .int (clE F 16), .int (clE F 17), .int (clE F 18)]))] H := hP
  replace hD : va_D A [(h0, .inr (2, [.ref r9, .int (clE F 1), .int (clE F 2), .int (clE F 3), .int (clE F 4), .int (clE F 5), .int (clE F 6), .ref k9, .int (clE F 8), .int (clE F 9), .int (clE F 10), .int (clE F 11), .int (clE F 12), .int (clE F 13), .int (clE F 14), .int 0, .int (clE F 16), .int (clE F 17), .int (clE F 18)]))] := hD
  refine lv_aload_n hx hb d_D_forgetLastStep_9 rfl (lv_at hl 0 rfl) ?_
  refine lv_iconst (v := 0) hx hb d_D_forgetLastStep_10 (by decide) ?_
  refine va_put (D := (dC, dI)) (ci := 2) (v := .int 0) (ty := .boolean) (C := "VotedTriple$VotedModule") (T := F_D) (N := 19) hx hb hw in_D ft_D tyok_D nm_D hown hK hP hD hS 0 rfl rfl 16 (by decide) (hw _ k_158) (fun _ h9 => h9) rfl (by decide +kernel) rfl rfl (Nat.le_of_ble_eq_true rfl) d_D_forgetLastStep_11 (fun H locs hP hD hS => ?_)
  replace hP : va_P (dC, dI) classes [(h0, .inr (2, [.ref r9, .int (clE F 1), .int (clE F 2), .int (clE F 3), .int (clE F 4), .int (clE F 5), .int (clE F 6), .ref k9, .int (clE F 8), .int (clE F 9), .int (clE F 10), .int (clE F 11), .int (clE F 12), .int (clE F 13), .int (clE F 14), .int 0, .int 0, .int (clE F 17), .int (clE F 18)]))] H := hP
  replace hD : va_D A [(h0, .inr (2, [.ref r9, .int (clE F 1), .int (clE F 2), .int (clE F 3), .int (clE F 4), .int (clE F 5), .int (clE F 6), .ref k9, .int (clE F 8), .int (clE F 9), .int (clE F 10), .int (clE F 11), .int (clE F 12), .int (clE F 13), .int (clE F 14), .int 0, .int 0, .int (clE F 17), .int (clE F 18)]))] := hD
  have hP9 := hP.sub (ws' := [(h0, .inr (2, oD (flF F) r9 k9))]) [0] rfl
  have hD9 := hD.sub (ws' := [(h0, .inr (2, oD (flF F) r9 k9))]) [0] (by decide) rfl
  have hK9 := hK.sub (tys' := []) [] rfl
  refine W.widen (k := 0) (n := 0) (Nat.le_of_ble_eq_true rfl) (Nat.le_of_ble_eq_true rfl) ?_
  exact W.vret hx hb hr (fun t ht hW => ⟨⟨(), rfl, trivial, by rw [ht]; exact hP9, va_K.moved hW.alike hK9, hD9⟩, hS.F ht⟩) hS.2.2 d_D_forgetLastStep_14

set_option maxHeartbeats 4000000 in
set_option maxRecDepth 100000 in
theorem c_D_blameLater (l : Launch) (dC : Nat → ClassId) (dI : Nat → Nat → Nat) (h0 r9 k9 : Nat) (F : Nat → Int32) (hm : modF F) (sz : Nat) : Met l y_D_blameLater (tbw y_D_blameLater b_D_blameLater 1 none) ({ frames := 0, cells := 0, slots := 0, locals := 0 }) (va_Pc [.ref h0] (fun U => U.heap.size = sz ∧ va_P (dC, dI) classes [(h0, .inr (2, oD F r9 k9))] U.heap ∧ va_K (dC, dI) classes [] U ∧ va_D (fun _ => True) [(h0, .inr (2, oD F r9 k9))])) (va_Qv (fun (u9 : (Nat → Int32)) => match u9 with | F2 => (modF F2) ∧ (F2) = s_D_blameLater F) (fun (u9 : (Nat → Int32)) t => match u9 with | F2 => va_P (dC, dI) classes [(h0, .inr (2, oD F2 r9 k9))] t.heap ∧ va_K (dC, dI) classes [] t ∧ va_D (va_A [(h0, .inr (2, oD F r9 k9))] sz) [(h0, .inr (2, oD F2 r9 k9))]) (va_A [(h0, .inr (2, oD F r9 k9))] sz)) 0 0 (va_A [(h0, .inr (2, oD F r9 k9))] sz) := by
  refine Met.ofW (cc := b_D_blameLater) (maxL := 1) (ret := none) (by decide) rfl ?_
  intro p e s m args below meth c s₁ B hml hv
  obtain ⟨rfl, hsz, hP, hK, hD0⟩ := hv
  have hx := B.exec
  have hb := B.bytes
  have hr := B.returns
  have hts := atoms_spec (ws := (tbw y_D_blameLater b_D_blameLater 1 none)) B.pre
  have hw : ∀ z9 ∈ tb, z9.before ([.ref h0] : List Value).toArray s = true := fun z9 h => hts z9 (List.mem_cons_of_mem _ h)
  have hown : s.vm.findClass "VotedTriple$VotedModule" = some m.cls := findClass_of_methodNamed B.named
  have hlocks := B.notSynchronized
  subst hsz
  replace hD := hD0.self (sz := s.heap.size)
  generalize hAe : va_A [(h0, .inr (2, oD F r9 k9))] s.heap.size = A at hD ⊢
  have hA : ∀ q : Nat, s.heap.size ≤ q → A q := fun q h => by rw [← hAe]; exact Or.inr h
  have hS : va_S A s.heap s.heap [] := va_S.rf
  replace hl := lv_entry ([.ref h0]) (n := 1) (Nat.le_of_ble_eq_true rfl)
  rw [lg_entry_eq]
  generalize (lg_sl ([.ref h0]) ++ List.replicate (1 - (lg_sl ([.ref h0])).length) Slot.unset).toArray = ls at hl ⊢
  replace hl : lv_has ls 1 [(0, .ref h0)] := hl
  generalize hSP : s_D_blameLater F = SP
  refine lv_aload_n hx hb d_D_blameLater_0 rfl (lv_at hl 0 rfl) ?_
  refine lv_iconst (v := 1) hx hb d_D_blameLater_1 (by decide) ?_
  refine va_put (D := (dC, dI)) (ci := 2) (v := .int 1) (ty := .boolean) (C := "VotedTriple$VotedModule") (T := F_D) (N := 19) hx hb hw in_D ft_D tyok_D nm_D hown hK hP hD hS 0 rfl rfl 15 (by decide) (hw _ k_156) (fun _ h9 => h9) rfl (by decide +kernel) rfl rfl (Nat.le_of_ble_eq_true rfl) d_D_blameLater_2 (fun H locs hP hD hS => ?_)
  replace hP : va_P (dC, dI) classes [(h0, .inr (2, [.ref r9, .int (F 1), .int (F 2), .int (F 3), .int (F 4), .int (F 5), .int (F 6), .ref k9, .int (F 8), .int (F 9), .int (F 10), .int (F 11), .int (F 12), .int (F 13), .int (F 14), .int 1, .int (F 16), .int (F 17), .int (F 18)]))] H := hP
  replace hD : va_D A [(h0, .inr (2, [.ref r9, .int (F 1), .int (F 2), .int (F 3), .int (F 4), .int (F 5), .int (F 6), .ref k9, .int (F 8), .int (F 9), .int (F 10), .int (F 11), .int (F 12), .int (F 13), .int (F 14), .int 1, .int (F 16), .int (F 17), .int (F 18)]))] := hD
  refine lv_aload_n hx hb d_D_blameLater_5 rfl (lv_at hl 0 rfl) ?_
  refine lv_dup hx hb d_D_blameLater_6 rfl ?_
  refine va_get (D := (dC, dI)) (ci := 2) (v := .int (F 14)) (C := "VotedTriple$VotedModule") (T := F_D) (N := 19) hx hb hw in_D hown hK hP 0 rfl rfl 14 (by decide) (hw _ k_154) (fun _ h9 => h9) rfl d_D_blameLater_7 ?_
  refine lv_iconst (v := 1) hx hb d_D_blameLater_10 (by decide) ?_
  refine lv_iadd hx hb d_D_blameLater_11 ?_
  refine va_put (D := (dC, dI)) (ci := 2) (v := .int ((F 14) + (1 : Int32))) (ty := .int) (C := "VotedTriple$VotedModule") (T := F_D) (N := 19) hx hb hw in_D ft_D tyok_D nm_D hown hK hP hD hS 0 rfl rfl 14 (by decide) (hw _ k_154) (fun _ h9 => h9) rfl (by decide +kernel) rfl rfl (Nat.le_of_ble_eq_true rfl) d_D_blameLater_12 (fun H locs hP hD hS => ?_)
  replace hP : va_P (dC, dI) classes [(h0, .inr (2, [.ref r9, .int (F 1), .int (F 2), .int (F 3), .int (F 4), .int (F 5), .int (F 6), .ref k9, .int (F 8), .int (F 9), .int (F 10), .int (F 11), .int (F 12), .int (F 13), .int ((F 14) + (1 : Int32)), .int 1, .int (F 16), .int (F 17), .int (F 18)]))] H := hP
  replace hD : va_D A [(h0, .inr (2, [.ref r9, .int (F 1), .int (F 2), .int (F 3), .int (F 4), .int (F 5), .int (F 6), .ref k9, .int (F 8), .int (F 9), .int (F 10), .int (F 11), .int (F 12), .int (F 13), .int ((F 14) + (1 : Int32)), .int 1, .int (F 16), .int (F 17), .int (F 18)]))] := hD
  have hP9 := hP.sub (ws' := [(h0, .inr (2, oD (upc (upc F 14 ((F 14) + (1 : Int32))) 15 (1 : Int32)) r9 k9))]) [0] rfl
  have hD9 := hD.sub (ws' := [(h0, .inr (2, oD (upc (upc F 14 ((F 14) + (1 : Int32))) 15 (1 : Int32)) r9 k9))]) [0] (by decide) rfl
  have hK9 := hK.sub (tys' := []) [] rfl
  refine W.widen (k := 0) (n := 0) (Nat.le_of_ble_eq_true rfl) (Nat.le_of_ble_eq_true rfl) ?_
  exact W.vret hx hb hr (fun t ht hW => ⟨⟨(upc (upc F 14 ((F 14) + (1 : Int32))) 15 (1 : Int32)), rfl, ⟨⟨hm.1, hm.2.1, hm.2.2.1, hm.2.2.2⟩, (by rw [← hSP, s_D_blameLater]; all_goals rfl)⟩, by rw [ht]; exact hP9, va_K.moved hW.alike hK9, hD9⟩, hS.F ht⟩) hS.2.2 d_D_blameLater_15

set_option maxHeartbeats 4000000 in
set_option maxRecDepth 100000 in
theorem c_D_takeBlame (l : Launch) (dC : Nat → ClassId) (dI : Nat → Nat → Nat) (h0 r9 k9 : Nat) (F : Nat → Int32) (hm : modF F) (sz : Nat) : Met l y_D_takeBlame (tbw y_D_takeBlame b_D_takeBlame 1 none) ({ frames := 0, cells := 0, slots := 0, locals := 0 }) (va_Pc [.ref h0] (fun U => U.heap.size = sz ∧ va_P (dC, dI) classes [(h0, .inr (2, oD F r9 k9))] U.heap ∧ va_K (dC, dI) classes [] U ∧ va_D (fun _ => True) [(h0, .inr (2, oD F r9 k9))])) (va_Qv (fun (u9 : (Nat → Int32)) => match u9 with | F2 => (modF F2) ∧ (F2) = s_D_takeBlame F) (fun (u9 : (Nat → Int32)) t => match u9 with | F2 => va_P (dC, dI) classes [(h0, .inr (2, oD F2 r9 k9))] t.heap ∧ va_K (dC, dI) classes [] t ∧ va_D (va_A [(h0, .inr (2, oD F r9 k9))] sz) [(h0, .inr (2, oD F2 r9 k9))]) (va_A [(h0, .inr (2, oD F r9 k9))] sz)) 0 0 (va_A [(h0, .inr (2, oD F r9 k9))] sz) := by
  refine Met.ofW (cc := b_D_takeBlame) (maxL := 1) (ret := none) (by decide) rfl ?_
  intro p e s m args below meth c s₁ B hml hv
  obtain ⟨rfl, hsz, hP, hK, hD0⟩ := hv
  have hx := B.exec
  have hb := B.bytes
  have hr := B.returns
  have hts := atoms_spec (ws := (tbw y_D_takeBlame b_D_takeBlame 1 none)) B.pre
  have hw : ∀ z9 ∈ tb, z9.before ([.ref h0] : List Value).toArray s = true := fun z9 h => hts z9 (List.mem_cons_of_mem _ h)
  have hown : s.vm.findClass "VotedTriple$VotedModule" = some m.cls := findClass_of_methodNamed B.named
  have hlocks := B.notSynchronized
  subst hsz
  replace hD := hD0.self (sz := s.heap.size)
  generalize hAe : va_A [(h0, .inr (2, oD F r9 k9))] s.heap.size = A at hD ⊢
  have hA : ∀ q : Nat, s.heap.size ≤ q → A q := fun q h => by rw [← hAe]; exact Or.inr h
  have hS : va_S A s.heap s.heap [] := va_S.rf
  replace hl := lv_entry ([.ref h0]) (n := 1) (Nat.le_of_ble_eq_true rfl)
  rw [lg_entry_eq]
  generalize (lg_sl ([.ref h0]) ++ List.replicate (1 - (lg_sl ([.ref h0])).length) Slot.unset).toArray = ls at hl ⊢
  replace hl : lv_has ls 1 [(0, .ref h0)] := hl
  generalize hSP : s_D_takeBlame F = SP
  refine lv_aload_n hx hb d_D_takeBlame_0 rfl (lv_at hl 0 rfl) ?_
  refine lv_dup hx hb d_D_takeBlame_1 rfl ?_
  refine va_get (D := (dC, dI)) (ci := 2) (v := .int (F 10)) (C := "VotedTriple$VotedModule") (T := F_D) (N := 19) hx hb hw in_D hown hK hP 0 rfl rfl 10 (by decide) (hw _ k_146) (fun _ h9 => h9) rfl d_D_takeBlame_2 ?_
  refine lv_bipush (v := 20) hx hb d_D_takeBlame_5 (by decide) ?_
  refine lv_iadd hx hb d_D_takeBlame_7 ?_
  refine va_put (D := (dC, dI)) (ci := 2) (v := .int ((F 10) + (20 : Int32))) (ty := .int) (C := "VotedTriple$VotedModule") (T := F_D) (N := 19) hx hb hw in_D ft_D tyok_D nm_D hown hK hP hD hS 0 rfl rfl 10 (by decide) (hw _ k_146) (fun _ h9 => h9) rfl (by decide +kernel) rfl rfl (Nat.le_of_ble_eq_true rfl) d_D_takeBlame_8 (fun H locs hP hD hS => ?_)
  replace hP : va_P (dC, dI) classes [(h0, .inr (2, [.ref r9, .int (F 1), .int (F 2), .int (F 3), .int (F 4), .int (F 5), .int (F 6), .ref k9, .int (F 8), .int (F 9), .int ((F 10) + (20 : Int32)), .int (F 11), .int (F 12), .int (F 13), .int (F 14), .int (F 15), .int (F 16), .int (F 17), .int (F 18)]))] H := hP
  replace hD : va_D A [(h0, .inr (2, [.ref r9, .int (F 1), .int (F 2), .int (F 3), .int (F 4), .int (F 5), .int (F 6), .ref k9, .int (F 8), .int (F 9), .int ((F 10) + (20 : Int32)), .int (F 11), .int (F 12), .int (F 13), .int (F 14), .int (F 15), .int (F 16), .int (F 17), .int (F 18)]))] := hD
  refine lv_aload_n hx hb d_D_takeBlame_11 rfl (lv_at hl 0 rfl) ?_
  refine lv_aload_n hx hb d_D_takeBlame_12 rfl (lv_at hl 0 rfl) ?_
  refine va_get (D := (dC, dI)) (ci := 2) (v := .int ((F 10) + (20 : Int32))) (C := "VotedTriple$VotedModule") (T := F_D) (N := 19) hx hb hw in_D hown hK hP 0 rfl rfl 10 (by decide) (hw _ k_146) (fun _ h9 => h9) rfl d_D_takeBlame_13 ?_
  refine lv_bipush (v := 50) hx hb d_D_takeBlame_16 (by decide) ?_
  refine lv_icmp_lt (tgt := 25) hx hb d_D_takeBlame_18 rfl (fun hc1 => ?_) (fun hc1 => ?_)
  · --  ((F 10) + (20 : Int32)) < 50
    refine lv_iconst (v := 1) hx hb d_D_takeBlame_25 (by decide) ?_
    refine va_put (D := (dC, dI)) (ci := 2) (v := .int 1) (ty := .int) (C := "VotedTriple$VotedModule") (T := F_D) (N := 19) hx hb hw in_D ft_D tyok_D nm_D hown hK hP hD hS 0 rfl rfl 8 (by decide) (hw _ k_142) (fun _ h9 => h9) rfl (by decide +kernel) rfl rfl (Nat.le_of_ble_eq_true rfl) d_D_takeBlame_26 (fun H locs hP hD hS => ?_)
    replace hP : va_P (dC, dI) classes [(h0, .inr (2, [.ref r9, .int (F 1), .int (F 2), .int (F 3), .int (F 4), .int (F 5), .int (F 6), .ref k9, .int 1, .int (F 9), .int ((F 10) + (20 : Int32)), .int (F 11), .int (F 12), .int (F 13), .int (F 14), .int (F 15), .int (F 16), .int (F 17), .int (F 18)]))] H := hP
    replace hD : va_D A [(h0, .inr (2, [.ref r9, .int (F 1), .int (F 2), .int (F 3), .int (F 4), .int (F 5), .int (F 6), .ref k9, .int 1, .int (F 9), .int ((F 10) + (20 : Int32)), .int (F 11), .int (F 12), .int (F 13), .int (F 14), .int (F 15), .int (F 16), .int (F 17), .int (F 18)]))] := hD
    refine lv_aload_n hx hb d_D_takeBlame_29 rfl (lv_at hl 0 rfl) ?_
    refine lv_iconst (v := 0) hx hb d_D_takeBlame_30 (by decide) ?_
    refine va_put (D := (dC, dI)) (ci := 2) (v := .int 0) (ty := .int) (C := "VotedTriple$VotedModule") (T := F_D) (N := 19) hx hb hw in_D ft_D tyok_D nm_D hown hK hP hD hS 0 rfl rfl 9 (by decide) (hw _ k_144) (fun _ h9 => h9) rfl (by decide +kernel) rfl rfl (Nat.le_of_ble_eq_true rfl) d_D_takeBlame_31 (fun H locs hP hD hS => ?_)
    replace hP : va_P (dC, dI) classes [(h0, .inr (2, [.ref r9, .int (F 1), .int (F 2), .int (F 3), .int (F 4), .int (F 5), .int (F 6), .ref k9, .int 1, .int 0, .int ((F 10) + (20 : Int32)), .int (F 11), .int (F 12), .int (F 13), .int (F 14), .int (F 15), .int (F 16), .int (F 17), .int (F 18)]))] H := hP
    replace hD : va_D A [(h0, .inr (2, [.ref r9, .int (F 1), .int (F 2), .int (F 3), .int (F 4), .int (F 5), .int (F 6), .ref k9, .int 1, .int 0, .int ((F 10) + (20 : Int32)), .int (F 11), .int (F 12), .int (F 13), .int (F 14), .int (F 15), .int (F 16), .int (F 17), .int (F 18)]))] := hD
    have hP9 := hP.sub (ws' := [(h0, .inr (2, oD (upc (upc (upc F 8 (1 : Int32)) 9 (0 : Int32)) 10 ((F 10) + (20 : Int32))) r9 k9))]) [0] rfl
    have hD9 := hD.sub (ws' := [(h0, .inr (2, oD (upc (upc (upc F 8 (1 : Int32)) 9 (0 : Int32)) 10 ((F 10) + (20 : Int32))) r9 k9))]) [0] (by decide) rfl
    have hK9 := hK.sub (tys' := []) [] rfl
    refine W.widen (k := 0) (n := 0) (Nat.le_of_ble_eq_true rfl) (Nat.le_of_ble_eq_true rfl) ?_
    exact W.vret hx hb hr (fun t ht hW => ⟨⟨(upc (upc (upc F 8 (1 : Int32)) 9 (0 : Int32)) 10 ((F 10) + (20 : Int32))), rfl, ⟨⟨hm.1, hm.2.1, hm.2.2.1, mkI_0⟩, (by rw [← hSP, s_D_takeBlame]; try (rw [if_pos hc1]); all_goals rfl)⟩, by rw [ht]; exact hP9, va_K.moved hW.alike hK9, hD9⟩, hS.F ht⟩) hS.2.2 d_D_takeBlame_34
  · --  ¬ ((F 10) + (20 : Int32)) < 50
    refine lv_iconst (v := 2) hx hb d_D_takeBlame_21 (by decide) ?_
    refine lv_goto (tgt := 26) hx hb d_D_takeBlame_22 rfl ?_
    refine va_put (D := (dC, dI)) (ci := 2) (v := .int 2) (ty := .int) (C := "VotedTriple$VotedModule") (T := F_D) (N := 19) hx hb hw in_D ft_D tyok_D nm_D hown hK hP hD hS 0 rfl rfl 8 (by decide) (hw _ k_142) (fun _ h9 => h9) rfl (by decide +kernel) rfl rfl (Nat.le_of_ble_eq_true rfl) d_D_takeBlame_26 (fun H locs hP hD hS => ?_)
    replace hP : va_P (dC, dI) classes [(h0, .inr (2, [.ref r9, .int (F 1), .int (F 2), .int (F 3), .int (F 4), .int (F 5), .int (F 6), .ref k9, .int 2, .int (F 9), .int ((F 10) + (20 : Int32)), .int (F 11), .int (F 12), .int (F 13), .int (F 14), .int (F 15), .int (F 16), .int (F 17), .int (F 18)]))] H := hP
    replace hD : va_D A [(h0, .inr (2, [.ref r9, .int (F 1), .int (F 2), .int (F 3), .int (F 4), .int (F 5), .int (F 6), .ref k9, .int 2, .int (F 9), .int ((F 10) + (20 : Int32)), .int (F 11), .int (F 12), .int (F 13), .int (F 14), .int (F 15), .int (F 16), .int (F 17), .int (F 18)]))] := hD
    refine lv_aload_n hx hb d_D_takeBlame_29 rfl (lv_at hl 0 rfl) ?_
    refine lv_iconst (v := 0) hx hb d_D_takeBlame_30 (by decide) ?_
    refine va_put (D := (dC, dI)) (ci := 2) (v := .int 0) (ty := .int) (C := "VotedTriple$VotedModule") (T := F_D) (N := 19) hx hb hw in_D ft_D tyok_D nm_D hown hK hP hD hS 0 rfl rfl 9 (by decide) (hw _ k_144) (fun _ h9 => h9) rfl (by decide +kernel) rfl rfl (Nat.le_of_ble_eq_true rfl) d_D_takeBlame_31 (fun H locs hP hD hS => ?_)
    replace hP : va_P (dC, dI) classes [(h0, .inr (2, [.ref r9, .int (F 1), .int (F 2), .int (F 3), .int (F 4), .int (F 5), .int (F 6), .ref k9, .int 2, .int 0, .int ((F 10) + (20 : Int32)), .int (F 11), .int (F 12), .int (F 13), .int (F 14), .int (F 15), .int (F 16), .int (F 17), .int (F 18)]))] H := hP
    replace hD : va_D A [(h0, .inr (2, [.ref r9, .int (F 1), .int (F 2), .int (F 3), .int (F 4), .int (F 5), .int (F 6), .ref k9, .int 2, .int 0, .int ((F 10) + (20 : Int32)), .int (F 11), .int (F 12), .int (F 13), .int (F 14), .int (F 15), .int (F 16), .int (F 17), .int (F 18)]))] := hD
    have hP9 := hP.sub (ws' := [(h0, .inr (2, oD (upc (upc (upc F 8 (2 : Int32)) 9 (0 : Int32)) 10 ((F 10) + (20 : Int32))) r9 k9))]) [0] rfl
    have hD9 := hD.sub (ws' := [(h0, .inr (2, oD (upc (upc (upc F 8 (2 : Int32)) 9 (0 : Int32)) 10 ((F 10) + (20 : Int32))) r9 k9))]) [0] (by decide) rfl
    have hK9 := hK.sub (tys' := []) [] rfl
    refine W.widen (k := 0) (n := 0) (Nat.le_of_ble_eq_true rfl) (Nat.le_of_ble_eq_true rfl) ?_
    exact W.vret hx hb hr (fun t ht hW => ⟨⟨(upc (upc (upc F 8 (2 : Int32)) 9 (0 : Int32)) 10 ((F 10) + (20 : Int32))), rfl, ⟨⟨hm.1, hm.2.1, hm.2.2.1, mkI_0⟩, (by rw [← hSP, s_D_takeBlame]; try (rw [if_neg hc1]); all_goals rfl)⟩, by rw [ht]; exact hP9, va_K.moved hW.alike hK9, hD9⟩, hS.F ht⟩) hS.2.2 d_D_takeBlame_34

set_option maxHeartbeats 4000000 in
set_option maxRecDepth 100000 in
theorem c_D_makeBlank (l : Launch) (dC : Nat → ClassId) (dI : Nat → Nat → Nat) (h0 r9 k9 : Nat) (F : Nat → Int32) (cr : ClassId) (rg : Nat → Int32) (ck : ClassId) (cd : Nat → Int32)  (x : Int32) (hm : modI F rg) (t9 : Nat) (sz : Nat) : Met l y_D_makeBlank (tbw y_D_makeBlank b_D_makeBlank 3 none) ({ frames := 4, cells := 0, slots := 0, locals := 87 }) (va_Pc [.ref h0, .int x] (fun U => U.heap.size = sz ∧ va_P (dC, dI) classes [(h0, .inr (2, oD F r9 k9)), (r9, .inl (cr, 8, .inl rg)), (k9, .inl (ck, 32, .inl cd))] U.heap ∧ va_K (dC, dI) classes [(cr, .int), (ck, .int)] U ∧ va_D (fun _ => True) [(h0, .inr (2, oD F r9 k9)), (r9, .inl (cr, 8, .inl rg)), (k9, .inl (ck, 32, .inl cd))] ∧ nw U ∧ cb t9 (va_A [(h0, .inr (2, oD F r9 k9)), (r9, .inl (cr, 8, .inl rg)), (k9, .inl (ck, 32, .inl cd))] sz) U U.heap)) (va_Qv (fun (u9 : (Nat → Int32) × (Nat → Int32) × (Nat → Int32)) => match u9 with | (F2, g, cd2) => (modI F2 g) ∧ (F2, g, cd2) = s_D_makeBlank F rg cd x) (fun (u9 : (Nat → Int32) × (Nat → Int32) × (Nat → Int32)) t => match u9 with | (F2, g, cd2) => va_P (dC, dI) classes [(h0, .inr (2, oD F2 r9 k9)), (r9, .inl (cr, 8, .inl g)), (k9, .inl (ck, 32, .inl cd2))] t.heap ∧ va_K (dC, dI) classes [(cr, .int), (ck, .int)] t ∧ va_D (va_A [(h0, .inr (2, oD F r9 k9)), (r9, .inl (cr, 8, .inl rg)), (k9, .inl (ck, 32, .inl cd))] sz) [(h0, .inr (2, oD F2 r9 k9)), (r9, .inl (cr, 8, .inl g)), (k9, .inl (ck, 32, .inl cd2))]) (va_A [(h0, .inr (2, oD F r9 k9)), (r9, .inl (cr, 8, .inl rg)), (k9, .inl (ck, 32, .inl cd))] sz)) 0 0 (va_A [(h0, .inr (2, oD F r9 k9)), (r9, .inl (cr, 8, .inl rg)), (k9, .inl (ck, 32, .inl cd))] sz) := by
  refine Met.ofW (cc := b_D_makeBlank) (maxL := 3) (ret := none) (by decide) rfl ?_
  intro p e s m args below meth c s₁ B hml hv
  obtain ⟨rfl, hsz, hP, hK, hD0, hnw, hcb⟩ := hv
  have hx := B.exec
  have hb := B.bytes
  have hr := B.returns
  have hts := atoms_spec (ws := (tbw y_D_makeBlank b_D_makeBlank 3 none)) B.pre
  have hw : ∀ z9 ∈ tb, z9.before ([.ref h0, .int x] : List Value).toArray s = true := fun z9 h => hts z9 (List.mem_cons_of_mem _ h)
  have hown : s.vm.findClass "VotedTriple$VotedModule" = some m.cls := findClass_of_methodNamed B.named
  have hlocks := B.notSynchronized
  subst hsz
  replace hD := hD0.self (sz := s.heap.size)
  generalize hAe : va_A [(h0, .inr (2, oD F r9 k9)), (r9, .inl (cr, 8, .inl rg)), (k9, .inl (ck, 32, .inl cd))] s.heap.size = A at hD hcb ⊢
  have hA : ∀ q : Nat, s.heap.size ≤ q → A q := fun q h => by rw [← hAe]; exact Or.inr h
  have hS : va_S A s.heap s.heap [] := va_S.rf
  replace hl := lv_entry ([.ref h0, .int x]) (n := 3) (Nat.le_of_ble_eq_true rfl)
  rw [lg_entry_eq]
  generalize (lg_sl ([.ref h0, .int x]) ++ List.replicate (3 - (lg_sl ([.ref h0, .int x])).length) Slot.unset).toArray = ls at hl ⊢
  replace hl : lv_has ls 3 [(0, .ref h0), (1, .int x)] := hl
  generalize hSP : s_D_makeBlank F rg cd x = SP
  have loop : ∀ (n9 : Nat) (i : Nat) (g : Nat → Int32) (d : Nat → Int32) (ls : Array Slot) (H : Heap) (locs : List Loc), i + n9 = 32 → wdI 8 g → SP = s_D_makeBlank_loop F x n9 i g d →  lv_has ls 3 [(0, .ref h0), (1, .int x), (2, .int (nI i))] → va_P (dC, dI) classes [(h0, .inr (2, oD (upc F 1 0) r9 k9)), (r9, .inl (cr, 8, .inl g)), (k9, .inl (ck, 32, .inl d))] H → va_D A [(h0, .inr (2, oD (upc F 1 0) r9 k9)), (r9, .inl (cr, 8, .inl g)), (k9, .inl (ck, 32, .inl d))] → va_S A s.heap H locs → W p l e (headSpec (tbw y_D_makeBlank b_D_makeBlank 3 none) ({ frames := 4, cells := 0, slots := 0, locals := 87 })).room s m ([.ref h0, .int x] : List Value).toArray below meth c H locs 0 0 (MQ below (va_Qv (fun (u9 : (Nat → Int32) × (Nat → Int32) × (Nat → Int32)) => match u9 with | (F2, g, cd2) => (modI F2 g) ∧ (F2, g, cd2) = SP) (fun (u9 : (Nat → Int32) × (Nat → Int32) × (Nat → Int32)) t => match u9 with | (F2, g, cd2) => va_P (dC, dI) classes [(h0, .inr (2, oD F2 r9 k9)), (r9, .inl (cr, 8, .inl g)), (k9, .inl (ck, 32, .inl cd2))] t.heap ∧ va_K (dC, dI) classes [(cr, .int), (ck, .int)] t ∧ va_D A [(h0, .inr (2, oD F2 r9 k9)), (r9, .inl (cr, 8, .inl g)), (k9, .inl (ck, 32, .inl cd2))]) A) ([.ref h0, .int x] : List Value).toArray s 0 0 A) (F0 m 6 ls []) := by
    intro n9
    induction n9 with
    | zero =>
      intro i g d ls H locs hn9 hg hSq0 hl hP hD hS
      refine lv_iload_n hx hb d_D_makeBlank_6 rfl (lv_at hl 2 rfl) ?_
      refine lv_bipush (v := 32) hx hb d_D_makeBlank_7 (by decide) ?_
      refine lv_icmp_ge (tgt := 24) hx hb d_D_makeBlank_9 rfl (fun hc1 => ?_) (fun hc1 => by first | exact absurd (by rw [show i = 32 by omega]; decide) hc1 | exact absurd hc1 (by rw [show i = 32 by omega]; decide))
      refine lv_aload_n hx hb d_D_makeBlank_24 rfl (lv_at hl 0 rfl) ?_
      refine lv_iload_n hx hb d_D_makeBlank_25 rfl (lv_at hl 1 rfl) ?_
      refine va_put (D := (dC, dI)) (ci := 2) (v := .int x) (ty := .int) (C := "VotedTriple$VotedModule") (T := F_D) (N := 19) hx hb hw in_D ft_D tyok_D nm_D hown hK hP hD hS 0 rfl rfl 8 (by decide) (hw _ k_142) (fun _ h9 => h9) rfl (by decide +kernel) rfl rfl (Nat.le_of_ble_eq_true rfl) d_D_makeBlank_26 (fun H locs hP hD hS => ?_)
      replace hP : va_P (dC, dI) classes [(h0, .inr (2, [.ref r9, .int (upc F 1 0 1), .int (upc F 1 0 2), .int (upc F 1 0 3), .int (upc F 1 0 4), .int (upc F 1 0 5), .int (upc F 1 0 6), .ref k9, .int x, .int (upc F 1 0 9), .int (upc F 1 0 10), .int (upc F 1 0 11), .int (upc F 1 0 12), .int (upc F 1 0 13), .int (upc F 1 0 14), .int (upc F 1 0 15), .int (upc F 1 0 16), .int (upc F 1 0 17), .int (upc F 1 0 18)])), (r9, .inl (cr, 8, .inl g)), (k9, .inl (ck, 32, .inl d))] H := hP
      replace hD : va_D A [(h0, .inr (2, [.ref r9, .int (upc F 1 0 1), .int (upc F 1 0 2), .int (upc F 1 0 3), .int (upc F 1 0 4), .int (upc F 1 0 5), .int (upc F 1 0 6), .ref k9, .int x, .int (upc F 1 0 9), .int (upc F 1 0 10), .int (upc F 1 0 11), .int (upc F 1 0 12), .int (upc F 1 0 13), .int (upc F 1 0 14), .int (upc F 1 0 15), .int (upc F 1 0 16), .int (upc F 1 0 17), .int (upc F 1 0 18)])), (r9, .inl (cr, 8, .inl g)), (k9, .inl (ck, 32, .inl d))] := hD
      refine lv_aload_n hx hb d_D_makeBlank_29 rfl (lv_at hl 0 rfl) ?_
      refine lv_iconst (v := 0) hx hb d_D_makeBlank_30 (by decide) ?_
      refine va_put (D := (dC, dI)) (ci := 2) (v := .int 0) (ty := .int) (C := "VotedTriple$VotedModule") (T := F_D) (N := 19) hx hb hw in_D ft_D tyok_D nm_D hown hK hP hD hS 0 rfl rfl 9 (by decide) (hw _ k_144) (fun _ h9 => h9) rfl (by decide +kernel) rfl rfl (Nat.le_of_ble_eq_true rfl) d_D_makeBlank_31 (fun H locs hP hD hS => ?_)
      replace hP : va_P (dC, dI) classes [(h0, .inr (2, [.ref r9, .int (upc F 1 0 1), .int (upc F 1 0 2), .int (upc F 1 0 3), .int (upc F 1 0 4), .int (upc F 1 0 5), .int (upc F 1 0 6), .ref k9, .int x, .int 0, .int (upc F 1 0 10), .int (upc F 1 0 11), .int (upc F 1 0 12), .int (upc F 1 0 13), .int (upc F 1 0 14), .int (upc F 1 0 15), .int (upc F 1 0 16), .int (upc F 1 0 17), .int (upc F 1 0 18)])), (r9, .inl (cr, 8, .inl g)), (k9, .inl (ck, 32, .inl d))] H := hP
      replace hD : va_D A [(h0, .inr (2, [.ref r9, .int (upc F 1 0 1), .int (upc F 1 0 2), .int (upc F 1 0 3), .int (upc F 1 0 4), .int (upc F 1 0 5), .int (upc F 1 0 6), .ref k9, .int x, .int 0, .int (upc F 1 0 10), .int (upc F 1 0 11), .int (upc F 1 0 12), .int (upc F 1 0 13), .int (upc F 1 0 14), .int (upc F 1 0 15), .int (upc F 1 0 16), .int (upc F 1 0 17), .int (upc F 1 0 18)])), (r9, .inl (cr, 8, .inl g)), (k9, .inl (ck, 32, .inl d))] := hD
      refine lv_aload_n hx hb d_D_makeBlank_34 rfl (lv_at hl 0 rfl) ?_
      refine lv_iconst (v := 0) hx hb d_D_makeBlank_35 (by decide) ?_
      refine va_put (D := (dC, dI)) (ci := 2) (v := .int 0) (ty := .int) (C := "VotedTriple$VotedModule") (T := F_D) (N := 19) hx hb hw in_D ft_D tyok_D nm_D hown hK hP hD hS 0 rfl rfl 10 (by decide) (hw _ k_146) (fun _ h9 => h9) rfl (by decide +kernel) rfl rfl (Nat.le_of_ble_eq_true rfl) d_D_makeBlank_36 (fun H locs hP hD hS => ?_)
      replace hP : va_P (dC, dI) classes [(h0, .inr (2, [.ref r9, .int (upc F 1 0 1), .int (upc F 1 0 2), .int (upc F 1 0 3), .int (upc F 1 0 4), .int (upc F 1 0 5), .int (upc F 1 0 6), .ref k9, .int x, .int 0, .int 0, .int (upc F 1 0 11), .int (upc F 1 0 12), .int (upc F 1 0 13), .int (upc F 1 0 14), .int (upc F 1 0 15), .int (upc F 1 0 16), .int (upc F 1 0 17), .int (upc F 1 0 18)])), (r9, .inl (cr, 8, .inl g)), (k9, .inl (ck, 32, .inl d))] H := hP
      replace hD : va_D A [(h0, .inr (2, [.ref r9, .int (upc F 1 0 1), .int (upc F 1 0 2), .int (upc F 1 0 3), .int (upc F 1 0 4), .int (upc F 1 0 5), .int (upc F 1 0 6), .ref k9, .int x, .int 0, .int 0, .int (upc F 1 0 11), .int (upc F 1 0 12), .int (upc F 1 0 13), .int (upc F 1 0 14), .int (upc F 1 0 15), .int (upc F 1 0 16), .int (upc F 1 0 17), .int (upc F 1 0 18)])), (r9, .inl (cr, 8, .inl g)), (k9, .inl (ck, 32, .inl d))] := hD
      refine lv_aload_n hx hb d_D_makeBlank_39 rfl (lv_at hl 0 rfl) ?_
      refine lv_iconst (v := 0) hx hb d_D_makeBlank_40 (by decide) ?_
      refine va_put (D := (dC, dI)) (ci := 2) (v := .int 0) (ty := .boolean) (C := "VotedTriple$VotedModule") (T := F_D) (N := 19) hx hb hw in_D ft_D tyok_D nm_D hown hK hP hD hS 0 rfl rfl 11 (by decide) (hw _ k_148) (fun _ h9 => h9) rfl (by decide +kernel) rfl rfl (Nat.le_of_ble_eq_true rfl) d_D_makeBlank_41 (fun H locs hP hD hS => ?_)
      replace hP : va_P (dC, dI) classes [(h0, .inr (2, [.ref r9, .int (upc F 1 0 1), .int (upc F 1 0 2), .int (upc F 1 0 3), .int (upc F 1 0 4), .int (upc F 1 0 5), .int (upc F 1 0 6), .ref k9, .int x, .int 0, .int 0, .int 0, .int (upc F 1 0 12), .int (upc F 1 0 13), .int (upc F 1 0 14), .int (upc F 1 0 15), .int (upc F 1 0 16), .int (upc F 1 0 17), .int (upc F 1 0 18)])), (r9, .inl (cr, 8, .inl g)), (k9, .inl (ck, 32, .inl d))] H := hP
      replace hD : va_D A [(h0, .inr (2, [.ref r9, .int (upc F 1 0 1), .int (upc F 1 0 2), .int (upc F 1 0 3), .int (upc F 1 0 4), .int (upc F 1 0 5), .int (upc F 1 0 6), .ref k9, .int x, .int 0, .int 0, .int 0, .int (upc F 1 0 12), .int (upc F 1 0 13), .int (upc F 1 0 14), .int (upc F 1 0 15), .int (upc F 1 0 16), .int (upc F 1 0 17), .int (upc F 1 0 18)])), (r9, .inl (cr, 8, .inl g)), (k9, .inl (ck, 32, .inl d))] := hD
      refine lv_aload_n hx hb d_D_makeBlank_44 rfl (lv_at hl 0 rfl) ?_
      refine lv_iconst (v := 0) hx hb d_D_makeBlank_45 (by decide) ?_
      refine va_put (D := (dC, dI)) (ci := 2) (v := .int 0) (ty := .boolean) (C := "VotedTriple$VotedModule") (T := F_D) (N := 19) hx hb hw in_D ft_D tyok_D nm_D hown hK hP hD hS 0 rfl rfl 12 (by decide) (hw _ k_150) (fun _ h9 => h9) rfl (by decide +kernel) rfl rfl (Nat.le_of_ble_eq_true rfl) d_D_makeBlank_46 (fun H locs hP hD hS => ?_)
      replace hP : va_P (dC, dI) classes [(h0, .inr (2, [.ref r9, .int (upc F 1 0 1), .int (upc F 1 0 2), .int (upc F 1 0 3), .int (upc F 1 0 4), .int (upc F 1 0 5), .int (upc F 1 0 6), .ref k9, .int x, .int 0, .int 0, .int 0, .int 0, .int (upc F 1 0 13), .int (upc F 1 0 14), .int (upc F 1 0 15), .int (upc F 1 0 16), .int (upc F 1 0 17), .int (upc F 1 0 18)])), (r9, .inl (cr, 8, .inl g)), (k9, .inl (ck, 32, .inl d))] H := hP
      replace hD : va_D A [(h0, .inr (2, [.ref r9, .int (upc F 1 0 1), .int (upc F 1 0 2), .int (upc F 1 0 3), .int (upc F 1 0 4), .int (upc F 1 0 5), .int (upc F 1 0 6), .ref k9, .int x, .int 0, .int 0, .int 0, .int 0, .int (upc F 1 0 13), .int (upc F 1 0 14), .int (upc F 1 0 15), .int (upc F 1 0 16), .int (upc F 1 0 17), .int (upc F 1 0 18)])), (r9, .inl (cr, 8, .inl g)), (k9, .inl (ck, 32, .inl d))] := hD
      refine lv_aload_n hx hb d_D_makeBlank_49 rfl (lv_at hl 0 rfl) ?_
      refine lv_iconst (v := 0) hx hb d_D_makeBlank_50 (by decide) ?_
      refine va_put (D := (dC, dI)) (ci := 2) (v := .int 0) (ty := .int) (C := "VotedTriple$VotedModule") (T := F_D) (N := 19) hx hb hw in_D ft_D tyok_D nm_D hown hK hP hD hS 0 rfl rfl 13 (by decide) (hw _ k_152) (fun _ h9 => h9) rfl (by decide +kernel) rfl rfl (Nat.le_of_ble_eq_true rfl) d_D_makeBlank_51 (fun H locs hP hD hS => ?_)
      replace hP : va_P (dC, dI) classes [(h0, .inr (2, [.ref r9, .int (upc F 1 0 1), .int (upc F 1 0 2), .int (upc F 1 0 3), .int (upc F 1 0 4), .int (upc F 1 0 5), .int (upc F 1 0 6), .ref k9, .int x, .int 0, .int 0, .int 0, .int 0, .int 0, .int (upc F 1 0 14), .int (upc F 1 0 15), .int (upc F 1 0 16), .int (upc F 1 0 17), .int (upc F 1 0 18)])), (r9, .inl (cr, 8, .inl g)), (k9, .inl (ck, 32, .inl d))] H := hP
      replace hD : va_D A [(h0, .inr (2, [.ref r9, .int (upc F 1 0 1), .int (upc F 1 0 2), .int (upc F 1 0 3), .int (upc F 1 0 4), .int (upc F 1 0 5), .int (upc F 1 0 6), .ref k9, .int x, .int 0, .int 0, .int 0, .int 0, .int 0, .int (upc F 1 0 14), .int (upc F 1 0 15), .int (upc F 1 0 16), .int (upc F 1 0 17), .int (upc F 1 0 18)])), (r9, .inl (cr, 8, .inl g)), (k9, .inl (ck, 32, .inl d))] := hD
      refine lv_aload_n hx hb d_D_makeBlank_54 rfl (lv_at hl 0 rfl) ?_
      refine lv_iconst (v := 0) hx hb d_D_makeBlank_55 (by decide) ?_
      refine va_put (D := (dC, dI)) (ci := 2) (v := .int 0) (ty := .int) (C := "VotedTriple$VotedModule") (T := F_D) (N := 19) hx hb hw in_D ft_D tyok_D nm_D hown hK hP hD hS 0 rfl rfl 14 (by decide) (hw _ k_154) (fun _ h9 => h9) rfl (by decide +kernel) rfl rfl (Nat.le_of_ble_eq_true rfl) d_D_makeBlank_56 (fun H locs hP hD hS => ?_)
      replace hP : va_P (dC, dI) classes [(h0, .inr (2, [.ref r9, .int (upc F 1 0 1), .int (upc F 1 0 2), .int (upc F 1 0 3), .int (upc F 1 0 4), .int (upc F 1 0 5), .int (upc F 1 0 6), .ref k9, .int x, .int 0, .int 0, .int 0, .int 0, .int 0, .int 0, .int (upc F 1 0 15), .int (upc F 1 0 16), .int (upc F 1 0 17), .int (upc F 1 0 18)])), (r9, .inl (cr, 8, .inl g)), (k9, .inl (ck, 32, .inl d))] H := hP
      replace hD : va_D A [(h0, .inr (2, [.ref r9, .int (upc F 1 0 1), .int (upc F 1 0 2), .int (upc F 1 0 3), .int (upc F 1 0 4), .int (upc F 1 0 5), .int (upc F 1 0 6), .ref k9, .int x, .int 0, .int 0, .int 0, .int 0, .int 0, .int 0, .int (upc F 1 0 15), .int (upc F 1 0 16), .int (upc F 1 0 17), .int (upc F 1 0 18)])), (r9, .inl (cr, 8, .inl g)), (k9, .inl (ck, 32, .inl d))] := hD
      refine lv_aload_n hx hb d_D_makeBlank_59 rfl (lv_at hl 0 rfl) ?_
      replace hP := hP.sub (ws' := [(h0, .inr (2, oD (upc (upc (upc (upc (upc (upc (upc (upc F 1 0) 8 x) 9 (0 : Int32)) 10 (0 : Int32)) 11 (0 : Int32)) 12 (0 : Int32)) 13 (0 : Int32)) 14 (0 : Int32)) r9 k9)), (r9, .inl (cr, 8, .inl g)), (k9, .inl (ck, 32, .inl d))]) [0, 1, 2] rfl
      replace hD := hD.sub (ws' := [(h0, .inr (2, oD (upc (upc (upc (upc (upc (upc (upc (upc F 1 0) 8 x) 9 (0 : Int32)) 10 (0 : Int32)) 11 (0 : Int32)) 12 (0 : Int32)) 13 (0 : Int32)) 14 (0 : Int32)) r9 k9)), (r9, .inl (cr, 8, .inl g)), (k9, .inl (ck, 32, .inl d))]) [0, 1, 2] (by decide) rfl
      replace hPc := hP.sub (ws' := [(h0, .inr (2, oD (upc (upc (upc (upc (upc (upc (upc (upc F 1 0) 8 x) 9 (0 : Int32)) 10 (0 : Int32)) 11 (0 : Int32)) 12 (0 : Int32)) 13 (0 : Int32)) 14 (0 : Int32)) r9 k9))]) [0] rfl
      replace hKc := hK.sub (tys' := []) [] rfl
      replace hDc := hD.sub (ws' := [(h0, .inr (2, oD (upc (upc (upc (upc (upc (upc (upc (upc F 1 0) 8 x) 9 (0 : Int32)) 10 (0 : Int32)) 11 (0 : Int32)) 12 (0 : Int32)) 13 (0 : Int32)) 14 (0 : Int32)) r9 k9))]) [0] (by decide) rfl
      replace hFc := va_free (wc := [(h0, .inr (2, oD (upc (upc (upc (upc (upc (upc (upc (upc F 1 0) 8 x) 9 (0 : Int32)) 10 (0 : Int32)) 11 (0 : Int32)) 12 (0 : Int32)) 13 (0 : Int32)) 14 (0 : Int32)) r9 k9))]) hD hS hA [0] rfl
      refine va_callv (va_runV (C := "VotedTriple$VotedModule") (As := []) (rest := []) ⟨hx, hb, hml, hown, hw⟩ (c_D_forgetLastStep l dC dI h0 r9 k9 (upc (upc (upc (upc (upc (upc (upc (upc F 1 0) 8 x) 9 (0 : Int32)) 10 (0 : Int32)) 11 (0 : Int32)) 12 (0 : Int32)) 13 (0 : Int32)) 14 (0 : Int32)) H.size) (cwV 0 hw (gdV (k_294) (k_291) (k_292) (k_293) (k_7)) rfl rfl rfl (by decide +kernel) ⟨Nat.le_of_ble_eq_true rfl, Nat.le_of_ble_eq_true rfl⟩) ⟨fun a U g mk q => by obtain ⟨q0, q1, qP, qK, qD⟩ := q; exact ⟨q0, q1, qP, va_K.moved (u := U) (U := U.calling g mk a) (Vm.Alike.refl U.vm) qK, qD⟩, va_recv hK hP rfl (q0 := 0) rfl, fun U hU hW => ⟨rfl, by rw [hU], by rw [hU]; exact hPc, va_K.moved hW.alike hKc, hDc.weaken (fun _ _ _ _ => trivial)⟩⟩ rfl rfl hl.1 rfl (lv_room (Nat.le_of_ble_eq_true rfl)) d_D_makeBlank_60 ⟨Nat.le_of_ble_eq_true rfl, Nat.le_of_ble_eq_true rfl⟩) hS (fun q _ h => hFc q h) hFc (fun u9 t H1 locs ht hvm hr3 hB hz1 hk1 hS => ?_)
      obtain ⟨hP1, hK1, hD1⟩ := hB
      rw [ht] at hP1
      replace hK1 := va_K.moved hvm.symm hK1
      try dsimp only at hr3 hP1 hK1 hD1
      obtain ⟨hPz, hDz⟩ := va_join (wr := [(r9, .inl (cr, 8, .inl g)), (k9, .inl (ck, 32, .inl d))]) (w1 := [(h0, .inr (2, oD (flF (upc (upc (upc (upc (upc (upc (upc (upc F 1 0) 8 x) 9 (0 : Int32)) 10 (0 : Int32)) 11 (0 : Int32)) 12 (0 : Int32)) 13 (0 : Int32)) 14 (0 : Int32))) r9 k9))]) hP hD [0] [1, 2] rfl rfl (by decide) (by decide) hk1 hFc hP1 hD1
      clear hP hD hPc hDc hP1 hD1 hFc
      have hP := hPz
      have hD := hDz
      clear hPz hDz
      replace hK := (hK.sub (tys' := [(cr, .int), (ck, .int)]) [0, 1] rfl).app hK1
      clear hK1 hKc
      generalize H1 = H at hP hS ⊢
      replace hP : va_P (dC, dI) classes [(r9, .inl (cr, 8, .inl g)), (k9, .inl (ck, 32, .inl d)), (h0, .inr (2, oD (flF (upc (upc (upc (upc (upc (upc (upc (upc F 1 0) 8 x) 9 (0 : Int32)) 10 (0 : Int32)) 11 (0 : Int32)) 12 (0 : Int32)) 13 (0 : Int32)) 14 (0 : Int32))) r9 k9))] H := hP
      replace hD : va_D A [(r9, .inl (cr, 8, .inl g)), (k9, .inl (ck, 32, .inl d)), (h0, .inr (2, oD (flF (upc (upc (upc (upc (upc (upc (upc (upc F 1 0) 8 x) 9 (0 : Int32)) 10 (0 : Int32)) 11 (0 : Int32)) 12 (0 : Int32)) 13 (0 : Int32)) 14 (0 : Int32))) r9 k9))] := hD
      replace hK : va_K (dC, dI) classes [(cr, .int), (ck, .int)] s := hK
      refine W.widen (k := 0) (n := 0) (Nat.le_of_ble_eq_true rfl) (Nat.le_of_ble_eq_true rfl) ?_
      have hP9 := hP.sub (ws' := [(h0, .inr (2, oD (flF (upc (upc (upc (upc (upc (upc (upc (upc F 1 0) 8 x) 9 (0 : Int32)) 10 (0 : Int32)) 11 (0 : Int32)) 12 (0 : Int32)) 13 (0 : Int32)) 14 (0 : Int32))) r9 k9)), (r9, .inl (cr, 8, .inl g)), (k9, .inl (ck, 32, .inl d))]) [2, 0, 1] rfl
      have hD9 := hD.sub (ws' := [(h0, .inr (2, oD (flF (upc (upc (upc (upc (upc (upc (upc (upc F 1 0) 8 x) 9 (0 : Int32)) 10 (0 : Int32)) 11 (0 : Int32)) 12 (0 : Int32)) 13 (0 : Int32)) 14 (0 : Int32))) r9 k9)), (r9, .inl (cr, 8, .inl g)), (k9, .inl (ck, 32, .inl d))]) [2, 0, 1] (by decide) rfl
      have hK9 := hK.sub (tys' := [(cr, .int), (ck, .int)]) [0, 1] rfl
      refine W.widen (k := 0) (n := 0) (Nat.le_of_ble_eq_true rfl) (Nat.le_of_ble_eq_true rfl) ?_
      exact W.vret hx hb hr (fun t ht hW => ⟨⟨(flF (upc (upc (upc (upc (upc (upc (upc (upc F 1 0) 8 x) 9 (0 : Int32)) 10 (0 : Int32)) 11 (0 : Int32)) 12 (0 : Int32)) 13 (0 : Int32)) 14 (0 : Int32)), g, d), rfl, ⟨(modI_of ⟨⟨0, by decide, rfl⟩, Or.inl rfl, Or.inl rfl, mkI_0⟩ hg), (by rw [hSq0, s_D_makeBlank_loop]; all_goals rfl)⟩, by rw [ht]; exact hP9, va_K.moved hW.alike hK9, hD9⟩, hS.F ht⟩) hS.2.2 d_D_makeBlank_63
    | succ n9 ih =>
      intro i g d ls H locs hn9 hg hSq0 hl hP hD hS
      refine lv_iload_n hx hb d_D_makeBlank_6 rfl (lv_at hl 2 rfl) ?_
      refine lv_bipush (v := 32) hx hb d_D_makeBlank_7 (by decide) ?_
      refine lv_icmp_ge (tgt := 24) hx hb d_D_makeBlank_9 rfl (fun hc4 => by first | exact absurd hc4 (lt32 (by omega)) | exact absurd (lt32 (by omega)) hc4) (fun hc4 => ?_)
      refine lv_aload_n hx hb d_D_makeBlank_12 rfl (lv_at hl 0 rfl) ?_
      refine lv_iload_n hx hb d_D_makeBlank_13 rfl (lv_at hl 2 rfl) ?_
      refine lv_iconst (v := 0) hx hb d_D_makeBlank_14 (by decide) ?_
      replace hPc := hP.sub (ws' := [(h0, .inr (2, oD (upc F 1 0) r9 k9)), (k9, .inl (ck, 32, .inl d))]) [0, 2] rfl
      replace hKc := hK.sub (tys' := [(ck, .int)]) [1] rfl
      replace hDc := hD.sub (ws' := [(h0, .inr (2, oD (upc F 1 0) r9 k9)), (k9, .inl (ck, 32, .inl d))]) [0, 2] (by decide) rfl
      replace hFc := va_free (wc := [(h0, .inr (2, oD (upc F 1 0) r9 k9)), (k9, .inl (ck, 32, .inl d))]) hD hS hA [0, 2] rfl
      refine va_callv (va_runV (C := "VotedTriple$VotedModule") (As := [.int (nI i), .int 0]) (rest := []) ⟨hx, hb, hml, hown, hw⟩ (c_D_writeWord l dC dI h0 r9 k9 (upc F 1 0) ck d (nI i) 0 (vp_in_nI (by omega) (by decide)) t9 H.size) (cwV 2 hw (gdV (k_275) (k_272) (k_273) (k_274) (k_7)) rfl rfl rfl (by decide +kernel) ⟨Nat.le_of_ble_eq_true rfl, Nat.le_of_ble_eq_true rfl⟩) ⟨fun a U g mk q => by obtain ⟨q0, q1, qP, qK, qD, qB⟩ := q; exact ⟨q0, q1, qP, va_K.moved (u := U) (U := U.calling g mk a) (Vm.Alike.refl U.vm) qK, qD, cb_vm (u := U) (U := U.calling g mk a) rfl qB⟩, va_recv hK hP rfl (q0 := 0) rfl, fun U hU hW => ⟨rfl, by rw [hU], by rw [hU]; exact hPc, va_K.moved hW.alike hKc, hDc.weaken (fun _ _ _ _ => trivial), by rw [hU]; exact cb_narrow (cb_warm hW (cb_kept hcb (fun a h1 h2 => hS.2.1 a h1 h2))) hFc⟩⟩ rfl rfl hl.1 rfl (lv_room (Nat.le_of_ble_eq_true rfl)) d_D_makeBlank_15 ⟨Nat.le_of_ble_eq_true rfl, Nat.le_of_ble_eq_true rfl⟩) hS (fun q _ h => hFc q h) hFc (fun u9 t H1 locs ht hvm hr6 hB hz1 hk1 hS => ?_)
      obtain ⟨cd27, rfl⟩ : ∃ z, z = u9 := ⟨_, rfl⟩
      obtain ⟨hP1, hK1, hD1⟩ := hB
      rw [ht] at hP1
      replace hK1 := va_K.moved hvm.symm hK1
      try dsimp only at hr6 hP1 hK1 hD1
      obtain ⟨hr6, hr6E⟩ := hr6
      obtain ⟨hPz, hDz⟩ := va_join (wr := [(r9, .inl (cr, 8, .inl g))]) (w1 := [(h0, .inr (2, oD (upc F 1 0) r9 k9)), (k9, .inl (ck, 32, .inl cd27))]) hP hD [0, 2] [1] rfl rfl (by decide) (by decide) hk1 hFc hP1 hD1
      clear hP hD hPc hDc hP1 hD1 hFc
      have hP := hPz
      have hD := hDz
      clear hPz hDz
      replace hK := (hK.sub (tys' := [(cr, .int)]) [0] rfl).app hK1
      clear hK1 hKc
      generalize H1 = H at hP hS ⊢
      replace hP : va_P (dC, dI) classes [(r9, .inl (cr, 8, .inl g)), (h0, .inr (2, oD (upc F 1 0) r9 k9)), (k9, .inl (ck, 32, .inl cd27))] H := hP
      replace hD : va_D A [(r9, .inl (cr, 8, .inl g)), (h0, .inr (2, oD (upc F 1 0) r9 k9)), (k9, .inl (ck, 32, .inl cd27))] := hD
      replace hK : va_K (dC, dI) classes [(cr, .int), (ck, .int)] s := hK
      refine W.widen (k := 0) (n := 0) (Nat.le_of_ble_eq_true rfl) (Nat.le_of_ble_eq_true rfl) ?_
      refine lv_iinc (k := 2) (v := nI (i + 1)) hx hb d_D_makeBlank_18 hl rfl (nI_1 i) (by decide) rfl (fun ls hl => ?_)
      replace hl : lv_has ls 3 [(2, .int (nI (i + 1))), (0, .ref h0), (1, .int x)] := hl
      refine lv_goto (tgt := 6) hx hb d_D_makeBlank_21 rfl ?_
      have hSq : SP = s_D_makeBlank_loop F x n9 (i + 1) g cd27 := by rw [hSq0, s_D_makeBlank_loop]; try (rw [← hr6E, bnd_eq]); all_goals rfl
      replace hl := lv_sub hl (l' := [(0, .ref h0), (1, .int x), (2, .int (nI (i + 1)))]) [1, 2, 0] rfl
      replace hP := hP.sub (ws' := [(h0, .inr (2, oD (upc F 1 0) r9 k9)), (r9, .inl (cr, 8, .inl g)), (k9, .inl (ck, 32, .inl cd27))]) [1, 0, 2] rfl
      replace hD := hD.sub (ws' := [(h0, .inr (2, oD (upc F 1 0) r9 k9)), (r9, .inl (cr, 8, .inl g)), (k9, .inl (ck, 32, .inl cd27))]) [1, 0, 2] (by decide) rfl
      exact ih (i + 1) g cd27 _ _ _ (by omega) hg hSq hl hP hD hS
  refine lv_aload_n hx hb d_D_makeBlank_0 rfl (lv_at hl 0 rfl) ?_
  replace hPc := hP.sub (ws' := [(h0, .inr (2, oD F r9 k9)), (r9, .inl (cr, 8, .inl rg))]) [0, 1] rfl
  replace hKc := hK.sub (tys' := [(cr, .int)]) [0] rfl
  replace hDc := hD.sub (ws' := [(h0, .inr (2, oD F r9 k9)), (r9, .inl (cr, 8, .inl rg))]) [0, 1] (by decide) rfl
  replace hFc := va_free (wc := [(h0, .inr (2, oD F r9 k9)), (r9, .inl (cr, 8, .inl rg))]) hD hS hA [0, 1] rfl
  refine va_callv (va_runU (C := "VotedTriple$VotedModule") (As := []) (rest := []) ⟨hx, hb, hml, hown, hw⟩ (c_C_clearProcessor_D l dC dI h0 r9 k9 F cr rg hm.2.2.2.2 s.heap.size) (va_cwU (C := "VotedTriple$VotedModule") (owner := "VotedTriple$Processor") (x := ⟨"VotedTriple$VotedModule", "clearProcessor", "()V"⟩) (y := y_C_clearProcessor) 0 hw (gd_l (List.forall_mem_cons.mpr ⟨k_266, List.forall_mem_cons.mpr ⟨k_267, List.forall_mem_cons.mpr ⟨k_269, List.forall_mem_cons.mpr ⟨k_270, List.forall_mem_cons.mpr ⟨k_3, fun _ h => absurd h List.not_mem_nil⟩⟩⟩⟩⟩) (gd (k_271))) rfl rfl rfl rfl (by decide +kernel) ⟨Nat.le_of_ble_eq_true rfl, Nat.le_of_ble_eq_true rfl⟩) ⟨fun a U g mk q => by obtain ⟨q0, q1, qP, qK, qD⟩ := q; exact ⟨q0, q1, qP, va_K.moved (u := U) (U := U.calling g mk a) (Vm.Alike.refl U.vm) qK, qD⟩, va_recv hK hP rfl (q0 := 0) rfl, fun U hU hW => ⟨rfl, by rw [hU], by rw [hU]; exact hPc, va_K.moved hW.alike hKc, hDc.weaken (fun _ _ _ _ => trivial)⟩⟩ rfl rfl hl.1 rfl (lv_room (Nat.le_of_ble_eq_true rfl)) d_D_makeBlank_1 ⟨Nat.le_of_ble_eq_true rfl, Nat.le_of_ble_eq_true rfl⟩) hS (fun q _ h => hFc q h) hFc (fun u9 t H1 locs ht hvm hr9 hB hz1 hk1 hS => ?_)
  obtain ⟨g10, rfl⟩ : ∃ z, z = u9 := ⟨_, rfl⟩
  obtain ⟨hP1, hK1, hD1⟩ := hB
  rw [ht] at hP1
  replace hK1 := va_K.moved hvm.symm hK1
  try dsimp only at hr9 hP1 hK1 hD1
  obtain ⟨hr9, hr9E⟩ := hr9
  obtain ⟨hPz, hDz⟩ := va_join (wr := [(k9, .inl (ck, 32, .inl cd))]) (w1 := [(h0, .inr (2, oD (upc F 1 0) r9 k9)), (r9, .inl (cr, 8, .inl g10))]) hP hD [0, 1] [2] rfl rfl (by decide) (by decide) hk1 hFc hP1 hD1
  clear hP hD hPc hDc hP1 hD1 hFc
  have hP := hPz
  have hD := hDz
  clear hPz hDz
  replace hK := (hK.sub (tys' := [(ck, .int)]) [1] rfl).app hK1
  clear hK1 hKc
  generalize H1 = H at hP hS ⊢
  replace hP : va_P (dC, dI) classes [(k9, .inl (ck, 32, .inl cd)), (h0, .inr (2, oD (upc F 1 0) r9 k9)), (r9, .inl (cr, 8, .inl g10))] H := hP
  replace hD : va_D A [(k9, .inl (ck, 32, .inl cd)), (h0, .inr (2, oD (upc F 1 0) r9 k9)), (r9, .inl (cr, 8, .inl g10))] := hD
  replace hK : va_K (dC, dI) classes [(ck, .int), (cr, .int)] s := hK
  refine W.widen (k := 0) (n := 0) (Nat.le_of_ble_eq_true rfl) (Nat.le_of_ble_eq_true rfl) ?_
  replace hP := hP.sub (ws' := [(k9, .inl (ck, 32, .inl cd)), (h0, .inr (2, oD (upc F 1 0) r9 k9)), (r9, .inl (cr, 8, .inl g10))]) [0, 1, 2] rfl
  replace hD := hD.sub (ws' := [(k9, .inl (ck, 32, .inl cd)), (h0, .inr (2, oD (upc F 1 0) r9 k9)), (r9, .inl (cr, 8, .inl g10))]) [0, 1, 2] (by decide) rfl
  refine lv_iconst (v := 0) hx hb d_D_makeBlank_4 (by decide) ?_
  refine lv_istore_n hx hb d_D_makeBlank_5 rfl hl (by decide) rfl (fun ls hl => ?_)
  replace hl : lv_has ls 3 [(2, .int 0), (0, .ref h0), (1, .int x)] := hl
  have hSq : SP = s_D_makeBlank_loop F x 32 0 g10 cd := by rw [← hSP, s_D_makeBlank]; try (rw [← hr9E, bnd_eq]); all_goals rfl
  replace hl := lv_sub hl (l' := [(0, .ref h0), (1, .int x), (2, .int 0)]) [1, 2, 0] rfl
  replace hP := hP.sub (ws' := [(h0, .inr (2, oD (upc F 1 0) r9 k9)), (r9, .inl (cr, 8, .inl g10)), (k9, .inl (ck, 32, .inl cd))]) [1, 2, 0] rfl
  replace hD := hD.sub (ws' := [(h0, .inr (2, oD (upc F 1 0) r9 k9)), (r9, .inl (cr, 8, .inl g10)), (k9, .inl (ck, 32, .inl cd))]) [1, 2, 0] (by decide) rfl
  exact loop 32 0 g10 cd _ _ _ (by omega) hr9 hSq hl hP hD hS
