set_option maxHeartbeats 4000000 in
set_option maxRecDepth 100000 in
theorem c_P_opOf (l : Launch) (dC : Nat → ClassId) (dI : Nat → Nat → Nat) (w : Int32) : Met l y_P_opOf (tbw y_P_opOf b_P_opOf 1 (some .int)) ({ frames := 0, cells := 0, slots := 0, locals := 0 }) (va_Pc [.int w] (fun _ => True)) (vp_Si (fun r => r = ush w 24)) 0 0 (fun _ => False) := by
  refine Met.ofW (cc := b_P_opOf) (maxL := 1) (ret := (some .int)) (by decide) rfl ?_
  intro p e s m args below meth c s₁ B hml hv
  obtain ⟨rfl, -⟩ := hv
  have hx := B.exec
  have hb := B.bytes
  have hr := B.returns
  have hts := atoms_spec (ws := (tbw y_P_opOf b_P_opOf 1 (some .int))) B.pre
  have hw : ∀ z9 ∈ tb, z9.before ([.int w] : List Value).toArray s = true := fun z9 h => hts z9 (List.mem_cons_of_mem _ h)
  have hown : s.vm.findClass "VotedTriple$Program" = some m.cls := findClass_of_methodNamed B.named
  have hlocks := B.notSynchronized
  replace hl := lv_entry ([.int w]) (n := 1) (Nat.le_of_ble_eq_true rfl)
  rw [lg_entry_eq]
  generalize (lg_sl ([.int w]) ++ List.replicate (1 - (lg_sl ([.int w])).length) Slot.unset).toArray = ls at hl ⊢
  replace hl : lv_has ls 1 [(0, .int w)] := hl
  refine lv_iload_n hx hb d_P_opOf_0 rfl (lv_at hl 0 rfl) ?_
  refine lv_bipush (v := 24) hx hb d_P_opOf_1 (by decide) ?_
  refine lv_iushr (v := ush w 24) hx hb d_P_opOf_3 rfl ?_
  exact W.iret (v := (ush w 24)) hx hb hr (fun t ht _ => ⟨_, rfl, rfl, ht⟩) (fun _ h => by cases h) d_P_opOf_4

set_option maxHeartbeats 4000000 in
set_option maxRecDepth 100000 in
theorem c_P_aOf (l : Launch) (dC : Nat → ClassId) (dI : Nat → Nat → Nat) (w : Int32) : Met l y_P_aOf (tbw y_P_aOf b_P_aOf 1 (some .int)) ({ frames := 0, cells := 0, slots := 0, locals := 0 }) (va_Pc [.int w] (fun _ => True)) (vp_Si (fun r => r = wA w)) 0 0 (fun _ => False) := by
  refine Met.ofW (cc := b_P_aOf) (maxL := 1) (ret := (some .int)) (by decide) rfl ?_
  intro p e s m args below meth c s₁ B hml hv
  obtain ⟨rfl, -⟩ := hv
  have hx := B.exec
  have hb := B.bytes
  have hr := B.returns
  have hts := atoms_spec (ws := (tbw y_P_aOf b_P_aOf 1 (some .int))) B.pre
  have hw : ∀ z9 ∈ tb, z9.before ([.int w] : List Value).toArray s = true := fun z9 h => hts z9 (List.mem_cons_of_mem _ h)
  have hown : s.vm.findClass "VotedTriple$Program" = some m.cls := findClass_of_methodNamed B.named
  have hlocks := B.notSynchronized
  replace hl := lv_entry ([.int w]) (n := 1) (Nat.le_of_ble_eq_true rfl)
  rw [lg_entry_eq]
  generalize (lg_sl ([.int w]) ++ List.replicate (1 - (lg_sl ([.int w])).length) Slot.unset).toArray = ls at hl ⊢
  replace hl : lv_has ls 1 [(0, .int w)] := hl
  refine lv_iload_n hx hb d_P_aOf_0 rfl (lv_at hl 0 rfl) ?_
  refine lv_bipush (v := 16) hx hb d_P_aOf_1 (by decide) ?_
  refine lv_iushr (v := ush w 16) hx hb d_P_aOf_3 rfl ?_
  refine lv_sipush (v := 255) hx hb d_P_aOf_4 (by decide) ?_
  refine lv_iand hx hb d_P_aOf_7 ?_
  exact W.iret (v := ((ush w 16) &&& (255 : Int32))) hx hb hr (fun t ht _ => ⟨_, rfl, rfl, ht⟩) (fun _ h => by cases h) d_P_aOf_8

set_option maxHeartbeats 4000000 in
set_option maxRecDepth 100000 in
theorem c_P_bOf (l : Launch) (dC : Nat → ClassId) (dI : Nat → Nat → Nat) (w : Int32) : Met l y_P_bOf (tbw y_P_bOf b_P_bOf 1 (some .int)) ({ frames := 0, cells := 0, slots := 0, locals := 0 }) (va_Pc [.int w] (fun _ => True)) (vp_Si (fun r => r = wB w)) 0 0 (fun _ => False) := by
  refine Met.ofW (cc := b_P_bOf) (maxL := 1) (ret := (some .int)) (by decide) rfl ?_
  intro p e s m args below meth c s₁ B hml hv
  obtain ⟨rfl, -⟩ := hv
  have hx := B.exec
  have hb := B.bytes
  have hr := B.returns
  have hts := atoms_spec (ws := (tbw y_P_bOf b_P_bOf 1 (some .int))) B.pre
  have hw : ∀ z9 ∈ tb, z9.before ([.int w] : List Value).toArray s = true := fun z9 h => hts z9 (List.mem_cons_of_mem _ h)
  have hown : s.vm.findClass "VotedTriple$Program" = some m.cls := findClass_of_methodNamed B.named
  have hlocks := B.notSynchronized
  replace hl := lv_entry ([.int w]) (n := 1) (Nat.le_of_ble_eq_true rfl)
  rw [lg_entry_eq]
  generalize (lg_sl ([.int w]) ++ List.replicate (1 - (lg_sl ([.int w])).length) Slot.unset).toArray = ls at hl ⊢
  replace hl : lv_has ls 1 [(0, .int w)] := hl
  refine lv_iload_n hx hb d_P_bOf_0 rfl (lv_at hl 0 rfl) ?_
  refine lv_bipush (v := 8) hx hb d_P_bOf_1 (by decide) ?_
  refine lv_iushr (v := ush w 8) hx hb d_P_bOf_3 rfl ?_
  refine lv_sipush (v := 255) hx hb d_P_bOf_4 (by decide) ?_
  refine lv_iand hx hb d_P_bOf_7 ?_
  exact W.iret (v := ((ush w 8) &&& (255 : Int32))) hx hb hr (fun t ht _ => ⟨_, rfl, rfl, ht⟩) (fun _ h => by cases h) d_P_bOf_8

set_option maxHeartbeats 4000000 in
set_option maxRecDepth 100000 in
theorem c_P_cOf (l : Launch) (dC : Nat → ClassId) (dI : Nat → Nat → Nat) (w : Int32) : Met l y_P_cOf (tbw y_P_cOf b_P_cOf 1 (some .int)) ({ frames := 0, cells := 0, slots := 0, locals := 0 }) (va_Pc [.int w] (fun _ => True)) (vp_Si (fun r => r = wC w)) 0 0 (fun _ => False) := by
  refine Met.ofW (cc := b_P_cOf) (maxL := 1) (ret := (some .int)) (by decide) rfl ?_
  intro p e s m args below meth c s₁ B hml hv
  obtain ⟨rfl, -⟩ := hv
  have hx := B.exec
  have hb := B.bytes
  have hr := B.returns
  have hts := atoms_spec (ws := (tbw y_P_cOf b_P_cOf 1 (some .int))) B.pre
  have hw : ∀ z9 ∈ tb, z9.before ([.int w] : List Value).toArray s = true := fun z9 h => hts z9 (List.mem_cons_of_mem _ h)
  have hown : s.vm.findClass "VotedTriple$Program" = some m.cls := findClass_of_methodNamed B.named
  have hlocks := B.notSynchronized
  replace hl := lv_entry ([.int w]) (n := 1) (Nat.le_of_ble_eq_true rfl)
  rw [lg_entry_eq]
  generalize (lg_sl ([.int w]) ++ List.replicate (1 - (lg_sl ([.int w])).length) Slot.unset).toArray = ls at hl ⊢
  replace hl : lv_has ls 1 [(0, .int w)] := hl
  refine lv_iload_n hx hb d_P_cOf_0 rfl (lv_at hl 0 rfl) ?_
  refine lv_sipush (v := 255) hx hb d_P_cOf_1 (by decide) ?_
  refine lv_iand hx hb d_P_cOf_4 ?_
  exact W.iret (v := (w &&& (255 : Int32))) hx hb hr (fun t ht _ => ⟨_, rfl, rfl, ht⟩) (fun _ h => by cases h) d_P_cOf_5

set_option maxHeartbeats 4000000 in
set_option maxRecDepth 100000 in
theorem c_P_isRegister (l : Launch) (dC : Nat → ClassId) (dI : Nat → Nat → Nat) (n : Int32) : Met l y_P_isRegister (tbw y_P_isRegister b_P_isRegister 1 (some .boolean)) ({ frames := 0, cells := 0, slots := 0, locals := 0 }) (va_Pc [.int n] (fun _ => True)) (vp_Si (fun r => r = bI (isReg n))) 0 0 (fun _ => False) := by
  refine Met.ofW (cc := b_P_isRegister) (maxL := 1) (ret := (some .boolean)) (by decide) rfl ?_
  intro p e s m args below meth c s₁ B hml hv
  obtain ⟨rfl, -⟩ := hv
  have hx := B.exec
  have hb := B.bytes
  have hr := B.returns
  have hts := atoms_spec (ws := (tbw y_P_isRegister b_P_isRegister 1 (some .boolean))) B.pre
  have hw : ∀ z9 ∈ tb, z9.before ([.int n] : List Value).toArray s = true := fun z9 h => hts z9 (List.mem_cons_of_mem _ h)
  have hown : s.vm.findClass "VotedTriple$Program" = some m.cls := findClass_of_methodNamed B.named
  have hlocks := B.notSynchronized
  replace hl := lv_entry ([.int n]) (n := 1) (Nat.le_of_ble_eq_true rfl)
  rw [lg_entry_eq]
  generalize (lg_sl ([.int n]) ++ List.replicate (1 - (lg_sl ([.int n])).length) Slot.unset).toArray = ls at hl ⊢
  replace hl : lv_has ls 1 [(0, .int n)] := hl
  refine lv_iload_n hx hb d_P_isRegister_0 rfl (lv_at hl 0 rfl) ?_
  refine lv_bipush (v := 8) hx hb d_P_isRegister_1 (by decide) ?_
  refine lv_icmp_ge (tgt := 10) hx hb d_P_isRegister_3 rfl (fun hc1 => ?_) (fun hc1 => ?_)
  · --  8 ≤ n
    refine lv_iconst (v := 0) hx hb d_P_isRegister_10 (by decide) ?_
    exact W.zret (v := 0) (ty := .boolean) hx hb hr rfl (fun t ht _ => ⟨_, rfl, (by simp [bI, isReg, hc1]), ht⟩) (fun _ h => by cases h) d_P_isRegister_11
  · --  ¬ 8 ≤ n
    refine lv_iconst (v := 1) hx hb d_P_isRegister_6 (by decide) ?_
    refine lv_goto (tgt := 11) hx hb d_P_isRegister_7 rfl ?_
    exact W.zret (v := 1) (ty := .boolean) hx hb hr rfl (fun t ht _ => ⟨_, rfl, (by simp [bI, isReg, hc1]), ht⟩) (fun _ h => by cases h) d_P_isRegister_11

set_option maxHeartbeats 4000000 in
set_option maxRecDepth 100000 in
theorem c_P_isInstruction (l : Launch) (dC : Nat → ClassId) (dI : Nat → Nat → Nat) (w : Int32) : Met l y_P_isInstruction (tbw y_P_isInstruction b_P_isInstruction 1 (some .boolean)) ({ frames := 1, cells := 0, slots := 0, locals := 20 }) (va_Pc [.int w] (fun _ => True)) (vp_Si (fun r => r = bI (isIn w))) 0 0 (fun _ => False) := by
  refine Met.ofW (cc := b_P_isInstruction) (maxL := 1) (ret := (some .boolean)) (by decide) rfl ?_
  intro p e s m args below meth c s₁ B hml hv
  obtain ⟨rfl, -⟩ := hv
  have hx := B.exec
  have hb := B.bytes
  have hr := B.returns
  have hts := atoms_spec (ws := (tbw y_P_isInstruction b_P_isInstruction 1 (some .boolean))) B.pre
  have hw : ∀ z9 ∈ tb, z9.before ([.int w] : List Value).toArray s = true := fun z9 h => hts z9 (List.mem_cons_of_mem _ h)
  have hown : s.vm.findClass "VotedTriple$Program" = some m.cls := findClass_of_methodNamed B.named
  have hlocks := B.notSynchronized
  replace hl := lv_entry ([.int w]) (n := 1) (Nat.le_of_ble_eq_true rfl)
  rw [lg_entry_eq]
  generalize (lg_sl ([.int w]) ++ List.replicate (1 - (lg_sl ([.int w])).length) Slot.unset).toArray = ls at hl ⊢
  replace hl : lv_has ls 1 [(0, .int w)] := hl
  refine lv_iload_n hx hb d_P_isInstruction_0 rfl (lv_at hl 0 rfl) ?_
  refine vp_callSi (va_runS (As := [.int w]) (rest := []) ⟨hx, hb, hml, hown, hw⟩ (c_P_opOf l dC dI w) (va_cwS 1 hw (gdS (k_241) (k_239) (k_240) (k_2)) rfl rfl rfl (by decide +kernel) ⟨Nat.le_of_ble_eq_true rfl, Nat.le_of_ble_eq_true rfl⟩) ⟨fun _ _ _ _ q => q, fun _ _ _ => ⟨rfl, trivial⟩⟩ rfl rfl hl.1 rfl (lv_room (Nat.le_of_ble_eq_true rfl)) d_P_isInstruction_1 ⟨Nat.le_of_ble_eq_true rfl, Nat.le_of_ble_eq_true rfl⟩).run (fun r1 hr2 => ?_)
  subst hr2
  rcases sw10 (ush w 24) with hs3 | hs3 | hs3 | hs3 | hs3 | hs3 | hs3 | hs3 | hs3 | hs3 | hs3 | hs3
  · refine lv_tableIn (off := 60) (tgt := 64) hx hb d_P_isInstruction_4 (by rw [hs3]; decide) (by rw [hs3]; decide) (by rw [hs3]; decide) rfl ?_
    refine lv_iload_n hx hb d_P_isInstruction_64 rfl (lv_at hl 0 rfl) ?_
    refine vp_callSi (va_runS (As := [.int w]) (rest := []) ⟨hx, hb, hml, hown, hw⟩ (c_P_aOf l dC dI w) (va_cwS 1 hw (gdS (k_244) (k_242) (k_243) (k_2)) rfl rfl rfl (by decide +kernel) ⟨Nat.le_of_ble_eq_true rfl, Nat.le_of_ble_eq_true rfl⟩) ⟨fun _ _ _ _ q => q, fun _ _ _ => ⟨rfl, trivial⟩⟩ rfl rfl hl.1 rfl (lv_room (Nat.le_of_ble_eq_true rfl)) d_P_isInstruction_65 ⟨Nat.le_of_ble_eq_true rfl, Nat.le_of_ble_eq_true rfl⟩).run (fun r4 hr5 => ?_)
    subst hr5
    refine vp_callSi (va_runS (As := [.int (wA w)]) (rest := []) ⟨hx, hb, hml, hown, hw⟩ (c_P_isRegister l dC dI (wA w)) (va_cwS 1 hw (gdS (k_247) (k_245) (k_246) (k_2)) rfl rfl rfl (by decide +kernel) ⟨Nat.le_of_ble_eq_true rfl, Nat.le_of_ble_eq_true rfl⟩) ⟨fun _ _ _ _ q => q, fun _ _ _ => ⟨rfl, trivial⟩⟩ rfl rfl hl.1 rfl (lv_room (Nat.le_of_ble_eq_true rfl)) d_P_isInstruction_68 ⟨Nat.le_of_ble_eq_true rfl, Nat.le_of_ble_eq_true rfl⟩).run (fun r6 hr7 => ?_)
    subst hr7
    exact W.zret (v := (bI (isReg (wA w)))) (ty := .boolean) hx hb hr (nz_bI _) (fun t ht _ => ⟨_, rfl, (by simp [isIn, isInA, hs3]), ht⟩) (fun _ h => by cases h) d_P_isInstruction_71
  · refine lv_tableIn (off := 68) (tgt := 72) hx hb d_P_isInstruction_4 (by rw [hs3]; decide) (by rw [hs3]; decide) (by rw [hs3]; decide) rfl ?_
    refine lv_iload_n hx hb d_P_isInstruction_72 rfl (lv_at hl 0 rfl) ?_
    refine vp_callSi (va_runS (As := [.int w]) (rest := []) ⟨hx, hb, hml, hown, hw⟩ (c_P_aOf l dC dI w) (va_cwS 1 hw (gdS (k_244) (k_242) (k_243) (k_2)) rfl rfl rfl (by decide +kernel) ⟨Nat.le_of_ble_eq_true rfl, Nat.le_of_ble_eq_true rfl⟩) ⟨fun _ _ _ _ q => q, fun _ _ _ => ⟨rfl, trivial⟩⟩ rfl rfl hl.1 rfl (lv_room (Nat.le_of_ble_eq_true rfl)) d_P_isInstruction_73 ⟨Nat.le_of_ble_eq_true rfl, Nat.le_of_ble_eq_true rfl⟩).run (fun r8 hr9 => ?_)
    subst hr9
    refine vp_callSi (va_runS (As := [.int (wA w)]) (rest := []) ⟨hx, hb, hml, hown, hw⟩ (c_P_isRegister l dC dI (wA w)) (va_cwS 1 hw (gdS (k_247) (k_245) (k_246) (k_2)) rfl rfl rfl (by decide +kernel) ⟨Nat.le_of_ble_eq_true rfl, Nat.le_of_ble_eq_true rfl⟩) ⟨fun _ _ _ _ q => q, fun _ _ _ => ⟨rfl, trivial⟩⟩ rfl rfl hl.1 rfl (lv_room (Nat.le_of_ble_eq_true rfl)) d_P_isInstruction_76 ⟨Nat.le_of_ble_eq_true rfl, Nat.le_of_ble_eq_true rfl⟩).run (fun r10 hr11 => ?_)
    subst hr11
    refine lv_if_eq (tgt := 106) hx hb d_P_isInstruction_79 rfl (fun hc12 => ?_) (fun hc12 => ?_)
    · --  (bI (isReg (wA w))) = 0
      refine lv_iconst (v := 0) hx hb d_P_isInstruction_106 (by decide) ?_
      exact W.zret (v := 0) (ty := .boolean) hx hb hr rfl (fun t ht _ => ⟨_, rfl, (by simp [isIn, isInA, hs3, bI_f hc12, bI]), ht⟩) (fun _ h => by cases h) d_P_isInstruction_107
    · --  ¬ (bI (isReg (wA w))) = 0
      refine lv_iload_n hx hb d_P_isInstruction_82 rfl (lv_at hl 0 rfl) ?_
      refine vp_callSi (va_runS (As := [.int w]) (rest := []) ⟨hx, hb, hml, hown, hw⟩ (c_P_bOf l dC dI w) (va_cwS 1 hw (gdS (k_250) (k_248) (k_249) (k_2)) rfl rfl rfl (by decide +kernel) ⟨Nat.le_of_ble_eq_true rfl, Nat.le_of_ble_eq_true rfl⟩) ⟨fun _ _ _ _ q => q, fun _ _ _ => ⟨rfl, trivial⟩⟩ rfl rfl hl.1 rfl (lv_room (Nat.le_of_ble_eq_true rfl)) d_P_isInstruction_83 ⟨Nat.le_of_ble_eq_true rfl, Nat.le_of_ble_eq_true rfl⟩).run (fun r13 hr14 => ?_)
      subst hr14
      refine vp_callSi (va_runS (As := [.int (wB w)]) (rest := []) ⟨hx, hb, hml, hown, hw⟩ (c_P_isRegister l dC dI (wB w)) (va_cwS 1 hw (gdS (k_247) (k_245) (k_246) (k_2)) rfl rfl rfl (by decide +kernel) ⟨Nat.le_of_ble_eq_true rfl, Nat.le_of_ble_eq_true rfl⟩) ⟨fun _ _ _ _ q => q, fun _ _ _ => ⟨rfl, trivial⟩⟩ rfl rfl hl.1 rfl (lv_room (Nat.le_of_ble_eq_true rfl)) d_P_isInstruction_86 ⟨Nat.le_of_ble_eq_true rfl, Nat.le_of_ble_eq_true rfl⟩).run (fun r15 hr16 => ?_)
      subst hr16
      refine lv_if_eq (tgt := 106) hx hb d_P_isInstruction_89 rfl (fun hc17 => ?_) (fun hc17 => ?_)
      · --  (bI (isReg (wB w))) = 0
        refine lv_iconst (v := 0) hx hb d_P_isInstruction_106 (by decide) ?_
        exact W.zret (v := 0) (ty := .boolean) hx hb hr rfl (fun t ht _ => ⟨_, rfl, (by simp [isIn, isInA, hs3, bI_t hc12, bI_f hc17, bI]), ht⟩) (fun _ h => by cases h) d_P_isInstruction_107
      · --  ¬ (bI (isReg (wB w))) = 0
        refine lv_iload_n hx hb d_P_isInstruction_92 rfl (lv_at hl 0 rfl) ?_
        refine vp_callSi (va_runS (As := [.int w]) (rest := []) ⟨hx, hb, hml, hown, hw⟩ (c_P_cOf l dC dI w) (va_cwS 1 hw (gdS (k_253) (k_251) (k_252) (k_2)) rfl rfl rfl (by decide +kernel) ⟨Nat.le_of_ble_eq_true rfl, Nat.le_of_ble_eq_true rfl⟩) ⟨fun _ _ _ _ q => q, fun _ _ _ => ⟨rfl, trivial⟩⟩ rfl rfl hl.1 rfl (lv_room (Nat.le_of_ble_eq_true rfl)) d_P_isInstruction_93 ⟨Nat.le_of_ble_eq_true rfl, Nat.le_of_ble_eq_true rfl⟩).run (fun r18 hr19 => ?_)
        subst hr19
        refine vp_callSi (va_runS (As := [.int (wC w)]) (rest := []) ⟨hx, hb, hml, hown, hw⟩ (c_P_isRegister l dC dI (wC w)) (va_cwS 1 hw (gdS (k_247) (k_245) (k_246) (k_2)) rfl rfl rfl (by decide +kernel) ⟨Nat.le_of_ble_eq_true rfl, Nat.le_of_ble_eq_true rfl⟩) ⟨fun _ _ _ _ q => q, fun _ _ _ => ⟨rfl, trivial⟩⟩ rfl rfl hl.1 rfl (lv_room (Nat.le_of_ble_eq_true rfl)) d_P_isInstruction_96 ⟨Nat.le_of_ble_eq_true rfl, Nat.le_of_ble_eq_true rfl⟩).run (fun r20 hr21 => ?_)
        subst hr21
        refine lv_if_eq (tgt := 106) hx hb d_P_isInstruction_99 rfl (fun hc22 => ?_) (fun hc22 => ?_)
        · --  (bI (isReg (wC w))) = 0
          refine lv_iconst (v := 0) hx hb d_P_isInstruction_106 (by decide) ?_
          exact W.zret (v := 0) (ty := .boolean) hx hb hr rfl (fun t ht _ => ⟨_, rfl, (by simp [isIn, isInA, hs3, bI_t hc12, bI_t hc17, bI_f hc22, bI]), ht⟩) (fun _ h => by cases h) d_P_isInstruction_107
        · --  ¬ (bI (isReg (wC w))) = 0
          refine lv_iconst (v := 1) hx hb d_P_isInstruction_102 (by decide) ?_
          refine lv_goto (tgt := 107) hx hb d_P_isInstruction_103 rfl ?_
          exact W.zret (v := 1) (ty := .boolean) hx hb hr rfl (fun t ht _ => ⟨_, rfl, (by simp [isIn, isInA, hs3, bI_t hc12, bI_t hc17, bI_t hc22, bI]), ht⟩) (fun _ h => by cases h) d_P_isInstruction_107
  · refine lv_tableIn (off := 68) (tgt := 72) hx hb d_P_isInstruction_4 (by rw [hs3]; decide) (by rw [hs3]; decide) (by rw [hs3]; decide) rfl ?_
    refine lv_iload_n hx hb d_P_isInstruction_72 rfl (lv_at hl 0 rfl) ?_
    refine vp_callSi (va_runS (As := [.int w]) (rest := []) ⟨hx, hb, hml, hown, hw⟩ (c_P_aOf l dC dI w) (va_cwS 1 hw (gdS (k_244) (k_242) (k_243) (k_2)) rfl rfl rfl (by decide +kernel) ⟨Nat.le_of_ble_eq_true rfl, Nat.le_of_ble_eq_true rfl⟩) ⟨fun _ _ _ _ q => q, fun _ _ _ => ⟨rfl, trivial⟩⟩ rfl rfl hl.1 rfl (lv_room (Nat.le_of_ble_eq_true rfl)) d_P_isInstruction_73 ⟨Nat.le_of_ble_eq_true rfl, Nat.le_of_ble_eq_true rfl⟩).run (fun r23 hr24 => ?_)
    subst hr24
    refine vp_callSi (va_runS (As := [.int (wA w)]) (rest := []) ⟨hx, hb, hml, hown, hw⟩ (c_P_isRegister l dC dI (wA w)) (va_cwS 1 hw (gdS (k_247) (k_245) (k_246) (k_2)) rfl rfl rfl (by decide +kernel) ⟨Nat.le_of_ble_eq_true rfl, Nat.le_of_ble_eq_true rfl⟩) ⟨fun _ _ _ _ q => q, fun _ _ _ => ⟨rfl, trivial⟩⟩ rfl rfl hl.1 rfl (lv_room (Nat.le_of_ble_eq_true rfl)) d_P_isInstruction_76 ⟨Nat.le_of_ble_eq_true rfl, Nat.le_of_ble_eq_true rfl⟩).run (fun r25 hr26 => ?_)
    subst hr26
    refine lv_if_eq (tgt := 106) hx hb d_P_isInstruction_79 rfl (fun hc27 => ?_) (fun hc27 => ?_)
    · --  (bI (isReg (wA w))) = 0
      refine lv_iconst (v := 0) hx hb d_P_isInstruction_106 (by decide) ?_
      exact W.zret (v := 0) (ty := .boolean) hx hb hr rfl (fun t ht _ => ⟨_, rfl, (by simp [isIn, isInA, hs3, bI_f hc27, bI]), ht⟩) (fun _ h => by cases h) d_P_isInstruction_107
    · --  ¬ (bI (isReg (wA w))) = 0
      refine lv_iload_n hx hb d_P_isInstruction_82 rfl (lv_at hl 0 rfl) ?_
      refine vp_callSi (va_runS (As := [.int w]) (rest := []) ⟨hx, hb, hml, hown, hw⟩ (c_P_bOf l dC dI w) (va_cwS 1 hw (gdS (k_250) (k_248) (k_249) (k_2)) rfl rfl rfl (by decide +kernel) ⟨Nat.le_of_ble_eq_true rfl, Nat.le_of_ble_eq_true rfl⟩) ⟨fun _ _ _ _ q => q, fun _ _ _ => ⟨rfl, trivial⟩⟩ rfl rfl hl.1 rfl (lv_room (Nat.le_of_ble_eq_true rfl)) d_P_isInstruction_83 ⟨Nat.le_of_ble_eq_true rfl, Nat.le_of_ble_eq_true rfl⟩).run (fun r28 hr29 => ?_)
      subst hr29
      refine vp_callSi (va_runS (As := [.int (wB w)]) (rest := []) ⟨hx, hb, hml, hown, hw⟩ (c_P_isRegister l dC dI (wB w)) (va_cwS 1 hw (gdS (k_247) (k_245) (k_246) (k_2)) rfl rfl rfl (by decide +kernel) ⟨Nat.le_of_ble_eq_true rfl, Nat.le_of_ble_eq_true rfl⟩) ⟨fun _ _ _ _ q => q, fun _ _ _ => ⟨rfl, trivial⟩⟩ rfl rfl hl.1 rfl (lv_room (Nat.le_of_ble_eq_true rfl)) d_P_isInstruction_86 ⟨Nat.le_of_ble_eq_true rfl, Nat.le_of_ble_eq_true rfl⟩).run (fun r30 hr31 => ?_)
      subst hr31
      refine lv_if_eq (tgt := 106) hx hb d_P_isInstruction_89 rfl (fun hc32 => ?_) (fun hc32 => ?_)
      · --  (bI (isReg (wB w))) = 0
        refine lv_iconst (v := 0) hx hb d_P_isInstruction_106 (by decide) ?_
        exact W.zret (v := 0) (ty := .boolean) hx hb hr rfl (fun t ht _ => ⟨_, rfl, (by simp [isIn, isInA, hs3, bI_t hc27, bI_f hc32, bI]), ht⟩) (fun _ h => by cases h) d_P_isInstruction_107
      · --  ¬ (bI (isReg (wB w))) = 0
        refine lv_iload_n hx hb d_P_isInstruction_92 rfl (lv_at hl 0 rfl) ?_
        refine vp_callSi (va_runS (As := [.int w]) (rest := []) ⟨hx, hb, hml, hown, hw⟩ (c_P_cOf l dC dI w) (va_cwS 1 hw (gdS (k_253) (k_251) (k_252) (k_2)) rfl rfl rfl (by decide +kernel) ⟨Nat.le_of_ble_eq_true rfl, Nat.le_of_ble_eq_true rfl⟩) ⟨fun _ _ _ _ q => q, fun _ _ _ => ⟨rfl, trivial⟩⟩ rfl rfl hl.1 rfl (lv_room (Nat.le_of_ble_eq_true rfl)) d_P_isInstruction_93 ⟨Nat.le_of_ble_eq_true rfl, Nat.le_of_ble_eq_true rfl⟩).run (fun r33 hr34 => ?_)
        subst hr34
        refine vp_callSi (va_runS (As := [.int (wC w)]) (rest := []) ⟨hx, hb, hml, hown, hw⟩ (c_P_isRegister l dC dI (wC w)) (va_cwS 1 hw (gdS (k_247) (k_245) (k_246) (k_2)) rfl rfl rfl (by decide +kernel) ⟨Nat.le_of_ble_eq_true rfl, Nat.le_of_ble_eq_true rfl⟩) ⟨fun _ _ _ _ q => q, fun _ _ _ => ⟨rfl, trivial⟩⟩ rfl rfl hl.1 rfl (lv_room (Nat.le_of_ble_eq_true rfl)) d_P_isInstruction_96 ⟨Nat.le_of_ble_eq_true rfl, Nat.le_of_ble_eq_true rfl⟩).run (fun r35 hr36 => ?_)
        subst hr36
        refine lv_if_eq (tgt := 106) hx hb d_P_isInstruction_99 rfl (fun hc37 => ?_) (fun hc37 => ?_)
        · --  (bI (isReg (wC w))) = 0
          refine lv_iconst (v := 0) hx hb d_P_isInstruction_106 (by decide) ?_
          exact W.zret (v := 0) (ty := .boolean) hx hb hr rfl (fun t ht _ => ⟨_, rfl, (by simp [isIn, isInA, hs3, bI_t hc27, bI_t hc32, bI_f hc37, bI]), ht⟩) (fun _ h => by cases h) d_P_isInstruction_107
        · --  ¬ (bI (isReg (wC w))) = 0
          refine lv_iconst (v := 1) hx hb d_P_isInstruction_102 (by decide) ?_
          refine lv_goto (tgt := 107) hx hb d_P_isInstruction_103 rfl ?_
          exact W.zret (v := 1) (ty := .boolean) hx hb hr rfl (fun t ht _ => ⟨_, rfl, (by simp [isIn, isInA, hs3, bI_t hc27, bI_t hc32, bI_t hc37, bI]), ht⟩) (fun _ h => by cases h) d_P_isInstruction_107
  · refine lv_tableIn (off := 68) (tgt := 72) hx hb d_P_isInstruction_4 (by rw [hs3]; decide) (by rw [hs3]; decide) (by rw [hs3]; decide) rfl ?_
    refine lv_iload_n hx hb d_P_isInstruction_72 rfl (lv_at hl 0 rfl) ?_
    refine vp_callSi (va_runS (As := [.int w]) (rest := []) ⟨hx, hb, hml, hown, hw⟩ (c_P_aOf l dC dI w) (va_cwS 1 hw (gdS (k_244) (k_242) (k_243) (k_2)) rfl rfl rfl (by decide +kernel) ⟨Nat.le_of_ble_eq_true rfl, Nat.le_of_ble_eq_true rfl⟩) ⟨fun _ _ _ _ q => q, fun _ _ _ => ⟨rfl, trivial⟩⟩ rfl rfl hl.1 rfl (lv_room (Nat.le_of_ble_eq_true rfl)) d_P_isInstruction_73 ⟨Nat.le_of_ble_eq_true rfl, Nat.le_of_ble_eq_true rfl⟩).run (fun r38 hr39 => ?_)
    subst hr39
    refine vp_callSi (va_runS (As := [.int (wA w)]) (rest := []) ⟨hx, hb, hml, hown, hw⟩ (c_P_isRegister l dC dI (wA w)) (va_cwS 1 hw (gdS (k_247) (k_245) (k_246) (k_2)) rfl rfl rfl (by decide +kernel) ⟨Nat.le_of_ble_eq_true rfl, Nat.le_of_ble_eq_true rfl⟩) ⟨fun _ _ _ _ q => q, fun _ _ _ => ⟨rfl, trivial⟩⟩ rfl rfl hl.1 rfl (lv_room (Nat.le_of_ble_eq_true rfl)) d_P_isInstruction_76 ⟨Nat.le_of_ble_eq_true rfl, Nat.le_of_ble_eq_true rfl⟩).run (fun r40 hr41 => ?_)
    subst hr41
    refine lv_if_eq (tgt := 106) hx hb d_P_isInstruction_79 rfl (fun hc42 => ?_) (fun hc42 => ?_)
    · --  (bI (isReg (wA w))) = 0
      refine lv_iconst (v := 0) hx hb d_P_isInstruction_106 (by decide) ?_
      exact W.zret (v := 0) (ty := .boolean) hx hb hr rfl (fun t ht _ => ⟨_, rfl, (by simp [isIn, isInA, hs3, bI_f hc42, bI]), ht⟩) (fun _ h => by cases h) d_P_isInstruction_107
    · --  ¬ (bI (isReg (wA w))) = 0
      refine lv_iload_n hx hb d_P_isInstruction_82 rfl (lv_at hl 0 rfl) ?_
      refine vp_callSi (va_runS (As := [.int w]) (rest := []) ⟨hx, hb, hml, hown, hw⟩ (c_P_bOf l dC dI w) (va_cwS 1 hw (gdS (k_250) (k_248) (k_249) (k_2)) rfl rfl rfl (by decide +kernel) ⟨Nat.le_of_ble_eq_true rfl, Nat.le_of_ble_eq_true rfl⟩) ⟨fun _ _ _ _ q => q, fun _ _ _ => ⟨rfl, trivial⟩⟩ rfl rfl hl.1 rfl (lv_room (Nat.le_of_ble_eq_true rfl)) d_P_isInstruction_83 ⟨Nat.le_of_ble_eq_true rfl, Nat.le_of_ble_eq_true rfl⟩).run (fun r43 hr44 => ?_)
      subst hr44
      refine vp_callSi (va_runS (As := [.int (wB w)]) (rest := []) ⟨hx, hb, hml, hown, hw⟩ (c_P_isRegister l dC dI (wB w)) (va_cwS 1 hw (gdS (k_247) (k_245) (k_246) (k_2)) rfl rfl rfl (by decide +kernel) ⟨Nat.le_of_ble_eq_true rfl, Nat.le_of_ble_eq_true rfl⟩) ⟨fun _ _ _ _ q => q, fun _ _ _ => ⟨rfl, trivial⟩⟩ rfl rfl hl.1 rfl (lv_room (Nat.le_of_ble_eq_true rfl)) d_P_isInstruction_86 ⟨Nat.le_of_ble_eq_true rfl, Nat.le_of_ble_eq_true rfl⟩).run (fun r45 hr46 => ?_)
      subst hr46
      refine lv_if_eq (tgt := 106) hx hb d_P_isInstruction_89 rfl (fun hc47 => ?_) (fun hc47 => ?_)
      · --  (bI (isReg (wB w))) = 0
        refine lv_iconst (v := 0) hx hb d_P_isInstruction_106 (by decide) ?_
        exact W.zret (v := 0) (ty := .boolean) hx hb hr rfl (fun t ht _ => ⟨_, rfl, (by simp [isIn, isInA, hs3, bI_t hc42, bI_f hc47, bI]), ht⟩) (fun _ h => by cases h) d_P_isInstruction_107
      · --  ¬ (bI (isReg (wB w))) = 0
        refine lv_iload_n hx hb d_P_isInstruction_92 rfl (lv_at hl 0 rfl) ?_
        refine vp_callSi (va_runS (As := [.int w]) (rest := []) ⟨hx, hb, hml, hown, hw⟩ (c_P_cOf l dC dI w) (va_cwS 1 hw (gdS (k_253) (k_251) (k_252) (k_2)) rfl rfl rfl (by decide +kernel) ⟨Nat.le_of_ble_eq_true rfl, Nat.le_of_ble_eq_true rfl⟩) ⟨fun _ _ _ _ q => q, fun _ _ _ => ⟨rfl, trivial⟩⟩ rfl rfl hl.1 rfl (lv_room (Nat.le_of_ble_eq_true rfl)) d_P_isInstruction_93 ⟨Nat.le_of_ble_eq_true rfl, Nat.le_of_ble_eq_true rfl⟩).run (fun r48 hr49 => ?_)
        subst hr49
        refine vp_callSi (va_runS (As := [.int (wC w)]) (rest := []) ⟨hx, hb, hml, hown, hw⟩ (c_P_isRegister l dC dI (wC w)) (va_cwS 1 hw (gdS (k_247) (k_245) (k_246) (k_2)) rfl rfl rfl (by decide +kernel) ⟨Nat.le_of_ble_eq_true rfl, Nat.le_of_ble_eq_true rfl⟩) ⟨fun _ _ _ _ q => q, fun _ _ _ => ⟨rfl, trivial⟩⟩ rfl rfl hl.1 rfl (lv_room (Nat.le_of_ble_eq_true rfl)) d_P_isInstruction_96 ⟨Nat.le_of_ble_eq_true rfl, Nat.le_of_ble_eq_true rfl⟩).run (fun r50 hr51 => ?_)
        subst hr51
        refine lv_if_eq (tgt := 106) hx hb d_P_isInstruction_99 rfl (fun hc52 => ?_) (fun hc52 => ?_)
        · --  (bI (isReg (wC w))) = 0
          refine lv_iconst (v := 0) hx hb d_P_isInstruction_106 (by decide) ?_
          exact W.zret (v := 0) (ty := .boolean) hx hb hr rfl (fun t ht _ => ⟨_, rfl, (by simp [isIn, isInA, hs3, bI_t hc42, bI_t hc47, bI_f hc52, bI]), ht⟩) (fun _ h => by cases h) d_P_isInstruction_107
        · --  ¬ (bI (isReg (wC w))) = 0
          refine lv_iconst (v := 1) hx hb d_P_isInstruction_102 (by decide) ?_
          refine lv_goto (tgt := 107) hx hb d_P_isInstruction_103 rfl ?_
          exact W.zret (v := 1) (ty := .boolean) hx hb hr rfl (fun t ht _ => ⟨_, rfl, (by simp [isIn, isInA, hs3, bI_t hc42, bI_t hc47, bI_t hc52, bI]), ht⟩) (fun _ h => by cases h) d_P_isInstruction_107
  · refine lv_tableIn (off := 68) (tgt := 72) hx hb d_P_isInstruction_4 (by rw [hs3]; decide) (by rw [hs3]; decide) (by rw [hs3]; decide) rfl ?_
    refine lv_iload_n hx hb d_P_isInstruction_72 rfl (lv_at hl 0 rfl) ?_
    refine vp_callSi (va_runS (As := [.int w]) (rest := []) ⟨hx, hb, hml, hown, hw⟩ (c_P_aOf l dC dI w) (va_cwS 1 hw (gdS (k_244) (k_242) (k_243) (k_2)) rfl rfl rfl (by decide +kernel) ⟨Nat.le_of_ble_eq_true rfl, Nat.le_of_ble_eq_true rfl⟩) ⟨fun _ _ _ _ q => q, fun _ _ _ => ⟨rfl, trivial⟩⟩ rfl rfl hl.1 rfl (lv_room (Nat.le_of_ble_eq_true rfl)) d_P_isInstruction_73 ⟨Nat.le_of_ble_eq_true rfl, Nat.le_of_ble_eq_true rfl⟩).run (fun r53 hr54 => ?_)
    subst hr54
    refine vp_callSi (va_runS (As := [.int (wA w)]) (rest := []) ⟨hx, hb, hml, hown, hw⟩ (c_P_isRegister l dC dI (wA w)) (va_cwS 1 hw (gdS (k_247) (k_245) (k_246) (k_2)) rfl rfl rfl (by decide +kernel) ⟨Nat.le_of_ble_eq_true rfl, Nat.le_of_ble_eq_true rfl⟩) ⟨fun _ _ _ _ q => q, fun _ _ _ => ⟨rfl, trivial⟩⟩ rfl rfl hl.1 rfl (lv_room (Nat.le_of_ble_eq_true rfl)) d_P_isInstruction_76 ⟨Nat.le_of_ble_eq_true rfl, Nat.le_of_ble_eq_true rfl⟩).run (fun r55 hr56 => ?_)
    subst hr56
    refine lv_if_eq (tgt := 106) hx hb d_P_isInstruction_79 rfl (fun hc57 => ?_) (fun hc57 => ?_)
    · --  (bI (isReg (wA w))) = 0
      refine lv_iconst (v := 0) hx hb d_P_isInstruction_106 (by decide) ?_
      exact W.zret (v := 0) (ty := .boolean) hx hb hr rfl (fun t ht _ => ⟨_, rfl, (by simp [isIn, isInA, hs3, bI_f hc57, bI]), ht⟩) (fun _ h => by cases h) d_P_isInstruction_107
    · --  ¬ (bI (isReg (wA w))) = 0
      refine lv_iload_n hx hb d_P_isInstruction_82 rfl (lv_at hl 0 rfl) ?_
      refine vp_callSi (va_runS (As := [.int w]) (rest := []) ⟨hx, hb, hml, hown, hw⟩ (c_P_bOf l dC dI w) (va_cwS 1 hw (gdS (k_250) (k_248) (k_249) (k_2)) rfl rfl rfl (by decide +kernel) ⟨Nat.le_of_ble_eq_true rfl, Nat.le_of_ble_eq_true rfl⟩) ⟨fun _ _ _ _ q => q, fun _ _ _ => ⟨rfl, trivial⟩⟩ rfl rfl hl.1 rfl (lv_room (Nat.le_of_ble_eq_true rfl)) d_P_isInstruction_83 ⟨Nat.le_of_ble_eq_true rfl, Nat.le_of_ble_eq_true rfl⟩).run (fun r58 hr59 => ?_)
      subst hr59
      refine vp_callSi (va_runS (As := [.int (wB w)]) (rest := []) ⟨hx, hb, hml, hown, hw⟩ (c_P_isRegister l dC dI (wB w)) (va_cwS 1 hw (gdS (k_247) (k_245) (k_246) (k_2)) rfl rfl rfl (by decide +kernel) ⟨Nat.le_of_ble_eq_true rfl, Nat.le_of_ble_eq_true rfl⟩) ⟨fun _ _ _ _ q => q, fun _ _ _ => ⟨rfl, trivial⟩⟩ rfl rfl hl.1 rfl (lv_room (Nat.le_of_ble_eq_true rfl)) d_P_isInstruction_86 ⟨Nat.le_of_ble_eq_true rfl, Nat.le_of_ble_eq_true rfl⟩).run (fun r60 hr61 => ?_)
      subst hr61
      refine lv_if_eq (tgt := 106) hx hb d_P_isInstruction_89 rfl (fun hc62 => ?_) (fun hc62 => ?_)
      · --  (bI (isReg (wB w))) = 0
        refine lv_iconst (v := 0) hx hb d_P_isInstruction_106 (by decide) ?_
        exact W.zret (v := 0) (ty := .boolean) hx hb hr rfl (fun t ht _ => ⟨_, rfl, (by simp [isIn, isInA, hs3, bI_t hc57, bI_f hc62, bI]), ht⟩) (fun _ h => by cases h) d_P_isInstruction_107
      · --  ¬ (bI (isReg (wB w))) = 0
        refine lv_iload_n hx hb d_P_isInstruction_92 rfl (lv_at hl 0 rfl) ?_
        refine vp_callSi (va_runS (As := [.int w]) (rest := []) ⟨hx, hb, hml, hown, hw⟩ (c_P_cOf l dC dI w) (va_cwS 1 hw (gdS (k_253) (k_251) (k_252) (k_2)) rfl rfl rfl (by decide +kernel) ⟨Nat.le_of_ble_eq_true rfl, Nat.le_of_ble_eq_true rfl⟩) ⟨fun _ _ _ _ q => q, fun _ _ _ => ⟨rfl, trivial⟩⟩ rfl rfl hl.1 rfl (lv_room (Nat.le_of_ble_eq_true rfl)) d_P_isInstruction_93 ⟨Nat.le_of_ble_eq_true rfl, Nat.le_of_ble_eq_true rfl⟩).run (fun r63 hr64 => ?_)
        subst hr64
        refine vp_callSi (va_runS (As := [.int (wC w)]) (rest := []) ⟨hx, hb, hml, hown, hw⟩ (c_P_isRegister l dC dI (wC w)) (va_cwS 1 hw (gdS (k_247) (k_245) (k_246) (k_2)) rfl rfl rfl (by decide +kernel) ⟨Nat.le_of_ble_eq_true rfl, Nat.le_of_ble_eq_true rfl⟩) ⟨fun _ _ _ _ q => q, fun _ _ _ => ⟨rfl, trivial⟩⟩ rfl rfl hl.1 rfl (lv_room (Nat.le_of_ble_eq_true rfl)) d_P_isInstruction_96 ⟨Nat.le_of_ble_eq_true rfl, Nat.le_of_ble_eq_true rfl⟩).run (fun r65 hr66 => ?_)
        subst hr66
        refine lv_if_eq (tgt := 106) hx hb d_P_isInstruction_99 rfl (fun hc67 => ?_) (fun hc67 => ?_)
        · --  (bI (isReg (wC w))) = 0
          refine lv_iconst (v := 0) hx hb d_P_isInstruction_106 (by decide) ?_
          exact W.zret (v := 0) (ty := .boolean) hx hb hr rfl (fun t ht _ => ⟨_, rfl, (by simp [isIn, isInA, hs3, bI_t hc57, bI_t hc62, bI_f hc67, bI]), ht⟩) (fun _ h => by cases h) d_P_isInstruction_107
        · --  ¬ (bI (isReg (wC w))) = 0
          refine lv_iconst (v := 1) hx hb d_P_isInstruction_102 (by decide) ?_
          refine lv_goto (tgt := 107) hx hb d_P_isInstruction_103 rfl ?_
          exact W.zret (v := 1) (ty := .boolean) hx hb hr rfl (fun t ht _ => ⟨_, rfl, (by simp [isIn, isInA, hs3, bI_t hc57, bI_t hc62, bI_t hc67, bI]), ht⟩) (fun _ h => by cases h) d_P_isInstruction_107
  · refine lv_tableIn (off := 104) (tgt := 108) hx hb d_P_isInstruction_4 (by rw [hs3]; decide) (by rw [hs3]; decide) (by rw [hs3]; decide) rfl ?_
    refine lv_iload_n hx hb d_P_isInstruction_108 rfl (lv_at hl 0 rfl) ?_
    refine vp_callSi (va_runS (As := [.int w]) (rest := []) ⟨hx, hb, hml, hown, hw⟩ (c_P_aOf l dC dI w) (va_cwS 1 hw (gdS (k_244) (k_242) (k_243) (k_2)) rfl rfl rfl (by decide +kernel) ⟨Nat.le_of_ble_eq_true rfl, Nat.le_of_ble_eq_true rfl⟩) ⟨fun _ _ _ _ q => q, fun _ _ _ => ⟨rfl, trivial⟩⟩ rfl rfl hl.1 rfl (lv_room (Nat.le_of_ble_eq_true rfl)) d_P_isInstruction_109 ⟨Nat.le_of_ble_eq_true rfl, Nat.le_of_ble_eq_true rfl⟩).run (fun r68 hr69 => ?_)
    subst hr69
    refine vp_callSi (va_runS (As := [.int (wA w)]) (rest := []) ⟨hx, hb, hml, hown, hw⟩ (c_P_isRegister l dC dI (wA w)) (va_cwS 1 hw (gdS (k_247) (k_245) (k_246) (k_2)) rfl rfl rfl (by decide +kernel) ⟨Nat.le_of_ble_eq_true rfl, Nat.le_of_ble_eq_true rfl⟩) ⟨fun _ _ _ _ q => q, fun _ _ _ => ⟨rfl, trivial⟩⟩ rfl rfl hl.1 rfl (lv_room (Nat.le_of_ble_eq_true rfl)) d_P_isInstruction_112 ⟨Nat.le_of_ble_eq_true rfl, Nat.le_of_ble_eq_true rfl⟩).run (fun r70 hr71 => ?_)
    subst hr71
    refine lv_if_eq (tgt := 132) hx hb d_P_isInstruction_115 rfl (fun hc72 => ?_) (fun hc72 => ?_)
    · --  (bI (isReg (wA w))) = 0
      refine lv_iconst (v := 0) hx hb d_P_isInstruction_132 (by decide) ?_
      exact W.zret (v := 0) (ty := .boolean) hx hb hr rfl (fun t ht _ => ⟨_, rfl, (by simp [isIn, isInA, hs3, bI_f hc72, bI]), ht⟩) (fun _ h => by cases h) d_P_isInstruction_133
    · --  ¬ (bI (isReg (wA w))) = 0
      refine lv_iload_n hx hb d_P_isInstruction_118 rfl (lv_at hl 0 rfl) ?_
      refine vp_callSi (va_runS (As := [.int w]) (rest := []) ⟨hx, hb, hml, hown, hw⟩ (c_P_bOf l dC dI w) (va_cwS 1 hw (gdS (k_250) (k_248) (k_249) (k_2)) rfl rfl rfl (by decide +kernel) ⟨Nat.le_of_ble_eq_true rfl, Nat.le_of_ble_eq_true rfl⟩) ⟨fun _ _ _ _ q => q, fun _ _ _ => ⟨rfl, trivial⟩⟩ rfl rfl hl.1 rfl (lv_room (Nat.le_of_ble_eq_true rfl)) d_P_isInstruction_119 ⟨Nat.le_of_ble_eq_true rfl, Nat.le_of_ble_eq_true rfl⟩).run (fun r73 hr74 => ?_)
      subst hr74
      refine vp_callSi (va_runS (As := [.int (wB w)]) (rest := []) ⟨hx, hb, hml, hown, hw⟩ (c_P_isRegister l dC dI (wB w)) (va_cwS 1 hw (gdS (k_247) (k_245) (k_246) (k_2)) rfl rfl rfl (by decide +kernel) ⟨Nat.le_of_ble_eq_true rfl, Nat.le_of_ble_eq_true rfl⟩) ⟨fun _ _ _ _ q => q, fun _ _ _ => ⟨rfl, trivial⟩⟩ rfl rfl hl.1 rfl (lv_room (Nat.le_of_ble_eq_true rfl)) d_P_isInstruction_122 ⟨Nat.le_of_ble_eq_true rfl, Nat.le_of_ble_eq_true rfl⟩).run (fun r75 hr76 => ?_)
      subst hr76
      refine lv_if_eq (tgt := 132) hx hb d_P_isInstruction_125 rfl (fun hc77 => ?_) (fun hc77 => ?_)
      · --  (bI (isReg (wB w))) = 0
        refine lv_iconst (v := 0) hx hb d_P_isInstruction_132 (by decide) ?_
        exact W.zret (v := 0) (ty := .boolean) hx hb hr rfl (fun t ht _ => ⟨_, rfl, (by simp [isIn, isInA, hs3, bI_t hc72, bI_f hc77, bI]), ht⟩) (fun _ h => by cases h) d_P_isInstruction_133
      · --  ¬ (bI (isReg (wB w))) = 0
        refine lv_iconst (v := 1) hx hb d_P_isInstruction_128 (by decide) ?_
        refine lv_goto (tgt := 133) hx hb d_P_isInstruction_129 rfl ?_
        exact W.zret (v := 1) (ty := .boolean) hx hb hr rfl (fun t ht _ => ⟨_, rfl, (by simp [isIn, isInA, hs3, bI_t hc72, bI_t hc77, bI]), ht⟩) (fun _ h => by cases h) d_P_isInstruction_133
  · refine lv_tableIn (off := 104) (tgt := 108) hx hb d_P_isInstruction_4 (by rw [hs3]; decide) (by rw [hs3]; decide) (by rw [hs3]; decide) rfl ?_
    refine lv_iload_n hx hb d_P_isInstruction_108 rfl (lv_at hl 0 rfl) ?_
    refine vp_callSi (va_runS (As := [.int w]) (rest := []) ⟨hx, hb, hml, hown, hw⟩ (c_P_aOf l dC dI w) (va_cwS 1 hw (gdS (k_244) (k_242) (k_243) (k_2)) rfl rfl rfl (by decide +kernel) ⟨Nat.le_of_ble_eq_true rfl, Nat.le_of_ble_eq_true rfl⟩) ⟨fun _ _ _ _ q => q, fun _ _ _ => ⟨rfl, trivial⟩⟩ rfl rfl hl.1 rfl (lv_room (Nat.le_of_ble_eq_true rfl)) d_P_isInstruction_109 ⟨Nat.le_of_ble_eq_true rfl, Nat.le_of_ble_eq_true rfl⟩).run (fun r78 hr79 => ?_)
    subst hr79
    refine vp_callSi (va_runS (As := [.int (wA w)]) (rest := []) ⟨hx, hb, hml, hown, hw⟩ (c_P_isRegister l dC dI (wA w)) (va_cwS 1 hw (gdS (k_247) (k_245) (k_246) (k_2)) rfl rfl rfl (by decide +kernel) ⟨Nat.le_of_ble_eq_true rfl, Nat.le_of_ble_eq_true rfl⟩) ⟨fun _ _ _ _ q => q, fun _ _ _ => ⟨rfl, trivial⟩⟩ rfl rfl hl.1 rfl (lv_room (Nat.le_of_ble_eq_true rfl)) d_P_isInstruction_112 ⟨Nat.le_of_ble_eq_true rfl, Nat.le_of_ble_eq_true rfl⟩).run (fun r80 hr81 => ?_)
    subst hr81
    refine lv_if_eq (tgt := 132) hx hb d_P_isInstruction_115 rfl (fun hc82 => ?_) (fun hc82 => ?_)
    · --  (bI (isReg (wA w))) = 0
      refine lv_iconst (v := 0) hx hb d_P_isInstruction_132 (by decide) ?_
      exact W.zret (v := 0) (ty := .boolean) hx hb hr rfl (fun t ht _ => ⟨_, rfl, (by simp [isIn, isInA, hs3, bI_f hc82, bI]), ht⟩) (fun _ h => by cases h) d_P_isInstruction_133
    · --  ¬ (bI (isReg (wA w))) = 0
      refine lv_iload_n hx hb d_P_isInstruction_118 rfl (lv_at hl 0 rfl) ?_
      refine vp_callSi (va_runS (As := [.int w]) (rest := []) ⟨hx, hb, hml, hown, hw⟩ (c_P_bOf l dC dI w) (va_cwS 1 hw (gdS (k_250) (k_248) (k_249) (k_2)) rfl rfl rfl (by decide +kernel) ⟨Nat.le_of_ble_eq_true rfl, Nat.le_of_ble_eq_true rfl⟩) ⟨fun _ _ _ _ q => q, fun _ _ _ => ⟨rfl, trivial⟩⟩ rfl rfl hl.1 rfl (lv_room (Nat.le_of_ble_eq_true rfl)) d_P_isInstruction_119 ⟨Nat.le_of_ble_eq_true rfl, Nat.le_of_ble_eq_true rfl⟩).run (fun r83 hr84 => ?_)
      subst hr84
      refine vp_callSi (va_runS (As := [.int (wB w)]) (rest := []) ⟨hx, hb, hml, hown, hw⟩ (c_P_isRegister l dC dI (wB w)) (va_cwS 1 hw (gdS (k_247) (k_245) (k_246) (k_2)) rfl rfl rfl (by decide +kernel) ⟨Nat.le_of_ble_eq_true rfl, Nat.le_of_ble_eq_true rfl⟩) ⟨fun _ _ _ _ q => q, fun _ _ _ => ⟨rfl, trivial⟩⟩ rfl rfl hl.1 rfl (lv_room (Nat.le_of_ble_eq_true rfl)) d_P_isInstruction_122 ⟨Nat.le_of_ble_eq_true rfl, Nat.le_of_ble_eq_true rfl⟩).run (fun r85 hr86 => ?_)
      subst hr86
      refine lv_if_eq (tgt := 132) hx hb d_P_isInstruction_125 rfl (fun hc87 => ?_) (fun hc87 => ?_)
      · --  (bI (isReg (wB w))) = 0
        refine lv_iconst (v := 0) hx hb d_P_isInstruction_132 (by decide) ?_
        exact W.zret (v := 0) (ty := .boolean) hx hb hr rfl (fun t ht _ => ⟨_, rfl, (by simp [isIn, isInA, hs3, bI_t hc82, bI_f hc87, bI]), ht⟩) (fun _ h => by cases h) d_P_isInstruction_133
      · --  ¬ (bI (isReg (wB w))) = 0
        refine lv_iconst (v := 1) hx hb d_P_isInstruction_128 (by decide) ?_
        refine lv_goto (tgt := 133) hx hb d_P_isInstruction_129 rfl ?_
        exact W.zret (v := 1) (ty := .boolean) hx hb hr rfl (fun t ht _ => ⟨_, rfl, (by simp [isIn, isInA, hs3, bI_t hc82, bI_t hc87, bI]), ht⟩) (fun _ h => by cases h) d_P_isInstruction_133
  · refine lv_tableIn (off := 60) (tgt := 64) hx hb d_P_isInstruction_4 (by rw [hs3]; decide) (by rw [hs3]; decide) (by rw [hs3]; decide) rfl ?_
    refine lv_iload_n hx hb d_P_isInstruction_64 rfl (lv_at hl 0 rfl) ?_
    refine vp_callSi (va_runS (As := [.int w]) (rest := []) ⟨hx, hb, hml, hown, hw⟩ (c_P_aOf l dC dI w) (va_cwS 1 hw (gdS (k_244) (k_242) (k_243) (k_2)) rfl rfl rfl (by decide +kernel) ⟨Nat.le_of_ble_eq_true rfl, Nat.le_of_ble_eq_true rfl⟩) ⟨fun _ _ _ _ q => q, fun _ _ _ => ⟨rfl, trivial⟩⟩ rfl rfl hl.1 rfl (lv_room (Nat.le_of_ble_eq_true rfl)) d_P_isInstruction_65 ⟨Nat.le_of_ble_eq_true rfl, Nat.le_of_ble_eq_true rfl⟩).run (fun r88 hr89 => ?_)
    subst hr89
    refine vp_callSi (va_runS (As := [.int (wA w)]) (rest := []) ⟨hx, hb, hml, hown, hw⟩ (c_P_isRegister l dC dI (wA w)) (va_cwS 1 hw (gdS (k_247) (k_245) (k_246) (k_2)) rfl rfl rfl (by decide +kernel) ⟨Nat.le_of_ble_eq_true rfl, Nat.le_of_ble_eq_true rfl⟩) ⟨fun _ _ _ _ q => q, fun _ _ _ => ⟨rfl, trivial⟩⟩ rfl rfl hl.1 rfl (lv_room (Nat.le_of_ble_eq_true rfl)) d_P_isInstruction_68 ⟨Nat.le_of_ble_eq_true rfl, Nat.le_of_ble_eq_true rfl⟩).run (fun r90 hr91 => ?_)
    subst hr91
    exact W.zret (v := (bI (isReg (wA w)))) (ty := .boolean) hx hb hr (nz_bI _) (fun t ht _ => ⟨_, rfl, (by simp [isIn, isInA, hs3]), ht⟩) (fun _ h => by cases h) d_P_isInstruction_71
  · refine lv_tableIn (off := 130) (tgt := 134) hx hb d_P_isInstruction_4 (by rw [hs3]; decide) (by rw [hs3]; decide) (by rw [hs3]; decide) rfl ?_
    refine lv_iconst (v := 1) hx hb d_P_isInstruction_134 (by decide) ?_
    exact W.zret (v := 1) (ty := .boolean) hx hb hr rfl (fun t ht _ => ⟨_, rfl, (by simp [isIn, isInA, hs3, bI]), ht⟩) (fun _ h => by cases h) d_P_isInstruction_135
  · refine lv_tableIn (off := 60) (tgt := 64) hx hb d_P_isInstruction_4 (by rw [hs3]; decide) (by rw [hs3]; decide) (by rw [hs3]; decide) rfl ?_
    refine lv_iload_n hx hb d_P_isInstruction_64 rfl (lv_at hl 0 rfl) ?_
    refine vp_callSi (va_runS (As := [.int w]) (rest := []) ⟨hx, hb, hml, hown, hw⟩ (c_P_aOf l dC dI w) (va_cwS 1 hw (gdS (k_244) (k_242) (k_243) (k_2)) rfl rfl rfl (by decide +kernel) ⟨Nat.le_of_ble_eq_true rfl, Nat.le_of_ble_eq_true rfl⟩) ⟨fun _ _ _ _ q => q, fun _ _ _ => ⟨rfl, trivial⟩⟩ rfl rfl hl.1 rfl (lv_room (Nat.le_of_ble_eq_true rfl)) d_P_isInstruction_65 ⟨Nat.le_of_ble_eq_true rfl, Nat.le_of_ble_eq_true rfl⟩).run (fun r92 hr93 => ?_)
    subst hr93
    refine vp_callSi (va_runS (As := [.int (wA w)]) (rest := []) ⟨hx, hb, hml, hown, hw⟩ (c_P_isRegister l dC dI (wA w)) (va_cwS 1 hw (gdS (k_247) (k_245) (k_246) (k_2)) rfl rfl rfl (by decide +kernel) ⟨Nat.le_of_ble_eq_true rfl, Nat.le_of_ble_eq_true rfl⟩) ⟨fun _ _ _ _ q => q, fun _ _ _ => ⟨rfl, trivial⟩⟩ rfl rfl hl.1 rfl (lv_room (Nat.le_of_ble_eq_true rfl)) d_P_isInstruction_68 ⟨Nat.le_of_ble_eq_true rfl, Nat.le_of_ble_eq_true rfl⟩).run (fun r94 hr95 => ?_)
    subst hr95
    exact W.zret (v := (bI (isReg (wA w)))) (ty := .boolean) hx hb hr (nz_bI _) (fun t ht _ => ⟨_, rfl, (by simp [isIn, isInA, hs3]), ht⟩) (fun _ h => by cases h) d_P_isInstruction_71
  · refine lv_tableIn (off := 60) (tgt := 64) hx hb d_P_isInstruction_4 (by rw [hs3]; decide) (by rw [hs3]; decide) (by rw [hs3]; decide) rfl ?_
    refine lv_iload_n hx hb d_P_isInstruction_64 rfl (lv_at hl 0 rfl) ?_
    refine vp_callSi (va_runS (As := [.int w]) (rest := []) ⟨hx, hb, hml, hown, hw⟩ (c_P_aOf l dC dI w) (va_cwS 1 hw (gdS (k_244) (k_242) (k_243) (k_2)) rfl rfl rfl (by decide +kernel) ⟨Nat.le_of_ble_eq_true rfl, Nat.le_of_ble_eq_true rfl⟩) ⟨fun _ _ _ _ q => q, fun _ _ _ => ⟨rfl, trivial⟩⟩ rfl rfl hl.1 rfl (lv_room (Nat.le_of_ble_eq_true rfl)) d_P_isInstruction_65 ⟨Nat.le_of_ble_eq_true rfl, Nat.le_of_ble_eq_true rfl⟩).run (fun r96 hr97 => ?_)
    subst hr97
    refine vp_callSi (va_runS (As := [.int (wA w)]) (rest := []) ⟨hx, hb, hml, hown, hw⟩ (c_P_isRegister l dC dI (wA w)) (va_cwS 1 hw (gdS (k_247) (k_245) (k_246) (k_2)) rfl rfl rfl (by decide +kernel) ⟨Nat.le_of_ble_eq_true rfl, Nat.le_of_ble_eq_true rfl⟩) ⟨fun _ _ _ _ q => q, fun _ _ _ => ⟨rfl, trivial⟩⟩ rfl rfl hl.1 rfl (lv_room (Nat.le_of_ble_eq_true rfl)) d_P_isInstruction_68 ⟨Nat.le_of_ble_eq_true rfl, Nat.le_of_ble_eq_true rfl⟩).run (fun r98 hr99 => ?_)
    subst hr99
    exact W.zret (v := (bI (isReg (wA w)))) (ty := .boolean) hx hb hr (nz_bI _) (fun t ht _ => ⟨_, rfl, (by simp [isIn, isInA, hs3]), ht⟩) (fun _ h => by cases h) d_P_isInstruction_71
  · refine lv_tableOut (tgt := 136) hx hb d_P_isInstruction_4 hs3 rfl ?_
    refine lv_iconst (v := 0) hx hb d_P_isInstruction_136 (by decide) ?_
    exact W.zret (v := 0) (ty := .boolean) hx hb hr rfl (fun t ht _ => ⟨_, rfl, (by rw [isIn_out hs3]; rfl), ht⟩) (fun _ h => by cases h) d_P_isInstruction_137

set_option maxHeartbeats 4000000 in
set_option maxRecDepth 100000 in
theorem c_P_wrap (l : Launch) (dC : Nat → ClassId) (dI : Nat → Nat → Nat) (h0 q cn : Nat) (x : Int32) (hc : cn ≤ 64) (hx0 : ∃ k : Nat, k < 2 ^ 30 ∧ x = nI k) : Met l y_P_wrap (tbw y_P_wrap b_P_wrap 2 (some .int)) ({ frames := 0, cells := 0, slots := 0, locals := 0 }) (va_Pc [.ref h0, .int x] (fun U => va_P (dC, dI) classes [(h0, .inr (1, [.ref q, .int (nI cn)]))] U.heap ∧ va_K (dC, dI) classes [] U)) (vp_Si (fun r => (∃ j : Nat, j < max cn 1 ∧ r = nI j) ∧ r = s_P_wrap cn x)) 0 0 (fun _ => False) := by
  refine Met.ofW (cc := b_P_wrap) (maxL := 2) (ret := (some .int)) (by decide) rfl ?_
  intro p e s m args below meth c s₁ B hml hv
  obtain ⟨rfl, hP, hK⟩ := hv
  have hx := B.exec
  have hb := B.bytes
  have hr := B.returns
  have hts := atoms_spec (ws := (tbw y_P_wrap b_P_wrap 2 (some .int))) B.pre
  have hw : ∀ z9 ∈ tb, z9.before ([.ref h0, .int x] : List Value).toArray s = true := fun z9 h => hts z9 (List.mem_cons_of_mem _ h)
  have hown : s.vm.findClass "VotedTriple$Program" = some m.cls := findClass_of_methodNamed B.named
  have hlocks := B.notSynchronized
  replace hl := lv_entry ([.ref h0, .int x]) (n := 2) (Nat.le_of_ble_eq_true rfl)
  rw [lg_entry_eq]
  generalize (lg_sl ([.ref h0, .int x]) ++ List.replicate (2 - (lg_sl ([.ref h0, .int x])).length) Slot.unset).toArray = ls at hl ⊢
  replace hl : lv_has ls 2 [(0, .ref h0), (1, .int x)] := hl
  generalize hSP : s_P_wrap cn x = SP
  refine lv_aload_n hx hb d_P_wrap_0 rfl (lv_at hl 0 rfl) ?_
  refine va_get (D := (dC, dI)) (ci := 1) (v := .int (nI cn)) (C := "VotedTriple$Program") (T := F_P) (N := 2) hx hb hw in_P hown hK hP 0 rfl rfl 1 (by decide) (hw _ k_33) (fun _ h9 => h9) rfl d_P_wrap_1 ?_
  refine lv_if_le (tgt := 16) hx hb d_P_wrap_4 rfl (fun hc1 => ?_) (fun hc1 => ?_)
  · --  (nI cn) ≤ 0
    refine lv_iconst (v := 0) hx hb d_P_wrap_16 (by decide) ?_
    exact W.iret (v := 0) hx hb hr (fun t ht _ => ⟨_, rfl, ⟨⟨0, by omega, rfl⟩, (by rw [← hSP, s_P_wrap]; try (rw [if_pos hc1]); all_goals rfl)⟩, ht⟩) (fun _ h => by cases h) d_P_wrap_17
  · --  ¬ (nI cn) ≤ 0
    refine lv_iload_n hx hb d_P_wrap_7 rfl (lv_at hl 1 rfl) ?_
    refine lv_aload_n hx hb d_P_wrap_8 rfl (lv_at hl 0 rfl) ?_
    refine va_get (D := (dC, dI)) (ci := 1) (v := .int (nI cn)) (C := "VotedTriple$Program") (T := F_P) (N := 2) hx hb hw in_P hown hK hP 0 rfl rfl 1 (by decide) (hw _ k_33) (fun _ h9 => h9) rfl d_P_wrap_9 ?_
    refine lv_irem hx hb d_P_wrap_12 (fun e => hc1 (by rw [e]; decide)) ?_
    refine lv_goto (tgt := 17) hx hb d_P_wrap_13 rfl ?_
    obtain ⟨k9, hk9, e9⟩ := hx0
    have h9 : 0 < cn := Nat.pos_of_ne_zero (fun e => hc1 (by rw [e]; decide))
    exact W.iret (v := (x - x / nI cn * nI cn)) hx hb hr (fun t ht _ => ⟨_, rfl, ⟨⟨k9 % cn, by have := Nat.mod_lt k9 h9; omega, by rw [e9]; exact pk_rem (by omega) h9 (by omega)⟩, (by rw [← hSP, s_P_wrap]; try (rw [if_neg hc1]); all_goals rfl)⟩, ht⟩) (fun _ h => by cases h) d_P_wrap_17

set_option maxHeartbeats 4000000 in
set_option maxRecDepth 100000 in
theorem c_P_instructionAt (l : Launch) (dC : Nat → ClassId) (dI : Nat → Nat → Nat) (h0 q cn : Nat) (cA : ClassId) (f : Nat → Int32) (x : Int32) (hc : prI cn f) (hpos : 0 < cn) (hx0 : ∃ k : Nat, k < 2 ^ 30 ∧ x = nI k) : Met l y_P_instructionAt (tbw y_P_instructionAt b_P_instructionAt 2 (some .int)) ({ frames := 1, cells := 0, slots := 0, locals := 21 }) (va_Pc [.ref h0, .int x] (fun U => va_P (dC, dI) classes [(h0, .inr (1, [.ref q, .int (nI cn)])), (q, .inl (cA, 64, .inl f))] U.heap ∧ va_K (dC, dI) classes [(cA, .int)] U)) (vp_Si (fun r => (isIn r = true) ∧ r = s_P_instructionAt cn f x)) 0 0 (fun _ => False) := by
  refine Met.ofW (cc := b_P_instructionAt) (maxL := 2) (ret := (some .int)) (by decide) rfl ?_
  intro p e s m args below meth c s₁ B hml hv
  obtain ⟨rfl, hP, hK⟩ := hv
  have hx := B.exec
  have hb := B.bytes
  have hr := B.returns
  have hts := atoms_spec (ws := (tbw y_P_instructionAt b_P_instructionAt 2 (some .int))) B.pre
  have hw : ∀ z9 ∈ tb, z9.before ([.ref h0, .int x] : List Value).toArray s = true := fun z9 h => hts z9 (List.mem_cons_of_mem _ h)
  have hown : s.vm.findClass "VotedTriple$Program" = some m.cls := findClass_of_methodNamed B.named
  have hlocks := B.notSynchronized
  replace hl := lv_entry ([.ref h0, .int x]) (n := 2) (Nat.le_of_ble_eq_true rfl)
  rw [lg_entry_eq]
  generalize (lg_sl ([.ref h0, .int x]) ++ List.replicate (2 - (lg_sl ([.ref h0, .int x])).length) Slot.unset).toArray = ls at hl ⊢
  replace hl : lv_has ls 2 [(0, .ref h0), (1, .int x)] := hl
  generalize hSP : s_P_instructionAt cn f x = SP
  refine lv_aload_n hx hb d_P_instructionAt_0 rfl (lv_at hl 0 rfl) ?_
  refine va_get (D := (dC, dI)) (ci := 1) (v := .ref q) (C := "VotedTriple$Program") (T := F_P) (N := 2) hx hb hw in_P hown hK hP 0 rfl rfl 0 (by decide) (hw _ k_32) (fun _ h9 => h9) rfl d_P_instructionAt_1 ?_
  refine lv_aload_n hx hb d_P_instructionAt_4 rfl (lv_at hl 0 rfl) ?_
  refine lv_iload_n hx hb d_P_instructionAt_5 rfl (lv_at hl 1 rfl) ?_
  replace hPc := hP.sub (ws' := [(h0, .inr (1, [.ref q, .int (nI cn)]))]) [0] rfl
  replace hKc := hK.sub (tys' := []) [] rfl
  refine vp_callSi (va_runV (C := "VotedTriple$Program") (As := [.int x]) (rest := [.ref q]) ⟨hx, hb, hml, hown, hw⟩ (c_P_wrap l dC dI h0 q cn x hc.1 hx0) (cwV 1 hw (gdV (k_501) (k_498) (k_499) (k_500) (k_2)) rfl rfl rfl (by decide +kernel) ⟨Nat.le_of_ble_eq_true rfl, Nat.le_of_ble_eq_true rfl⟩) ⟨fun a U g mk q => ⟨q.1, q.2.1, va_K.moved (u := U) (U := U.calling g mk a) (Vm.Alike.refl U.vm) q.2.2⟩, va_recv hK hP rfl (q0 := 0) rfl, fun U hU hW => ⟨rfl, by rw [hU]; exact hPc, va_K.moved hW.alike hKc⟩⟩ rfl rfl hl.1 rfl (lv_room (Nat.le_of_ble_eq_true rfl)) d_P_instructionAt_6 ⟨Nat.le_of_ble_eq_true rfl, Nat.le_of_ble_eq_true rfl⟩).run (fun r1 hr2 => ?_)
  obtain ⟨hr2, hr2E⟩ := hr2
  refine va_iald hx hb hK hP 1 0 rfl rfl (by obtain ⟨j9, hj9, e9⟩ := hr2; rw [e9]; exact vp_in_nI (by have := hc.1; omega) (by decide)) d_P_instructionAt_9 ?_
  obtain ⟨j9, hj9, e9⟩ := hr2
  exact W.iret (v := (f (Int32.toNatClampNeg r1))) hx hb hr (fun t ht _ => ⟨_, rfl, ⟨(by rw [e9, nI_clamp (by have := hc.1; omega)]; exact hc.2 j9 (by omega)), (by rw [← hSP, s_P_instructionAt]; try (rw [← hr2E, bnd_eq]); all_goals rfl)⟩, ht⟩) (fun _ h => by cases h) d_P_instructionAt_10
