set_option maxHeartbeats 4000000 in
set_option maxRecDepth 100000 in
theorem c_M_op (l : Launch) (dC : Nat → ClassId) (dI : Nat → Nat → Nat) (w : Int32) : Met l y_M_op (tbw y_M_op b_M_op 1 (some .int)) ({ frames := 0, cells := 0, slots := 0, locals := 0 }) (va_Pc [.int w] (fun _ => True)) (vp_Si (fun r => r = ush w 24)) 0 0 (fun _ => False) := by
  refine Met.ofW (cc := b_M_op) (maxL := 1) (ret := (some .int)) (by decide) rfl ?_
  intro p e s m args below meth c s₁ B hml hv
  obtain ⟨rfl, -⟩ := hv
  have hx := B.exec
  have hb := B.bytes
  have hr := B.returns
  have hts := atoms_spec (ws := (tbw y_M_op b_M_op 1 (some .int))) B.pre
  have hw : ∀ z9 ∈ tb, z9.before ([.int w] : List Value).toArray s = true := fun z9 h => hts z9 (List.mem_cons_of_mem _ h)
  have hown : s.vm.findClass "VotedTripleModel" = some m.cls := findClass_of_methodNamed B.named
  have hlocks := B.notSynchronized
  replace hl := lv_entry ([.int w]) (n := 1) (Nat.le_of_ble_eq_true rfl)
  rw [lg_entry_eq]
  generalize (lg_sl ([.int w]) ++ List.replicate (1 - (lg_sl ([.int w])).length) Slot.unset).toArray = ls at hl ⊢
  replace hl : lv_has ls 1 [(0, .int w)] := hl
  refine lv_iload_n hx hb d_M_op_0 rfl (lv_at hl 0 rfl) ?_
  refine lv_bipush (v := 24) hx hb d_M_op_1 (by decide) ?_
  refine lv_iushr (v := ush w 24) hx hb d_M_op_3 rfl ?_
  exact W.iret (v := (ush w 24)) hx hb hr (fun t ht _ => ⟨_, rfl, rfl, ht⟩) (fun _ h => by cases h) d_M_op_4

set_option maxHeartbeats 4000000 in
set_option maxRecDepth 100000 in
theorem c_M_part (l : Launch) (dC : Nat → ClassId) (dI : Nat → Nat → Nat) (w k v : Int32) (hv : 16 - 8 * k = v) : Met l y_M_part (tbw y_M_part b_M_part 2 (some .int)) ({ frames := 0, cells := 0, slots := 0, locals := 0 }) (va_Pc [.int w, .int k] (fun _ => True)) (vp_Si (fun r => r = ush w v &&& 255)) 0 0 (fun _ => False) := by
  refine Met.ofW (cc := b_M_part) (maxL := 2) (ret := (some .int)) (by decide) rfl ?_
  intro p e s m args below meth c s₁ B hml hv
  obtain ⟨rfl, -⟩ := hv
  have hx := B.exec
  have hb := B.bytes
  have hr := B.returns
  have hts := atoms_spec (ws := (tbw y_M_part b_M_part 2 (some .int))) B.pre
  have hw : ∀ z9 ∈ tb, z9.before ([.int w, .int k] : List Value).toArray s = true := fun z9 h => hts z9 (List.mem_cons_of_mem _ h)
  have hown : s.vm.findClass "VotedTripleModel" = some m.cls := findClass_of_methodNamed B.named
  have hlocks := B.notSynchronized
  replace hl := lv_entry ([.int w, .int k]) (n := 2) (Nat.le_of_ble_eq_true rfl)
  rw [lg_entry_eq]
  generalize (lg_sl ([.int w, .int k]) ++ List.replicate (2 - (lg_sl ([.int w, .int k])).length) Slot.unset).toArray = ls at hl ⊢
  replace hl : lv_has ls 2 [(0, .int w), (1, .int k)] := hl
  refine lv_iload_n hx hb d_M_part_0 rfl (lv_at hl 0 rfl) ?_
  refine lv_bipush (v := 16) hx hb d_M_part_1 (by decide) ?_
  refine lv_bipush (v := 8) hx hb d_M_part_3 (by decide) ?_
  refine lv_iload_n hx hb d_M_part_5 rfl (lv_at hl 1 rfl) ?_
  refine lv_imul hx hb d_M_part_6 ?_
  refine lv_isub hx hb d_M_part_7 ?_
  refine lv_iushr (v := ush w ((16 : Int32) - ((8 : Int32) * k))) hx hb d_M_part_8 rfl ?_
  refine lv_sipush (v := 255) hx hb d_M_part_9 (by decide) ?_
  refine lv_iand hx hb d_M_part_12 ?_
  exact W.iret (v := ((ush w ((16 : Int32) - ((8 : Int32) * k))) &&& (255 : Int32))) hx hb hr (fun t ht _ => ⟨_, rfl, (by rw [hv]), ht⟩) (fun _ h => by cases h) d_M_part_13

set_option maxHeartbeats 4000000 in
set_option maxRecDepth 100000 in
theorem c_M_isRight (l : Launch) (dC : Nat → ClassId) (dI : Nat → Nat → Nat) (w : Int32) : Met l y_M_isRight (tbw y_M_isRight b_M_isRight 4 (some .boolean)) ({ frames := 1, cells := 0, slots := 0, locals := 21 }) (va_Pc [.int w] (fun _ => True)) (vp_Si (fun r => r = bI (isIn w))) 0 0 (fun _ => False) := by
  refine Met.ofW (cc := b_M_isRight) (maxL := 4) (ret := (some .boolean)) (by decide) rfl ?_
  intro p e s m args below meth c s₁ B hml hv
  obtain ⟨rfl, -⟩ := hv
  have hx := B.exec
  have hb := B.bytes
  have hr := B.returns
  have hts := atoms_spec (ws := (tbw y_M_isRight b_M_isRight 4 (some .boolean))) B.pre
  have hw : ∀ z9 ∈ tb, z9.before ([.int w] : List Value).toArray s = true := fun z9 h => hts z9 (List.mem_cons_of_mem _ h)
  have hown : s.vm.findClass "VotedTripleModel" = some m.cls := findClass_of_methodNamed B.named
  have hlocks := B.notSynchronized
  replace hl := lv_entry ([.int w]) (n := 4) (Nat.le_of_ble_eq_true rfl)
  rw [lg_entry_eq]
  generalize (lg_sl ([.int w]) ++ List.replicate (4 - (lg_sl ([.int w])).length) Slot.unset).toArray = ls at hl ⊢
  replace hl : lv_has ls 4 [(0, .int w)] := hl
  refine lv_iload_n hx hb d_M_isRight_0 rfl (lv_at hl 0 rfl) ?_
  refine lv_iconst (v := 0) hx hb d_M_isRight_1 (by decide) ?_
  refine vp_callSi (va_runS (As := [.int w, .int 0]) (rest := []) ⟨hx, hb, hml, hown, hw⟩ (c_M_part l dC dI w 0 16 (by decide)) (va_cwS 2 hw (gdS (k_845) (k_843) (k_844) (k_8)) rfl rfl rfl (by decide +kernel) ⟨Nat.le_of_ble_eq_true rfl, Nat.le_of_ble_eq_true rfl⟩) ⟨fun _ _ _ _ q => q, fun _ _ _ => ⟨rfl, trivial⟩⟩ rfl rfl hl.1 rfl (lv_room (Nat.le_of_ble_eq_true rfl)) d_M_isRight_2 ⟨Nat.le_of_ble_eq_true rfl, Nat.le_of_ble_eq_true rfl⟩).run (fun r1 hr2 => ?_)
  subst hr2
  refine lv_istore_n hx hb d_M_isRight_5 rfl hl (by decide) rfl (fun ls hl => ?_)
  replace hl : lv_has ls 4 [(1, .int (wA w)), (0, .int w)] := hl
  refine lv_iload_n hx hb d_M_isRight_6 rfl (lv_at hl 1 rfl) ?_
  refine lv_iconst (v := 1) hx hb d_M_isRight_7 (by decide) ?_
  refine vp_callSi (va_runS (As := [.int w, .int 1]) (rest := []) ⟨hx, hb, hml, hown, hw⟩ (c_M_part l dC dI w 1 8 (by decide)) (va_cwS 2 hw (gdS (k_845) (k_843) (k_844) (k_8)) rfl rfl rfl (by decide +kernel) ⟨Nat.le_of_ble_eq_true rfl, Nat.le_of_ble_eq_true rfl⟩) ⟨fun _ _ _ _ q => q, fun _ _ _ => ⟨rfl, trivial⟩⟩ rfl rfl hl.1 rfl (lv_room (Nat.le_of_ble_eq_true rfl)) d_M_isRight_8 ⟨Nat.le_of_ble_eq_true rfl, Nat.le_of_ble_eq_true rfl⟩).run (fun r3 hr4 => ?_)
  subst hr4
  refine lv_istore_n hx hb d_M_isRight_11 rfl hl (by decide) rfl (fun ls hl => ?_)
  replace hl : lv_has ls 4 [(2, .int (wB w)), (1, .int (wA w)), (0, .int w)] := hl
  refine lv_iload_n hx hb d_M_isRight_12 rfl (lv_at hl 2 rfl) ?_
  refine lv_iconst (v := 2) hx hb d_M_isRight_13 (by decide) ?_
  refine vp_callSi (va_runS (As := [.int w, .int 2]) (rest := []) ⟨hx, hb, hml, hown, hw⟩ (c_M_part l dC dI w 2 0 (by decide)) (va_cwS 2 hw (gdS (k_845) (k_843) (k_844) (k_8)) rfl rfl rfl (by decide +kernel) ⟨Nat.le_of_ble_eq_true rfl, Nat.le_of_ble_eq_true rfl⟩) ⟨fun _ _ _ _ q => q, fun _ _ _ => ⟨rfl, trivial⟩⟩ rfl rfl hl.1 rfl (lv_room (Nat.le_of_ble_eq_true rfl)) d_M_isRight_14 ⟨Nat.le_of_ble_eq_true rfl, Nat.le_of_ble_eq_true rfl⟩).run (fun r5 hr6 => ?_)
  subst hr6
  refine lv_istore_n hx hb d_M_isRight_17 rfl hl (by decide) rfl (fun ls hl => ?_)
  replace hl : lv_has ls 4 [(3, .int (wC w)), (2, .int (wB w)), (1, .int (wA w)), (0, .int w)] := hl
  refine lv_iload_n hx hb d_M_isRight_18 rfl (lv_at hl 3 rfl) ?_
  refine vp_callSi (va_runS (As := [.int w]) (rest := []) ⟨hx, hb, hml, hown, hw⟩ (c_M_op l dC dI w) (va_cwS 1 hw (gdS (k_848) (k_846) (k_847) (k_8)) rfl rfl rfl (by decide +kernel) ⟨Nat.le_of_ble_eq_true rfl, Nat.le_of_ble_eq_true rfl⟩) ⟨fun _ _ _ _ q => q, fun _ _ _ => ⟨rfl, trivial⟩⟩ rfl rfl hl.1 rfl (lv_room (Nat.le_of_ble_eq_true rfl)) d_M_isRight_19 ⟨Nat.le_of_ble_eq_true rfl, Nat.le_of_ble_eq_true rfl⟩).run (fun r7 hr8 => ?_)
  subst hr8
  rcases sw10 (ush w 24) with hs9 | hs9 | hs9 | hs9 | hs9 | hs9 | hs9 | hs9 | hs9 | hs9 | hs9 | hs9
  · refine lv_tableIn (off := 58) (tgt := 80) hx hb d_M_isRight_22 (by rw [hs9]; decide) (by rw [hs9]; decide) (by rw [hs9]; decide) rfl ?_
    refine lv_iload_n hx hb d_M_isRight_80 rfl (lv_at hl 2 rfl) ?_
    refine lv_bipush (v := 8) hx hb d_M_isRight_81 (by decide) ?_
    refine lv_icmp_ge (tgt := 90) hx hb d_M_isRight_83 rfl (fun hc10 => ?_) (fun hc10 => ?_)
    · --  8 ≤ (wA w)
      refine lv_iconst (v := 0) hx hb d_M_isRight_90 (by decide) ?_
      exact W.zret (v := 0) (ty := .boolean) hx hb hr rfl (fun t ht _ => ⟨_, rfl, (by simp [isIn, isInA, isReg, bI, hs9, hc10]), ht⟩) (fun _ h => by cases h) d_M_isRight_91
    · --  ¬ 8 ≤ (wA w)
      refine lv_iconst (v := 1) hx hb d_M_isRight_86 (by decide) ?_
      refine lv_goto (tgt := 91) hx hb d_M_isRight_87 rfl ?_
      exact W.zret (v := 1) (ty := .boolean) hx hb hr rfl (fun t ht _ => ⟨_, rfl, (by simp [isIn, isInA, isReg, bI, hs9, hc10]), ht⟩) (fun _ h => by cases h) d_M_isRight_91
  · refine lv_tableIn (off := 70) (tgt := 92) hx hb d_M_isRight_22 (by rw [hs9]; decide) (by rw [hs9]; decide) (by rw [hs9]; decide) rfl ?_
    refine lv_iload_n hx hb d_M_isRight_92 rfl (lv_at hl 2 rfl) ?_
    refine lv_bipush (v := 8) hx hb d_M_isRight_93 (by decide) ?_
    refine lv_icmp_ge (tgt := 114) hx hb d_M_isRight_95 rfl (fun hc11 => ?_) (fun hc11 => ?_)
    · --  8 ≤ (wA w)
      refine lv_iconst (v := 0) hx hb d_M_isRight_114 (by decide) ?_
      exact W.zret (v := 0) (ty := .boolean) hx hb hr rfl (fun t ht _ => ⟨_, rfl, (by simp [isIn, isInA, isReg, bI, hs9, hc11]), ht⟩) (fun _ h => by cases h) d_M_isRight_115
    · --  ¬ 8 ≤ (wA w)
      refine lv_iload_n hx hb d_M_isRight_98 rfl (lv_at hl 1 rfl) ?_
      refine lv_bipush (v := 8) hx hb d_M_isRight_99 (by decide) ?_
      refine lv_icmp_ge (tgt := 114) hx hb d_M_isRight_101 rfl (fun hc12 => ?_) (fun hc12 => ?_)
      · --  8 ≤ (wB w)
        refine lv_iconst (v := 0) hx hb d_M_isRight_114 (by decide) ?_
        exact W.zret (v := 0) (ty := .boolean) hx hb hr rfl (fun t ht _ => ⟨_, rfl, (by simp [isIn, isInA, isReg, bI, hs9, hc11, hc12]), ht⟩) (fun _ h => by cases h) d_M_isRight_115
      · --  ¬ 8 ≤ (wB w)
        refine lv_iload_n hx hb d_M_isRight_104 rfl (lv_at hl 0 rfl) ?_
        refine lv_bipush (v := 8) hx hb d_M_isRight_105 (by decide) ?_
        refine lv_icmp_ge (tgt := 114) hx hb d_M_isRight_107 rfl (fun hc13 => ?_) (fun hc13 => ?_)
        · --  8 ≤ (wC w)
          refine lv_iconst (v := 0) hx hb d_M_isRight_114 (by decide) ?_
          exact W.zret (v := 0) (ty := .boolean) hx hb hr rfl (fun t ht _ => ⟨_, rfl, (by simp [isIn, isInA, isReg, bI, hs9, hc11, hc12, hc13]), ht⟩) (fun _ h => by cases h) d_M_isRight_115
        · --  ¬ 8 ≤ (wC w)
          refine lv_iconst (v := 1) hx hb d_M_isRight_110 (by decide) ?_
          refine lv_goto (tgt := 115) hx hb d_M_isRight_111 rfl ?_
          exact W.zret (v := 1) (ty := .boolean) hx hb hr rfl (fun t ht _ => ⟨_, rfl, (by simp [isIn, isInA, isReg, bI, hs9, hc11, hc12, hc13]), ht⟩) (fun _ h => by cases h) d_M_isRight_115
  · refine lv_tableIn (off := 70) (tgt := 92) hx hb d_M_isRight_22 (by rw [hs9]; decide) (by rw [hs9]; decide) (by rw [hs9]; decide) rfl ?_
    refine lv_iload_n hx hb d_M_isRight_92 rfl (lv_at hl 2 rfl) ?_
    refine lv_bipush (v := 8) hx hb d_M_isRight_93 (by decide) ?_
    refine lv_icmp_ge (tgt := 114) hx hb d_M_isRight_95 rfl (fun hc14 => ?_) (fun hc14 => ?_)
    · --  8 ≤ (wA w)
      refine lv_iconst (v := 0) hx hb d_M_isRight_114 (by decide) ?_
      exact W.zret (v := 0) (ty := .boolean) hx hb hr rfl (fun t ht _ => ⟨_, rfl, (by simp [isIn, isInA, isReg, bI, hs9, hc14]), ht⟩) (fun _ h => by cases h) d_M_isRight_115
    · --  ¬ 8 ≤ (wA w)
      refine lv_iload_n hx hb d_M_isRight_98 rfl (lv_at hl 1 rfl) ?_
      refine lv_bipush (v := 8) hx hb d_M_isRight_99 (by decide) ?_
      refine lv_icmp_ge (tgt := 114) hx hb d_M_isRight_101 rfl (fun hc15 => ?_) (fun hc15 => ?_)
      · --  8 ≤ (wB w)
        refine lv_iconst (v := 0) hx hb d_M_isRight_114 (by decide) ?_
        exact W.zret (v := 0) (ty := .boolean) hx hb hr rfl (fun t ht _ => ⟨_, rfl, (by simp [isIn, isInA, isReg, bI, hs9, hc14, hc15]), ht⟩) (fun _ h => by cases h) d_M_isRight_115
      · --  ¬ 8 ≤ (wB w)
        refine lv_iload_n hx hb d_M_isRight_104 rfl (lv_at hl 0 rfl) ?_
        refine lv_bipush (v := 8) hx hb d_M_isRight_105 (by decide) ?_
        refine lv_icmp_ge (tgt := 114) hx hb d_M_isRight_107 rfl (fun hc16 => ?_) (fun hc16 => ?_)
        · --  8 ≤ (wC w)
          refine lv_iconst (v := 0) hx hb d_M_isRight_114 (by decide) ?_
          exact W.zret (v := 0) (ty := .boolean) hx hb hr rfl (fun t ht _ => ⟨_, rfl, (by simp [isIn, isInA, isReg, bI, hs9, hc14, hc15, hc16]), ht⟩) (fun _ h => by cases h) d_M_isRight_115
        · --  ¬ 8 ≤ (wC w)
          refine lv_iconst (v := 1) hx hb d_M_isRight_110 (by decide) ?_
          refine lv_goto (tgt := 115) hx hb d_M_isRight_111 rfl ?_
          exact W.zret (v := 1) (ty := .boolean) hx hb hr rfl (fun t ht _ => ⟨_, rfl, (by simp [isIn, isInA, isReg, bI, hs9, hc14, hc15, hc16]), ht⟩) (fun _ h => by cases h) d_M_isRight_115
  · refine lv_tableIn (off := 70) (tgt := 92) hx hb d_M_isRight_22 (by rw [hs9]; decide) (by rw [hs9]; decide) (by rw [hs9]; decide) rfl ?_
    refine lv_iload_n hx hb d_M_isRight_92 rfl (lv_at hl 2 rfl) ?_
    refine lv_bipush (v := 8) hx hb d_M_isRight_93 (by decide) ?_
    refine lv_icmp_ge (tgt := 114) hx hb d_M_isRight_95 rfl (fun hc17 => ?_) (fun hc17 => ?_)
    · --  8 ≤ (wA w)
      refine lv_iconst (v := 0) hx hb d_M_isRight_114 (by decide) ?_
      exact W.zret (v := 0) (ty := .boolean) hx hb hr rfl (fun t ht _ => ⟨_, rfl, (by simp [isIn, isInA, isReg, bI, hs9, hc17]), ht⟩) (fun _ h => by cases h) d_M_isRight_115
    · --  ¬ 8 ≤ (wA w)
      refine lv_iload_n hx hb d_M_isRight_98 rfl (lv_at hl 1 rfl) ?_
      refine lv_bipush (v := 8) hx hb d_M_isRight_99 (by decide) ?_
      refine lv_icmp_ge (tgt := 114) hx hb d_M_isRight_101 rfl (fun hc18 => ?_) (fun hc18 => ?_)
      · --  8 ≤ (wB w)
        refine lv_iconst (v := 0) hx hb d_M_isRight_114 (by decide) ?_
        exact W.zret (v := 0) (ty := .boolean) hx hb hr rfl (fun t ht _ => ⟨_, rfl, (by simp [isIn, isInA, isReg, bI, hs9, hc17, hc18]), ht⟩) (fun _ h => by cases h) d_M_isRight_115
      · --  ¬ 8 ≤ (wB w)
        refine lv_iload_n hx hb d_M_isRight_104 rfl (lv_at hl 0 rfl) ?_
        refine lv_bipush (v := 8) hx hb d_M_isRight_105 (by decide) ?_
        refine lv_icmp_ge (tgt := 114) hx hb d_M_isRight_107 rfl (fun hc19 => ?_) (fun hc19 => ?_)
        · --  8 ≤ (wC w)
          refine lv_iconst (v := 0) hx hb d_M_isRight_114 (by decide) ?_
          exact W.zret (v := 0) (ty := .boolean) hx hb hr rfl (fun t ht _ => ⟨_, rfl, (by simp [isIn, isInA, isReg, bI, hs9, hc17, hc18, hc19]), ht⟩) (fun _ h => by cases h) d_M_isRight_115
        · --  ¬ 8 ≤ (wC w)
          refine lv_iconst (v := 1) hx hb d_M_isRight_110 (by decide) ?_
          refine lv_goto (tgt := 115) hx hb d_M_isRight_111 rfl ?_
          exact W.zret (v := 1) (ty := .boolean) hx hb hr rfl (fun t ht _ => ⟨_, rfl, (by simp [isIn, isInA, isReg, bI, hs9, hc17, hc18, hc19]), ht⟩) (fun _ h => by cases h) d_M_isRight_115
  · refine lv_tableIn (off := 70) (tgt := 92) hx hb d_M_isRight_22 (by rw [hs9]; decide) (by rw [hs9]; decide) (by rw [hs9]; decide) rfl ?_
    refine lv_iload_n hx hb d_M_isRight_92 rfl (lv_at hl 2 rfl) ?_
    refine lv_bipush (v := 8) hx hb d_M_isRight_93 (by decide) ?_
    refine lv_icmp_ge (tgt := 114) hx hb d_M_isRight_95 rfl (fun hc20 => ?_) (fun hc20 => ?_)
    · --  8 ≤ (wA w)
      refine lv_iconst (v := 0) hx hb d_M_isRight_114 (by decide) ?_
      exact W.zret (v := 0) (ty := .boolean) hx hb hr rfl (fun t ht _ => ⟨_, rfl, (by simp [isIn, isInA, isReg, bI, hs9, hc20]), ht⟩) (fun _ h => by cases h) d_M_isRight_115
    · --  ¬ 8 ≤ (wA w)
      refine lv_iload_n hx hb d_M_isRight_98 rfl (lv_at hl 1 rfl) ?_
      refine lv_bipush (v := 8) hx hb d_M_isRight_99 (by decide) ?_
      refine lv_icmp_ge (tgt := 114) hx hb d_M_isRight_101 rfl (fun hc21 => ?_) (fun hc21 => ?_)
      · --  8 ≤ (wB w)
        refine lv_iconst (v := 0) hx hb d_M_isRight_114 (by decide) ?_
        exact W.zret (v := 0) (ty := .boolean) hx hb hr rfl (fun t ht _ => ⟨_, rfl, (by simp [isIn, isInA, isReg, bI, hs9, hc20, hc21]), ht⟩) (fun _ h => by cases h) d_M_isRight_115
      · --  ¬ 8 ≤ (wB w)
        refine lv_iload_n hx hb d_M_isRight_104 rfl (lv_at hl 0 rfl) ?_
        refine lv_bipush (v := 8) hx hb d_M_isRight_105 (by decide) ?_
        refine lv_icmp_ge (tgt := 114) hx hb d_M_isRight_107 rfl (fun hc22 => ?_) (fun hc22 => ?_)
        · --  8 ≤ (wC w)
          refine lv_iconst (v := 0) hx hb d_M_isRight_114 (by decide) ?_
          exact W.zret (v := 0) (ty := .boolean) hx hb hr rfl (fun t ht _ => ⟨_, rfl, (by simp [isIn, isInA, isReg, bI, hs9, hc20, hc21, hc22]), ht⟩) (fun _ h => by cases h) d_M_isRight_115
        · --  ¬ 8 ≤ (wC w)
          refine lv_iconst (v := 1) hx hb d_M_isRight_110 (by decide) ?_
          refine lv_goto (tgt := 115) hx hb d_M_isRight_111 rfl ?_
          exact W.zret (v := 1) (ty := .boolean) hx hb hr rfl (fun t ht _ => ⟨_, rfl, (by simp [isIn, isInA, isReg, bI, hs9, hc20, hc21, hc22]), ht⟩) (fun _ h => by cases h) d_M_isRight_115
  · refine lv_tableIn (off := 94) (tgt := 116) hx hb d_M_isRight_22 (by rw [hs9]; decide) (by rw [hs9]; decide) (by rw [hs9]; decide) rfl ?_
    refine lv_iload_n hx hb d_M_isRight_116 rfl (lv_at hl 2 rfl) ?_
    refine lv_bipush (v := 8) hx hb d_M_isRight_117 (by decide) ?_
    refine lv_icmp_ge (tgt := 132) hx hb d_M_isRight_119 rfl (fun hc23 => ?_) (fun hc23 => ?_)
    · --  8 ≤ (wA w)
      refine lv_iconst (v := 0) hx hb d_M_isRight_132 (by decide) ?_
      exact W.zret (v := 0) (ty := .boolean) hx hb hr rfl (fun t ht _ => ⟨_, rfl, (by simp [isIn, isInA, isReg, bI, hs9, hc23]), ht⟩) (fun _ h => by cases h) d_M_isRight_133
    · --  ¬ 8 ≤ (wA w)
      refine lv_iload_n hx hb d_M_isRight_122 rfl (lv_at hl 1 rfl) ?_
      refine lv_bipush (v := 8) hx hb d_M_isRight_123 (by decide) ?_
      refine lv_icmp_ge (tgt := 132) hx hb d_M_isRight_125 rfl (fun hc24 => ?_) (fun hc24 => ?_)
      · --  8 ≤ (wB w)
        refine lv_iconst (v := 0) hx hb d_M_isRight_132 (by decide) ?_
        exact W.zret (v := 0) (ty := .boolean) hx hb hr rfl (fun t ht _ => ⟨_, rfl, (by simp [isIn, isInA, isReg, bI, hs9, hc23, hc24]), ht⟩) (fun _ h => by cases h) d_M_isRight_133
      · --  ¬ 8 ≤ (wB w)
        refine lv_iconst (v := 1) hx hb d_M_isRight_128 (by decide) ?_
        refine lv_goto (tgt := 133) hx hb d_M_isRight_129 rfl ?_
        exact W.zret (v := 1) (ty := .boolean) hx hb hr rfl (fun t ht _ => ⟨_, rfl, (by simp [isIn, isInA, isReg, bI, hs9, hc23, hc24]), ht⟩) (fun _ h => by cases h) d_M_isRight_133
  · refine lv_tableIn (off := 94) (tgt := 116) hx hb d_M_isRight_22 (by rw [hs9]; decide) (by rw [hs9]; decide) (by rw [hs9]; decide) rfl ?_
    refine lv_iload_n hx hb d_M_isRight_116 rfl (lv_at hl 2 rfl) ?_
    refine lv_bipush (v := 8) hx hb d_M_isRight_117 (by decide) ?_
    refine lv_icmp_ge (tgt := 132) hx hb d_M_isRight_119 rfl (fun hc25 => ?_) (fun hc25 => ?_)
    · --  8 ≤ (wA w)
      refine lv_iconst (v := 0) hx hb d_M_isRight_132 (by decide) ?_
      exact W.zret (v := 0) (ty := .boolean) hx hb hr rfl (fun t ht _ => ⟨_, rfl, (by simp [isIn, isInA, isReg, bI, hs9, hc25]), ht⟩) (fun _ h => by cases h) d_M_isRight_133
    · --  ¬ 8 ≤ (wA w)
      refine lv_iload_n hx hb d_M_isRight_122 rfl (lv_at hl 1 rfl) ?_
      refine lv_bipush (v := 8) hx hb d_M_isRight_123 (by decide) ?_
      refine lv_icmp_ge (tgt := 132) hx hb d_M_isRight_125 rfl (fun hc26 => ?_) (fun hc26 => ?_)
      · --  8 ≤ (wB w)
        refine lv_iconst (v := 0) hx hb d_M_isRight_132 (by decide) ?_
        exact W.zret (v := 0) (ty := .boolean) hx hb hr rfl (fun t ht _ => ⟨_, rfl, (by simp [isIn, isInA, isReg, bI, hs9, hc25, hc26]), ht⟩) (fun _ h => by cases h) d_M_isRight_133
      · --  ¬ 8 ≤ (wB w)
        refine lv_iconst (v := 1) hx hb d_M_isRight_128 (by decide) ?_
        refine lv_goto (tgt := 133) hx hb d_M_isRight_129 rfl ?_
        exact W.zret (v := 1) (ty := .boolean) hx hb hr rfl (fun t ht _ => ⟨_, rfl, (by simp [isIn, isInA, isReg, bI, hs9, hc25, hc26]), ht⟩) (fun _ h => by cases h) d_M_isRight_133
  · refine lv_tableIn (off := 58) (tgt := 80) hx hb d_M_isRight_22 (by rw [hs9]; decide) (by rw [hs9]; decide) (by rw [hs9]; decide) rfl ?_
    refine lv_iload_n hx hb d_M_isRight_80 rfl (lv_at hl 2 rfl) ?_
    refine lv_bipush (v := 8) hx hb d_M_isRight_81 (by decide) ?_
    refine lv_icmp_ge (tgt := 90) hx hb d_M_isRight_83 rfl (fun hc27 => ?_) (fun hc27 => ?_)
    · --  8 ≤ (wA w)
      refine lv_iconst (v := 0) hx hb d_M_isRight_90 (by decide) ?_
      exact W.zret (v := 0) (ty := .boolean) hx hb hr rfl (fun t ht _ => ⟨_, rfl, (by simp [isIn, isInA, isReg, bI, hs9, hc27]), ht⟩) (fun _ h => by cases h) d_M_isRight_91
    · --  ¬ 8 ≤ (wA w)
      refine lv_iconst (v := 1) hx hb d_M_isRight_86 (by decide) ?_
      refine lv_goto (tgt := 91) hx hb d_M_isRight_87 rfl ?_
      exact W.zret (v := 1) (ty := .boolean) hx hb hr rfl (fun t ht _ => ⟨_, rfl, (by simp [isIn, isInA, isReg, bI, hs9, hc27]), ht⟩) (fun _ h => by cases h) d_M_isRight_91
  · refine lv_tableIn (off := 112) (tgt := 134) hx hb d_M_isRight_22 (by rw [hs9]; decide) (by rw [hs9]; decide) (by rw [hs9]; decide) rfl ?_
    refine lv_iconst (v := 1) hx hb d_M_isRight_134 (by decide) ?_
    exact W.zret (v := 1) (ty := .boolean) hx hb hr rfl (fun t ht _ => ⟨_, rfl, (by simp [isIn, isInA, isReg, bI, hs9]), ht⟩) (fun _ h => by cases h) d_M_isRight_135
  · refine lv_tableIn (off := 58) (tgt := 80) hx hb d_M_isRight_22 (by rw [hs9]; decide) (by rw [hs9]; decide) (by rw [hs9]; decide) rfl ?_
    refine lv_iload_n hx hb d_M_isRight_80 rfl (lv_at hl 2 rfl) ?_
    refine lv_bipush (v := 8) hx hb d_M_isRight_81 (by decide) ?_
    refine lv_icmp_ge (tgt := 90) hx hb d_M_isRight_83 rfl (fun hc28 => ?_) (fun hc28 => ?_)
    · --  8 ≤ (wA w)
      refine lv_iconst (v := 0) hx hb d_M_isRight_90 (by decide) ?_
      exact W.zret (v := 0) (ty := .boolean) hx hb hr rfl (fun t ht _ => ⟨_, rfl, (by simp [isIn, isInA, isReg, bI, hs9, hc28]), ht⟩) (fun _ h => by cases h) d_M_isRight_91
    · --  ¬ 8 ≤ (wA w)
      refine lv_iconst (v := 1) hx hb d_M_isRight_86 (by decide) ?_
      refine lv_goto (tgt := 91) hx hb d_M_isRight_87 rfl ?_
      exact W.zret (v := 1) (ty := .boolean) hx hb hr rfl (fun t ht _ => ⟨_, rfl, (by simp [isIn, isInA, isReg, bI, hs9, hc28]), ht⟩) (fun _ h => by cases h) d_M_isRight_91
  · refine lv_tableIn (off := 58) (tgt := 80) hx hb d_M_isRight_22 (by rw [hs9]; decide) (by rw [hs9]; decide) (by rw [hs9]; decide) rfl ?_
    refine lv_iload_n hx hb d_M_isRight_80 rfl (lv_at hl 2 rfl) ?_
    refine lv_bipush (v := 8) hx hb d_M_isRight_81 (by decide) ?_
    refine lv_icmp_ge (tgt := 90) hx hb d_M_isRight_83 rfl (fun hc29 => ?_) (fun hc29 => ?_)
    · --  8 ≤ (wA w)
      refine lv_iconst (v := 0) hx hb d_M_isRight_90 (by decide) ?_
      exact W.zret (v := 0) (ty := .boolean) hx hb hr rfl (fun t ht _ => ⟨_, rfl, (by simp [isIn, isInA, isReg, bI, hs9, hc29]), ht⟩) (fun _ h => by cases h) d_M_isRight_91
    · --  ¬ 8 ≤ (wA w)
      refine lv_iconst (v := 1) hx hb d_M_isRight_86 (by decide) ?_
      refine lv_goto (tgt := 91) hx hb d_M_isRight_87 rfl ?_
      exact W.zret (v := 1) (ty := .boolean) hx hb hr rfl (fun t ht _ => ⟨_, rfl, (by simp [isIn, isInA, isReg, bI, hs9, hc29]), ht⟩) (fun _ h => by cases h) d_M_isRight_91
  · refine lv_tableOut (tgt := 136) hx hb d_M_isRight_22 hs9 rfl ?_
    refine lv_iconst (v := 0) hx hb d_M_isRight_136 (by decide) ?_
    exact W.zret (v := 0) (ty := .boolean) hx hb hr rfl (fun t ht _ => ⟨_, rfl, (by rw [isIn_out hs9]; rfl), ht⟩) (fun _ h => by cases h) d_M_isRight_137

set_option maxHeartbeats 4000000 in
set_option maxRecDepth 100000 in
theorem c_M_isDataV (l : Launch) (dC : Nat → ClassId) (dI : Nat → Nat → Nat) (b9 : Int32) : Met l y_M_isData (tbw y_M_isData b_M_isData 1 (some .boolean)) ({ frames := 0, cells := 0, slots := 0, locals := 0 }) (va_Pc [.int b9] (fun _ => True)) (vp_Si (fun r => r = bI (idB b9))) 0 0 (fun _ => False) := by
  refine Met.ofW (cc := b_M_isData) (maxL := 1) (ret := (some .boolean)) (by decide) rfl ?_
  intro p e s m args below meth c s₁ B hml hv
  obtain ⟨rfl, -⟩ := hv
  have hx := B.exec
  have hb := B.bytes
  have hr := B.returns
  have hts := atoms_spec (ws := (tbw y_M_isData b_M_isData 1 (some .boolean))) B.pre
  have hw : ∀ z9 ∈ tb, z9.before ([.int b9] : List Value).toArray s = true := fun z9 h => hts z9 (List.mem_cons_of_mem _ h)
  have hown : s.vm.findClass "VotedTripleModel" = some m.cls := findClass_of_methodNamed B.named
  have hlocks := B.notSynchronized
  replace hl := lv_entry ([.int b9]) (n := 1) (Nat.le_of_ble_eq_true rfl)
  rw [lg_entry_eq]
  generalize (lg_sl ([.int b9]) ++ List.replicate (1 - (lg_sl ([.int b9])).length) Slot.unset).toArray = ls at hl ⊢
  replace hl : lv_has ls 1 [(0, .int b9)] := hl
  refine lv_iload_n hx hb d_M_isData_0 rfl (lv_at hl 0 rfl) ?_
  refine lv_iconst (v := 2) hx hb d_M_isData_1 (by decide) ?_
  refine lv_icmp_le (tgt := 26) hx hb d_M_isData_2 rfl (fun hc1 => ?_) (fun hc1 => ?_)
  · --  b9 ≤ 2
    refine lv_iconst (v := 0) hx hb d_M_isData_26 (by decide) ?_
    exact W.zret (v := 0) (ty := .boolean) hx hb hr rfl (fun t ht _ => ⟨_, rfl, (by simp [bI, idB, hc1]), ht⟩) (fun _ h => by cases h) d_M_isData_27
  · --  ¬ b9 ≤ 2
    refine lv_iload_n hx hb d_M_isData_5 rfl (lv_at hl 0 rfl) ?_
    refine lv_iconst (v := 4) hx hb d_M_isData_6 (by decide) ?_
    refine lv_icmp_eq (tgt := 26) hx hb d_M_isData_7 rfl (fun hc2 => ?_) (fun hc2 => ?_)
    · --  b9 = 4
      refine lv_iconst (v := 0) hx hb d_M_isData_26 (by decide) ?_
      exact W.zret (v := 0) (ty := .boolean) hx hb hr rfl (fun t ht _ => ⟨_, rfl, (by simp [bI, idB, hc1, hc2]), ht⟩) (fun _ h => by cases h) d_M_isData_27
    · --  ¬ b9 = 4
      refine lv_iload_n hx hb d_M_isData_10 rfl (lv_at hl 0 rfl) ?_
      refine lv_bipush (v := 8) hx hb d_M_isData_11 (by decide) ?_
      refine lv_icmp_eq (tgt := 26) hx hb d_M_isData_13 rfl (fun hc3 => ?_) (fun hc3 => ?_)
      · --  b9 = 8
        refine lv_iconst (v := 0) hx hb d_M_isData_26 (by decide) ?_
        exact W.zret (v := 0) (ty := .boolean) hx hb hr rfl (fun t ht _ => ⟨_, rfl, (by simp [bI, idB, hc1, hc2, hc3]), ht⟩) (fun _ h => by cases h) d_M_isData_27
      · --  ¬ b9 = 8
        refine lv_iload_n hx hb d_M_isData_16 rfl (lv_at hl 0 rfl) ?_
        refine lv_bipush (v := 16) hx hb d_M_isData_17 (by decide) ?_
        refine lv_icmp_eq (tgt := 26) hx hb d_M_isData_19 rfl (fun hc4 => ?_) (fun hc4 => ?_)
        · --  b9 = 16
          refine lv_iconst (v := 0) hx hb d_M_isData_26 (by decide) ?_
          exact W.zret (v := 0) (ty := .boolean) hx hb hr rfl (fun t ht _ => ⟨_, rfl, (by simp [bI, idB, hc1, hc2, hc3, hc4]), ht⟩) (fun _ h => by cases h) d_M_isData_27
        · --  ¬ b9 = 16
          refine lv_iconst (v := 1) hx hb d_M_isData_22 (by decide) ?_
          refine lv_goto (tgt := 27) hx hb d_M_isData_23 rfl ?_
          exact W.zret (v := 1) (ty := .boolean) hx hb hr rfl (fun t ht _ => ⟨_, rfl, (by simp [bI, idB, hc1, hc2, hc3, hc4]), ht⟩) (fun _ h => by cases h) d_M_isData_27

set_option maxHeartbeats 4000000 in
set_option maxRecDepth 100000 in
theorem c_M_positions (l : Launch) (dC : Nat → ClassId) (dI : Nat → Nat → Nat) (x : Int32) : Met l y_M_positions (tbw y_M_positions b_M_positions 3 (some .int)) ({ frames := 0, cells := 0, slots := 0, locals := 0 }) (va_Pc [.int x] (fun _ => True)) (vp_Si (fun r => (True) ∧ r = s_M_positions x)) 0 0 (fun _ => False) := by
  refine Met.ofW (cc := b_M_positions) (maxL := 3) (ret := (some .int)) (by decide) rfl ?_
  intro p e s m args below meth c s₁ B hml hv
  obtain ⟨rfl, -⟩ := hv
  have hx := B.exec
  have hb := B.bytes
  have hr := B.returns
  have hts := atoms_spec (ws := (tbw y_M_positions b_M_positions 3 (some .int))) B.pre
  have hw : ∀ z9 ∈ tb, z9.before ([.int x] : List Value).toArray s = true := fun z9 h => hts z9 (List.mem_cons_of_mem _ h)
  have hown : s.vm.findClass "VotedTripleModel" = some m.cls := findClass_of_methodNamed B.named
  have hlocks := B.notSynchronized
  replace hl := lv_entry ([.int x]) (n := 3) (Nat.le_of_ble_eq_true rfl)
  rw [lg_entry_eq]
  generalize (lg_sl ([.int x]) ++ List.replicate (3 - (lg_sl ([.int x])).length) Slot.unset).toArray = ls at hl ⊢
  replace hl : lv_has ls 3 [(0, .int x)] := hl
  generalize hSP : s_M_positions x = SP
  have loop4 : ∀ (n9 : Nat) (i : Nat) (w1 : Int32) (ls : Array Slot), i + n9 = 22 → SP = s_M_positions_loop4 x n9 i w1 →  lv_has ls 3 [(0, .int x), (1, .int w1), (2, .int (nI i))] → W p l e (headSpec (tbw y_M_positions b_M_positions 3 (some .int)) ({ frames := 0, cells := 0, slots := 0, locals := 0 })).room s m ([.int x] : List Value).toArray below meth c s.heap [] 0 0 (MQ below (vp_Si (fun r => (True) ∧ r = SP)) ([.int x] : List Value).toArray s 0 0 (fun _ => False)) (F0 m 4 ls []) := by
    intro n9
    induction n9 with
    | zero =>
      intro i w1 ls hn9 hSq0 hl
      refine lv_iload_n hx hb d_M_positions_4 rfl (lv_at hl 2 rfl) ?_
      refine lv_bipush (v := 22) hx hb d_M_positions_5 (by decide) ?_
      refine lv_icmp_ge (tgt := 33) hx hb d_M_positions_7 rfl (fun hc1 => ?_) (fun hc1 => by first | exact absurd (by rw [show i = 22 by omega]; decide) hc1 | exact absurd hc1 (by rw [show i = 22 by omega]; decide))
      refine lv_iload_n hx hb d_M_positions_33 rfl (lv_at hl 1 rfl) ?_
      exact W.iret (v := w1) hx hb hr (fun t ht _ => ⟨_, rfl, ⟨trivial, (by rw [hSq0, s_M_positions_loop4]; all_goals rfl)⟩, ht⟩) (fun _ h => by cases h) d_M_positions_34
    | succ n9 ih =>
      intro i w1 ls hn9 hSq0 hl
      refine lv_iload_n hx hb d_M_positions_4 rfl (lv_at hl 2 rfl) ?_
      refine lv_bipush (v := 22) hx hb d_M_positions_5 (by decide) ?_
      refine lv_icmp_ge (tgt := 33) hx hb d_M_positions_7 rfl (fun hc2 => by first | exact absurd hc2 (fun h9 => absurd ((nI_leI (a := 22) (b := i) (by omega) (by omega)).mp h9) (by omega)) | exact absurd (fun h9 => absurd ((nI_leI (a := 22) (b := i) (by omega) (by omega)).mp h9) (by omega)) hc2) (fun hc2 => ?_)
      refine lv_iload_n hx hb d_M_positions_10 rfl (lv_at hl 1 rfl) ?_
      refine lv_iload_n hx hb d_M_positions_11 rfl (lv_at hl 0 rfl) ?_
      refine lv_iload_n hx hb d_M_positions_12 rfl (lv_at hl 2 rfl) ?_
      refine lv_ishr hx hb d_M_positions_13 ?_
      refine lv_iconst (v := 1) hx hb d_M_positions_14 (by decide) ?_
      refine lv_iand hx hb d_M_positions_15 ?_
      refine lv_iconst (v := 1) hx hb d_M_positions_16 (by decide) ?_
      refine lv_icmp_ne (tgt := 24) hx hb d_M_positions_17 rfl (fun hc3 => ?_) (fun hc3 => ?_)
      · --  ¬ ((x >>> ((nI i) &&& 31)) &&& (1 : Int32)) = 1
        refine lv_iconst (v := 0) hx hb d_M_positions_24 (by decide) ?_
        refine lv_ixor hx hb d_M_positions_25 ?_
        refine lv_istore_n hx hb d_M_positions_26 rfl hl (by decide) rfl (fun ls hl => ?_)
        replace hl : lv_has ls 3 [(1, .int (w1 ^^^ (0 : Int32))), (0, .int x), (2, .int (nI i))] := hl
        refine lv_iinc (k := 2) (v := nI (i + 1)) hx hb d_M_positions_27 hl rfl (nI_1 i) (by decide) rfl (fun ls hl => ?_)
        replace hl : lv_has ls 3 [(2, .int (nI (i + 1))), (1, .int (w1 ^^^ (0 : Int32))), (0, .int x)] := hl
        refine lv_goto (tgt := 4) hx hb d_M_positions_30 rfl ?_
        have hSq : SP = s_M_positions_loop4 x n9 (i + 1) (w1 ^^^ (0 : Int32)) := by rw [hSq0, s_M_positions_loop4]; try (rw [if_neg hc3]); all_goals rfl
        replace hl := lv_sub hl (l' := [(0, .int x), (1, .int (w1 ^^^ (0 : Int32))), (2, .int (nI (i + 1)))]) [2, 1, 0] rfl
        exact ih (i + 1) (w1 ^^^ (0 : Int32)) _ (by omega) hSq hl
      · --  ((x >>> ((nI i) &&& 31)) &&& (1 : Int32)) = 1
        refine lv_iload_n hx hb d_M_positions_20 rfl (lv_at hl 2 rfl) ?_
        refine lv_goto (tgt := 25) hx hb d_M_positions_21 rfl ?_
        refine lv_ixor hx hb d_M_positions_25 ?_
        refine lv_istore_n hx hb d_M_positions_26 rfl hl (by decide) rfl (fun ls hl => ?_)
        replace hl : lv_has ls 3 [(1, .int (w1 ^^^ (nI i))), (0, .int x), (2, .int (nI i))] := hl
        refine lv_iinc (k := 2) (v := nI (i + 1)) hx hb d_M_positions_27 hl rfl (nI_1 i) (by decide) rfl (fun ls hl => ?_)
        replace hl : lv_has ls 3 [(2, .int (nI (i + 1))), (1, .int (w1 ^^^ (nI i))), (0, .int x)] := hl
        refine lv_goto (tgt := 4) hx hb d_M_positions_30 rfl ?_
        have hSq : SP = s_M_positions_loop4 x n9 (i + 1) (w1 ^^^ (nI i)) := by rw [hSq0, s_M_positions_loop4]; try (rw [if_pos hc3]); all_goals rfl
        replace hl := lv_sub hl (l' := [(0, .int x), (1, .int (w1 ^^^ (nI i))), (2, .int (nI (i + 1)))]) [2, 1, 0] rfl
        exact ih (i + 1) (w1 ^^^ (nI i)) _ (by omega) hSq hl
  refine lv_iconst (v := 0) hx hb d_M_positions_0 (by decide) ?_
  refine lv_istore_n hx hb d_M_positions_1 rfl hl (by decide) rfl (fun ls hl => ?_)
  replace hl : lv_has ls 3 [(1, .int 0), (0, .int x)] := hl
  refine lv_iconst (v := 1) hx hb d_M_positions_2 (by decide) ?_
  refine lv_istore_n hx hb d_M_positions_3 rfl hl (by decide) rfl (fun ls hl => ?_)
  replace hl : lv_has ls 3 [(2, .int 1), (1, .int 0), (0, .int x)] := hl
  have hSq : SP = s_M_positions_loop4 x 21 1 0 := by rw [← hSP, s_M_positions]; all_goals rfl
  replace hl := lv_sub hl (l' := [(0, .int x), (1, .int 0), (2, .int 1)]) [2, 1, 0] rfl
  exact loop4 21 1 0 _ (by omega) hSq hl

set_option maxHeartbeats 4000000 in
set_option maxRecDepth 100000 in
theorem c_M_ones (l : Launch) (dC : Nat → ClassId) (dI : Nat → Nat → Nat) (x : Int32) : Met l y_M_ones (tbw y_M_ones b_M_ones 3 (some .int)) ({ frames := 0, cells := 0, slots := 0, locals := 0 }) (va_Pc [.int x] (fun _ => True)) (vp_Si (fun r => (True) ∧ r = s_M_ones x)) 0 0 (fun _ => False) := by
  refine Met.ofW (cc := b_M_ones) (maxL := 3) (ret := (some .int)) (by decide) rfl ?_
  intro p e s m args below meth c s₁ B hml hv
  obtain ⟨rfl, -⟩ := hv
  have hx := B.exec
  have hb := B.bytes
  have hr := B.returns
  have hts := atoms_spec (ws := (tbw y_M_ones b_M_ones 3 (some .int))) B.pre
  have hw : ∀ z9 ∈ tb, z9.before ([.int x] : List Value).toArray s = true := fun z9 h => hts z9 (List.mem_cons_of_mem _ h)
  have hown : s.vm.findClass "VotedTripleModel" = some m.cls := findClass_of_methodNamed B.named
  have hlocks := B.notSynchronized
  replace hl := lv_entry ([.int x]) (n := 3) (Nat.le_of_ble_eq_true rfl)
  rw [lg_entry_eq]
  generalize (lg_sl ([.int x]) ++ List.replicate (3 - (lg_sl ([.int x])).length) Slot.unset).toArray = ls at hl ⊢
  replace hl : lv_has ls 3 [(0, .int x)] := hl
  generalize hSP : s_M_ones x = SP
  have loop4 : ∀ (n9 : Nat) (i : Nat) (w1 : Int32) (ls : Array Slot), i + n9 = 22 → SP = s_M_ones_loop4 x n9 i w1 →  lv_has ls 3 [(0, .int x), (1, .int w1), (2, .int (nI i))] → W p l e (headSpec (tbw y_M_ones b_M_ones 3 (some .int)) ({ frames := 0, cells := 0, slots := 0, locals := 0 })).room s m ([.int x] : List Value).toArray below meth c s.heap [] 0 0 (MQ below (vp_Si (fun r => (True) ∧ r = SP)) ([.int x] : List Value).toArray s 0 0 (fun _ => False)) (F0 m 4 ls []) := by
    intro n9
    induction n9 with
    | zero =>
      intro i w1 ls hn9 hSq0 hl
      refine lv_iload_n hx hb d_M_ones_4 rfl (lv_at hl 2 rfl) ?_
      refine lv_bipush (v := 22) hx hb d_M_ones_5 (by decide) ?_
      refine lv_icmp_ge (tgt := 24) hx hb d_M_ones_7 rfl (fun hc1 => ?_) (fun hc1 => by first | exact absurd (by rw [show i = 22 by omega]; decide) hc1 | exact absurd hc1 (by rw [show i = 22 by omega]; decide))
      refine lv_iload_n hx hb d_M_ones_24 rfl (lv_at hl 1 rfl) ?_
      exact W.iret (v := w1) hx hb hr (fun t ht _ => ⟨_, rfl, ⟨trivial, (by rw [hSq0, s_M_ones_loop4]; all_goals rfl)⟩, ht⟩) (fun _ h => by cases h) d_M_ones_25
    | succ n9 ih =>
      intro i w1 ls hn9 hSq0 hl
      refine lv_iload_n hx hb d_M_ones_4 rfl (lv_at hl 2 rfl) ?_
      refine lv_bipush (v := 22) hx hb d_M_ones_5 (by decide) ?_
      refine lv_icmp_ge (tgt := 24) hx hb d_M_ones_7 rfl (fun hc2 => by first | exact absurd hc2 (fun h9 => absurd ((nI_leI (a := 22) (b := i) (by omega) (by omega)).mp h9) (by omega)) | exact absurd (fun h9 => absurd ((nI_leI (a := 22) (b := i) (by omega) (by omega)).mp h9) (by omega)) hc2) (fun hc2 => ?_)
      refine lv_iload_n hx hb d_M_ones_10 rfl (lv_at hl 1 rfl) ?_
      refine lv_iload_n hx hb d_M_ones_11 rfl (lv_at hl 0 rfl) ?_
      refine lv_iload_n hx hb d_M_ones_12 rfl (lv_at hl 2 rfl) ?_
      refine lv_ishr hx hb d_M_ones_13 ?_
      refine lv_iconst (v := 1) hx hb d_M_ones_14 (by decide) ?_
      refine lv_iand hx hb d_M_ones_15 ?_
      refine lv_iadd hx hb d_M_ones_16 ?_
      refine lv_istore_n hx hb d_M_ones_17 rfl hl (by decide) rfl (fun ls hl => ?_)
      replace hl : lv_has ls 3 [(1, .int (w1 + ((x >>> ((nI i) &&& 31)) &&& (1 : Int32)))), (0, .int x), (2, .int (nI i))] := hl
      refine lv_iinc (k := 2) (v := nI (i + 1)) hx hb d_M_ones_18 hl rfl (nI_1 i) (by decide) rfl (fun ls hl => ?_)
      replace hl : lv_has ls 3 [(2, .int (nI (i + 1))), (1, .int (w1 + ((x >>> ((nI i) &&& 31)) &&& (1 : Int32)))), (0, .int x)] := hl
      refine lv_goto (tgt := 4) hx hb d_M_ones_21 rfl ?_
      have hSq : SP = s_M_ones_loop4 x n9 (i + 1) (w1 + ((x >>> ((nI i) &&& 31)) &&& (1 : Int32))) := by rw [hSq0, s_M_ones_loop4]; all_goals rfl
      replace hl := lv_sub hl (l' := [(0, .int x), (1, .int (w1 + ((x >>> ((nI i) &&& 31)) &&& (1 : Int32)))), (2, .int (nI (i + 1)))]) [2, 1, 0] rfl
      exact ih (i + 1) (w1 + ((x >>> ((nI i) &&& 31)) &&& (1 : Int32))) _ (by omega) hSq hl
  refine lv_iconst (v := 0) hx hb d_M_ones_0 (by decide) ?_
  refine lv_istore_n hx hb d_M_ones_1 rfl hl (by decide) rfl (fun ls hl => ?_)
  replace hl : lv_has ls 3 [(1, .int 0), (0, .int x)] := hl
  refine lv_iconst (v := 0) hx hb d_M_ones_2 (by decide) ?_
  refine lv_istore_n hx hb d_M_ones_3 rfl hl (by decide) rfl (fun ls hl => ?_)
  replace hl : lv_has ls 3 [(2, .int 0), (1, .int 0), (0, .int x)] := hl
  have hSq : SP = s_M_ones_loop4 x 22 0 0 := by rw [← hSP, s_M_ones]; all_goals rfl
  replace hl := lv_sub hl (l' := [(0, .int x), (1, .int 0), (2, .int 0)]) [2, 1, 0] rfl
  exact loop4 22 0 0 _ (by omega) hSq hl

set_option maxHeartbeats 4000000 in
set_option maxRecDepth 100000 in
theorem c_M_encode (l : Launch) (dC : Nat → ClassId) (dI : Nat → Nat → Nat) (x : Int32) : Met l y_M_encode (tbw y_M_encode b_M_encode 5 (some .int)) ({ frames := 1, cells := 0, slots := 0, locals := 22 }) (va_Pc [.int x] (fun _ => True)) (vp_Si (fun r => (True) ∧ r = s_M_encode x)) 0 0 (fun _ => False) := by
  refine Met.ofW (cc := b_M_encode) (maxL := 5) (ret := (some .int)) (by decide) rfl ?_
  intro p e s m args below meth c s₁ B hml hv
  obtain ⟨rfl, -⟩ := hv
  have hx := B.exec
  have hb := B.bytes
  have hr := B.returns
  have hts := atoms_spec (ws := (tbw y_M_encode b_M_encode 5 (some .int))) B.pre
  have hw : ∀ z9 ∈ tb, z9.before ([.int x] : List Value).toArray s = true := fun z9 h => hts z9 (List.mem_cons_of_mem _ h)
  have hown : s.vm.findClass "VotedTripleModel" = some m.cls := findClass_of_methodNamed B.named
  have hlocks := B.notSynchronized
  replace hl := lv_entry ([.int x]) (n := 5) (Nat.le_of_ble_eq_true rfl)
  rw [lg_entry_eq]
  generalize (lg_sl ([.int x]) ++ List.replicate (5 - (lg_sl ([.int x])).length) Slot.unset).toArray = ls at hl ⊢
  replace hl : lv_has ls 5 [(0, .int x)] := hl
  generalize hSP : s_M_encode x = SP
  have loop49 : ∀ (n9 : Nat) (i : Nat) (w1 : Int32) (w3 : Int32) (ls : Array Slot), i + n9 = 5 → SP = s_M_encode_loop49 n9 i w1 w3 →  lv_has ls 5 [(1, .int w1), (3, .int w3), (4, .int (nI i))] → W p l e (headSpec (tbw y_M_encode b_M_encode 5 (some .int)) ({ frames := 1, cells := 0, slots := 0, locals := 22 })).room s m ([.int x] : List Value).toArray below meth c s.heap [] 0 0 (MQ below (vp_Si (fun r => (True) ∧ r = SP)) ([.int x] : List Value).toArray s 0 0 (fun _ => False)) (F0 m 49 ls []) := by
    intro n9
    induction n9 with
    | zero =>
      intro i w1 w3 ls hn9 hSq0 hl
      refine lv_iload hx hb d_M_encode_49 (lv_at hl 2 rfl) ?_
      refine lv_iconst (v := 5) hx hb d_M_encode_51 (by decide) ?_
      refine lv_icmp_ge (tgt := 75) hx hb d_M_encode_52 rfl (fun hc1 => ?_) (fun hc1 => by first | exact absurd (by rw [show i = 5 by omega]; decide) hc1 | exact absurd hc1 (by rw [show i = 5 by omega]; decide))
      refine lv_iload_n hx hb d_M_encode_75 rfl (lv_at hl 0 rfl) ?_
      refine lv_iload_n hx hb d_M_encode_76 rfl (lv_at hl 0 rfl) ?_
      refine vp_callSi (va_runS (As := [.int w1]) (rest := [.int w1]) ⟨hx, hb, hml, hown, hw⟩ (c_M_ones l dC dI w1) (va_cwS 1 hw (gdS (k_872) (k_870) (k_871) (k_8)) rfl rfl rfl (by decide +kernel) ⟨Nat.le_of_ble_eq_true rfl, Nat.le_of_ble_eq_true rfl⟩) ⟨fun _ _ _ _ q => q, fun _ _ _ => ⟨rfl, trivial⟩⟩ rfl rfl hl.1 rfl (lv_room (Nat.le_of_ble_eq_true rfl)) d_M_encode_77 ⟨Nat.le_of_ble_eq_true rfl, Nat.le_of_ble_eq_true rfl⟩).run (fun r2 hr3 => ?_)
      obtain ⟨hr3, hr3E⟩ := hr3
      refine lv_iconst (v := 1) hx hb d_M_encode_80 (by decide) ?_
      refine lv_iand hx hb d_M_encode_81 ?_
      refine lv_ior hx hb d_M_encode_82 ?_
      exact W.iret (v := (w1 ||| (r2 &&& (1 : Int32)))) hx hb hr (fun t ht _ => ⟨_, rfl, ⟨trivial, (by rw [hSq0, s_M_encode_loop49]; try (rw [← hr3E, bnd_eq]); all_goals rfl)⟩, ht⟩) (fun _ h => by cases h) d_M_encode_83
    | succ n9 ih =>
      intro i w1 w3 ls hn9 hSq0 hl
      refine lv_iload hx hb d_M_encode_49 (lv_at hl 2 rfl) ?_
      refine lv_iconst (v := 5) hx hb d_M_encode_51 (by decide) ?_
      refine lv_icmp_ge (tgt := 75) hx hb d_M_encode_52 rfl (fun hc4 => by first | exact absurd hc4 (fun h9 => absurd ((nI_leI (a := 5) (b := i) (by omega) (by omega)).mp h9) (by omega)) | exact absurd (fun h9 => absurd ((nI_leI (a := 5) (b := i) (by omega) (by omega)).mp h9) (by omega)) hc4) (fun hc4 => ?_)
      refine lv_iload_n hx hb d_M_encode_55 rfl (lv_at hl 0 rfl) ?_
      refine lv_iload_n hx hb d_M_encode_56 rfl (lv_at hl 1 rfl) ?_
      refine lv_iload hx hb d_M_encode_57 (lv_at hl 2 rfl) ?_
      refine lv_ishr hx hb d_M_encode_59 ?_
      refine lv_iconst (v := 1) hx hb d_M_encode_60 (by decide) ?_
      refine lv_iand hx hb d_M_encode_61 ?_
      refine lv_iconst (v := 1) hx hb d_M_encode_62 (by decide) ?_
      refine lv_iload hx hb d_M_encode_63 (lv_at hl 2 rfl) ?_
      refine lv_ishl hx hb d_M_encode_65 ?_
      refine lv_ishl hx hb d_M_encode_66 ?_
      refine lv_ior hx hb d_M_encode_67 ?_
      refine lv_istore_n hx hb d_M_encode_68 rfl hl (by decide) rfl (fun ls hl => ?_)
      replace hl : lv_has ls 5 [(1, .int (w1 ||| (((w3 >>> ((nI i) &&& 31)) &&& (1 : Int32)) <<< (((1 : Int32) <<< ((nI i) &&& 31)) &&& 31)))), (3, .int w3), (4, .int (nI i))] := hl
      refine lv_iinc (k := 2) (v := nI (i + 1)) hx hb d_M_encode_69 hl rfl (nI_1 i) (by decide) rfl (fun ls hl => ?_)
      replace hl : lv_has ls 5 [(4, .int (nI (i + 1))), (1, .int (w1 ||| (((w3 >>> ((nI i) &&& 31)) &&& (1 : Int32)) <<< (((1 : Int32) <<< ((nI i) &&& 31)) &&& 31)))), (3, .int w3)] := hl
      refine lv_goto (tgt := 49) hx hb d_M_encode_72 rfl ?_
      have hSq : SP = s_M_encode_loop49 n9 (i + 1) (w1 ||| (((w3 >>> ((nI i) &&& 31)) &&& (1 : Int32)) <<< (((1 : Int32) <<< ((nI i) &&& 31)) &&& 31))) w3 := by rw [hSq0, s_M_encode_loop49]; all_goals rfl
      replace hl := lv_sub hl (l' := [(1, .int (w1 ||| (((w3 >>> ((nI i) &&& 31)) &&& (1 : Int32)) <<< (((1 : Int32) <<< ((nI i) &&& 31)) &&& 31)))), (3, .int w3), (4, .int (nI (i + 1)))]) [1, 2, 0] rfl
      exact ih (i + 1) (w1 ||| (((w3 >>> ((nI i) &&& 31)) &&& (1 : Int32)) <<< (((1 : Int32) <<< ((nI i) &&& 31)) &&& 31))) w3 _ (by omega) hSq hl
  have loop6 : ∀ (n9 : Nat) (i : Nat) (w1 : Int32) (w2 : Int32) (ls : Array Slot), i + n9 = 22 → SP = s_M_encode_loop6 x n9 i w1 w2 →  lv_has ls 5 [(0, .int x), (1, .int w1), (2, .int w2), (3, .int (nI i))] → W p l e (headSpec (tbw y_M_encode b_M_encode 5 (some .int)) ({ frames := 1, cells := 0, slots := 0, locals := 22 })).room s m ([.int x] : List Value).toArray below meth c s.heap [] 0 0 (MQ below (vp_Si (fun r => (True) ∧ r = SP)) ([.int x] : List Value).toArray s 0 0 (fun _ => False)) (F0 m 6 ls []) := by
    intro n9
    induction n9 with
    | zero =>
      intro i w1 w2 ls hn9 hSq0 hl
      refine lv_iload_n hx hb d_M_encode_6 rfl (lv_at hl 3 rfl) ?_
      refine lv_bipush (v := 22) hx hb d_M_encode_7 (by decide) ?_
      refine lv_icmp_ge (tgt := 41) hx hb d_M_encode_9 rfl (fun hc5 => ?_) (fun hc5 => by first | exact absurd (by rw [show i = 22 by omega]; decide) hc5 | exact absurd hc5 (by rw [show i = 22 by omega]; decide))
      refine lv_iload_n hx hb d_M_encode_41 rfl (lv_at hl 1 rfl) ?_
      refine vp_callSi (va_runS (As := [.int w1]) (rest := []) ⟨hx, hb, hml, hown, hw⟩ (c_M_positions l dC dI w1) (va_cwS 1 hw (gdS (k_869) (k_867) (k_868) (k_8)) rfl rfl rfl (by decide +kernel) ⟨Nat.le_of_ble_eq_true rfl, Nat.le_of_ble_eq_true rfl⟩) ⟨fun _ _ _ _ q => q, fun _ _ _ => ⟨rfl, trivial⟩⟩ rfl rfl hl.1 rfl (lv_room (Nat.le_of_ble_eq_true rfl)) d_M_encode_42 ⟨Nat.le_of_ble_eq_true rfl, Nat.le_of_ble_eq_true rfl⟩).run (fun r6 hr7 => ?_)
      obtain ⟨hr7, hr7E⟩ := hr7
      refine lv_istore_n hx hb d_M_encode_45 rfl hl (by decide) rfl (fun ls hl => ?_)
      replace hl : lv_has ls 5 [(3, .int r6), (0, .int x), (1, .int w1), (2, .int w2)] := hl
      refine lv_iconst (v := 0) hx hb d_M_encode_46 (by decide) ?_
      refine lv_istore hx hb d_M_encode_47 hl (by decide) rfl (fun ls hl => ?_)
      replace hl : lv_has ls 5 [(4, .int 0), (3, .int r6), (0, .int x), (1, .int w1), (2, .int w2)] := hl
      have hSq : SP = s_M_encode_loop49 5 0 w1 r6 := by rw [hSq0, s_M_encode_loop6]; try (rw [← hr7E, bnd_eq]); all_goals rfl
      replace hl := lv_sub hl (l' := [(1, .int w1), (3, .int r6), (4, .int 0)]) [3, 1, 0] rfl
      exact loop49 5 0 w1 r6 _ (by omega) hSq hl
    | succ n9 ih =>
      intro i w1 w2 ls hn9 hSq0 hl
      refine lv_iload_n hx hb d_M_encode_6 rfl (lv_at hl 3 rfl) ?_
      refine lv_bipush (v := 22) hx hb d_M_encode_7 (by decide) ?_
      refine lv_icmp_ge (tgt := 41) hx hb d_M_encode_9 rfl (fun hc8 => by first | exact absurd hc8 (fun h9 => absurd ((nI_leI (a := 22) (b := i) (by omega) (by omega)).mp h9) (by omega)) | exact absurd (fun h9 => absurd ((nI_leI (a := 22) (b := i) (by omega) (by omega)).mp h9) (by omega)) hc8) (fun hc8 => ?_)
      refine lv_iload_n hx hb d_M_encode_12 rfl (lv_at hl 3 rfl) ?_
      refine vp_callSi (va_runS (As := [.int (nI i)]) (rest := []) ⟨hx, hb, hml, hown, hw⟩ (c_M_isDataV l dC dI (nI i)) (va_cwS 1 hw (gdS (k_866) (k_864) (k_865) (k_8)) rfl rfl rfl (by decide +kernel) ⟨Nat.le_of_ble_eq_true rfl, Nat.le_of_ble_eq_true rfl⟩) ⟨fun _ _ _ _ q => q, fun _ _ _ => ⟨rfl, trivial⟩⟩ rfl rfl hl.1 rfl (lv_room (Nat.le_of_ble_eq_true rfl)) d_M_encode_13 ⟨Nat.le_of_ble_eq_true rfl, Nat.le_of_ble_eq_true rfl⟩).run (fun r9 hr10 => ?_)
      subst hr10
      refine lv_if_ne (tgt := 22) hx hb d_M_encode_16 rfl (fun hc11 => ?_) (fun hc11 => ?_)
      · --  ¬ (bI (idB (nI i))) = 0
        refine lv_iload_n hx hb d_M_encode_22 rfl (lv_at hl 1 rfl) ?_
        refine lv_iload_n hx hb d_M_encode_23 rfl (lv_at hl 0 rfl) ?_
        refine lv_iload_n hx hb d_M_encode_24 rfl (lv_at hl 2 rfl) ?_
        refine lv_ishr hx hb d_M_encode_25 ?_
        refine lv_iconst (v := 1) hx hb d_M_encode_26 (by decide) ?_
        refine lv_iand hx hb d_M_encode_27 ?_
        refine lv_iload_n hx hb d_M_encode_28 rfl (lv_at hl 3 rfl) ?_
        refine lv_ishl hx hb d_M_encode_29 ?_
        refine lv_ior hx hb d_M_encode_30 ?_
        refine lv_istore_n hx hb d_M_encode_31 rfl hl (by decide) rfl (fun ls hl => ?_)
        replace hl : lv_has ls 5 [(1, .int (w1 ||| (((x >>> (w2 &&& 31)) &&& (1 : Int32)) <<< ((nI i) &&& 31)))), (0, .int x), (2, .int w2), (3, .int (nI i))] := hl
        refine lv_iinc (k := 2) (v := w2 + 1) hx hb d_M_encode_32 hl rfl rfl (by decide) rfl (fun ls hl => ?_)
        replace hl : lv_has ls 5 [(2, .int (w2 + 1)), (1, .int (w1 ||| (((x >>> (w2 &&& 31)) &&& (1 : Int32)) <<< ((nI i) &&& 31)))), (0, .int x), (3, .int (nI i))] := hl
        refine lv_iinc (k := 3) (v := nI (i + 1)) hx hb d_M_encode_35 hl rfl (nI_1 i) (by decide) rfl (fun ls hl => ?_)
        replace hl : lv_has ls 5 [(3, .int (nI (i + 1))), (2, .int (w2 + 1)), (1, .int (w1 ||| (((x >>> (w2 &&& 31)) &&& (1 : Int32)) <<< ((nI i) &&& 31)))), (0, .int x)] := hl
        refine lv_goto (tgt := 6) hx hb d_M_encode_38 rfl ?_
        have hSq : SP = s_M_encode_loop6 x n9 (i + 1) (w1 ||| (((x >>> (w2 &&& 31)) &&& (1 : Int32)) <<< ((nI i) &&& 31))) (w2 + 1) := by rw [hSq0, s_M_encode_loop6]; try (rw [if_neg hc11]); all_goals rfl
        replace hl := lv_sub hl (l' := [(0, .int x), (1, .int (w1 ||| (((x >>> (w2 &&& 31)) &&& (1 : Int32)) <<< ((nI i) &&& 31)))), (2, .int (w2 + 1)), (3, .int (nI (i + 1)))]) [3, 2, 1, 0] rfl
        exact ih (i + 1) (w1 ||| (((x >>> (w2 &&& 31)) &&& (1 : Int32)) <<< ((nI i) &&& 31))) (w2 + 1) _ (by omega) hSq hl
      · --  (bI (idB (nI i))) = 0
        refine lv_goto (tgt := 35) hx hb d_M_encode_19 rfl ?_
        refine lv_iinc (k := 3) (v := nI (i + 1)) hx hb d_M_encode_35 hl rfl (nI_1 i) (by decide) rfl (fun ls hl => ?_)
        replace hl : lv_has ls 5 [(3, .int (nI (i + 1))), (0, .int x), (1, .int w1), (2, .int w2)] := hl
        refine lv_goto (tgt := 6) hx hb d_M_encode_38 rfl ?_
        have hSq : SP = s_M_encode_loop6 x n9 (i + 1) w1 w2 := by rw [hSq0, s_M_encode_loop6]; try (rw [if_pos hc11]); all_goals rfl
        replace hl := lv_sub hl (l' := [(0, .int x), (1, .int w1), (2, .int w2), (3, .int (nI (i + 1)))]) [1, 2, 3, 0] rfl
        exact ih (i + 1) w1 w2 _ (by omega) hSq hl
  clear loop49
  refine lv_iconst (v := 0) hx hb d_M_encode_0 (by decide) ?_
  refine lv_istore_n hx hb d_M_encode_1 rfl hl (by decide) rfl (fun ls hl => ?_)
  replace hl : lv_has ls 5 [(1, .int 0), (0, .int x)] := hl
  refine lv_iconst (v := 0) hx hb d_M_encode_2 (by decide) ?_
  refine lv_istore_n hx hb d_M_encode_3 rfl hl (by decide) rfl (fun ls hl => ?_)
  replace hl : lv_has ls 5 [(2, .int 0), (1, .int 0), (0, .int x)] := hl
  refine lv_iconst (v := 1) hx hb d_M_encode_4 (by decide) ?_
  refine lv_istore_n hx hb d_M_encode_5 rfl hl (by decide) rfl (fun ls hl => ?_)
  replace hl : lv_has ls 5 [(3, .int 1), (2, .int 0), (1, .int 0), (0, .int x)] := hl
  have hSq : SP = s_M_encode_loop6 x 21 1 0 0 := by rw [← hSP, s_M_encode]; all_goals rfl
  replace hl := lv_sub hl (l' := [(0, .int x), (1, .int 0), (2, .int 0), (3, .int 1)]) [3, 2, 1, 0] rfl
  exact loop6 21 1 0 0 _ (by omega) hSq hl

set_option maxHeartbeats 4000000 in
set_option maxRecDepth 100000 in
theorem c_M_decode (l : Launch) (dC : Nat → ClassId) (dI : Nat → Nat → Nat) (x : Int32) : Met l y_M_decode (tbw y_M_decode b_M_decode 4 (some .int)) ({ frames := 1, cells := 0, slots := 0, locals := 20 }) (va_Pc [.int x] (fun _ => True)) (vp_Si (fun r => (is16 r) ∧ r = s_M_decode x)) 0 0 (fun _ => False) := by
  refine Met.ofW (cc := b_M_decode) (maxL := 4) (ret := (some .int)) (by decide) rfl ?_
  intro p e s m args below meth c s₁ B hml hv
  obtain ⟨rfl, -⟩ := hv
  have hx := B.exec
  have hb := B.bytes
  have hr := B.returns
  have hts := atoms_spec (ws := (tbw y_M_decode b_M_decode 4 (some .int))) B.pre
  have hw : ∀ z9 ∈ tb, z9.before ([.int x] : List Value).toArray s = true := fun z9 h => hts z9 (List.mem_cons_of_mem _ h)
  have hown : s.vm.findClass "VotedTripleModel" = some m.cls := findClass_of_methodNamed B.named
  have hlocks := B.notSynchronized
  replace hl := lv_entry ([.int x]) (n := 4) (Nat.le_of_ble_eq_true rfl)
  rw [lg_entry_eq]
  generalize (lg_sl ([.int x]) ++ List.replicate (4 - (lg_sl ([.int x])).length) Slot.unset).toArray = ls at hl ⊢
  replace hl : lv_has ls 4 [(0, .int x)] := hl
  generalize hSP : s_M_decode x = SP
  have cut22 : ∀ (w1 : Int32) (ls : Array Slot), is16 w1 → SP = s_M_decode_cut22 w1 →  lv_has ls 4 [(0, .int x), (1, .int w1), (2, .int 16), (3, .int 22)] → W p l e (headSpec (tbw y_M_decode b_M_decode 4 (some .int)) ({ frames := 1, cells := 0, slots := 0, locals := 20 })).room s m ([.int x] : List Value).toArray below meth c s.heap [] 0 0 (MQ below (vp_Si (fun r => (is16 r) ∧ r = SP)) ([.int x] : List Value).toArray s 0 0 (fun _ => False)) (F0 m 6 ls []) := by
    intro w1 ls hw1 hSq0 hl
    refine lv_iload_n hx hb d_M_decode_6 rfl (lv_at hl 3 rfl) ?_
    refine lv_bipush (v := 22) hx hb d_M_decode_7 (by decide) ?_
    refine lv_icmp_ge (tgt := 41) hx hb d_M_decode_9 rfl (fun hc1 => ?_) (fun hc1 => by first | exact absurd (by decide) hc1 | exact absurd hc1 (by decide))
    refine lv_iload_n hx hb d_M_decode_41 rfl (lv_at hl 1 rfl) ?_
    exact W.iret (v := w1) hx hb hr (fun t ht _ => ⟨_, rfl, ⟨hw1, (by rw [hSq0, s_M_decode_cut22]; all_goals rfl)⟩, ht⟩) (fun _ h => by cases h) d_M_decode_42
  have cut21 : ∀ (w1 : Int32) (ls : Array Slot), is16 w1 → SP = s_M_decode_cut21 x w1 →  lv_has ls 4 [(0, .int x), (1, .int w1), (2, .int 15), (3, .int 21)] → W p l e (headSpec (tbw y_M_decode b_M_decode 4 (some .int)) ({ frames := 1, cells := 0, slots := 0, locals := 20 })).room s m ([.int x] : List Value).toArray below meth c s.heap [] 0 0 (MQ below (vp_Si (fun r => (is16 r) ∧ r = SP)) ([.int x] : List Value).toArray s 0 0 (fun _ => False)) (F0 m 6 ls []) := by
    intro w1 ls hw1 hSq0 hl
    refine lv_iload_n hx hb d_M_decode_6 rfl (lv_at hl 3 rfl) ?_
    refine lv_bipush (v := 22) hx hb d_M_decode_7 (by decide) ?_
    refine lv_icmp_ge (tgt := 41) hx hb d_M_decode_9 rfl (fun hc2 => by first | exact absurd hc2 (by decide) | exact absurd (by decide) hc2) (fun hc2 => ?_)
    refine lv_iload_n hx hb d_M_decode_12 rfl (lv_at hl 3 rfl) ?_
    refine vp_callSi (va_runS (As := [.int 21]) (rest := []) ⟨hx, hb, hml, hown, hw⟩ (c_M_isDataV l dC dI 21) (va_cwS 1 hw (gdS (k_866) (k_864) (k_865) (k_8)) rfl rfl rfl (by decide +kernel) ⟨Nat.le_of_ble_eq_true rfl, Nat.le_of_ble_eq_true rfl⟩) ⟨fun _ _ _ _ q => q, fun _ _ _ => ⟨rfl, trivial⟩⟩ rfl rfl hl.1 rfl (lv_room (Nat.le_of_ble_eq_true rfl)) d_M_decode_13 ⟨Nat.le_of_ble_eq_true rfl, Nat.le_of_ble_eq_true rfl⟩).run (fun r3 hr4 => ?_)
    subst hr4
    refine W.eq (g2 := F0 m 16 ls [.int 1]) rfl ?_
    refine lv_if_ne (tgt := 22) hx hb d_M_decode_16 rfl (fun hc5 => ?_) (fun hc5 => by first | exact absurd (by decide) hc5 | exact absurd hc5 (by decide))
    refine lv_iload_n hx hb d_M_decode_22 rfl (lv_at hl 1 rfl) ?_
    refine lv_iload_n hx hb d_M_decode_23 rfl (lv_at hl 0 rfl) ?_
    refine lv_iload_n hx hb d_M_decode_24 rfl (lv_at hl 3 rfl) ?_
    refine lv_ishr hx hb d_M_decode_25 ?_
    refine lv_iconst (v := 1) hx hb d_M_decode_26 (by decide) ?_
    refine lv_iand hx hb d_M_decode_27 ?_
    refine lv_iload_n hx hb d_M_decode_28 rfl (lv_at hl 2 rfl) ?_
    refine lv_ishl hx hb d_M_decode_29 ?_
    refine lv_ior hx hb d_M_decode_30 ?_
    refine lv_istore_n hx hb d_M_decode_31 rfl hl (by decide) rfl (fun ls hl => ?_)
    replace hl : lv_has ls 4 [(1, .int (w1 ||| (((x >>> ((21 : Int32) &&& 31)) &&& (1 : Int32)) <<< ((15 : Int32) &&& 31)))), (0, .int x), (2, .int 15), (3, .int 21)] := hl
    refine lv_iinc (k := 2) (v := 16) hx hb d_M_decode_32 hl rfl rfl (by decide) rfl (fun ls hl => ?_)
    replace hl : lv_has ls 4 [(2, .int 16), (1, .int (w1 ||| (((x >>> ((21 : Int32) &&& 31)) &&& (1 : Int32)) <<< ((15 : Int32) &&& 31)))), (0, .int x), (3, .int 21)] := hl
    refine lv_iinc (k := 3) (v := 22) hx hb d_M_decode_35 hl rfl rfl (by decide) rfl (fun ls hl => ?_)
    replace hl : lv_has ls 4 [(3, .int 22), (2, .int 16), (1, .int (w1 ||| (((x >>> ((21 : Int32) &&& 31)) &&& (1 : Int32)) <<< ((15 : Int32) &&& 31)))), (0, .int x)] := hl
    refine lv_goto (tgt := 6) hx hb d_M_decode_38 rfl ?_
    have hSq : SP = s_M_decode_cut22 (w1 ||| (((x >>> ((21 : Int32) &&& 31)) &&& (1 : Int32)) <<< ((15 : Int32) &&& 31))) := by rw [hSq0, s_M_decode_cut21]; all_goals rfl
    replace hl := lv_sub hl (l' := [(0, .int x), (1, .int (w1 ||| (((x >>> ((21 : Int32) &&& 31)) &&& (1 : Int32)) <<< ((15 : Int32) &&& 31)))), (2, .int 16), (3, .int 22)]) [3, 2, 1, 0] rfl
    exact cut22 (w1 ||| (((x >>> ((21 : Int32) &&& 31)) &&& (1 : Int32)) <<< ((15 : Int32) &&& 31))) _ (is16_or hw1 (is16_sh (k := 15) (by decide))) hSq hl
  have cut20 : ∀ (w1 : Int32) (ls : Array Slot), is16 w1 → SP = s_M_decode_cut20 x w1 →  lv_has ls 4 [(0, .int x), (1, .int w1), (2, .int 14), (3, .int 20)] → W p l e (headSpec (tbw y_M_decode b_M_decode 4 (some .int)) ({ frames := 1, cells := 0, slots := 0, locals := 20 })).room s m ([.int x] : List Value).toArray below meth c s.heap [] 0 0 (MQ below (vp_Si (fun r => (is16 r) ∧ r = SP)) ([.int x] : List Value).toArray s 0 0 (fun _ => False)) (F0 m 6 ls []) := by
    intro w1 ls hw1 hSq0 hl
    clear cut22
    refine lv_iload_n hx hb d_M_decode_6 rfl (lv_at hl 3 rfl) ?_
    refine lv_bipush (v := 22) hx hb d_M_decode_7 (by decide) ?_
    refine lv_icmp_ge (tgt := 41) hx hb d_M_decode_9 rfl (fun hc6 => by first | exact absurd hc6 (by decide) | exact absurd (by decide) hc6) (fun hc6 => ?_)
    refine lv_iload_n hx hb d_M_decode_12 rfl (lv_at hl 3 rfl) ?_
    refine vp_callSi (va_runS (As := [.int 20]) (rest := []) ⟨hx, hb, hml, hown, hw⟩ (c_M_isDataV l dC dI 20) (va_cwS 1 hw (gdS (k_866) (k_864) (k_865) (k_8)) rfl rfl rfl (by decide +kernel) ⟨Nat.le_of_ble_eq_true rfl, Nat.le_of_ble_eq_true rfl⟩) ⟨fun _ _ _ _ q => q, fun _ _ _ => ⟨rfl, trivial⟩⟩ rfl rfl hl.1 rfl (lv_room (Nat.le_of_ble_eq_true rfl)) d_M_decode_13 ⟨Nat.le_of_ble_eq_true rfl, Nat.le_of_ble_eq_true rfl⟩).run (fun r7 hr8 => ?_)
    subst hr8
    refine W.eq (g2 := F0 m 16 ls [.int 1]) rfl ?_
    refine lv_if_ne (tgt := 22) hx hb d_M_decode_16 rfl (fun hc9 => ?_) (fun hc9 => by first | exact absurd (by decide) hc9 | exact absurd hc9 (by decide))
    refine lv_iload_n hx hb d_M_decode_22 rfl (lv_at hl 1 rfl) ?_
    refine lv_iload_n hx hb d_M_decode_23 rfl (lv_at hl 0 rfl) ?_
    refine lv_iload_n hx hb d_M_decode_24 rfl (lv_at hl 3 rfl) ?_
    refine lv_ishr hx hb d_M_decode_25 ?_
    refine lv_iconst (v := 1) hx hb d_M_decode_26 (by decide) ?_
    refine lv_iand hx hb d_M_decode_27 ?_
    refine lv_iload_n hx hb d_M_decode_28 rfl (lv_at hl 2 rfl) ?_
    refine lv_ishl hx hb d_M_decode_29 ?_
    refine lv_ior hx hb d_M_decode_30 ?_
    refine lv_istore_n hx hb d_M_decode_31 rfl hl (by decide) rfl (fun ls hl => ?_)
    replace hl : lv_has ls 4 [(1, .int (w1 ||| (((x >>> ((20 : Int32) &&& 31)) &&& (1 : Int32)) <<< ((14 : Int32) &&& 31)))), (0, .int x), (2, .int 14), (3, .int 20)] := hl
    refine lv_iinc (k := 2) (v := 15) hx hb d_M_decode_32 hl rfl rfl (by decide) rfl (fun ls hl => ?_)
    replace hl : lv_has ls 4 [(2, .int 15), (1, .int (w1 ||| (((x >>> ((20 : Int32) &&& 31)) &&& (1 : Int32)) <<< ((14 : Int32) &&& 31)))), (0, .int x), (3, .int 20)] := hl
    refine lv_iinc (k := 3) (v := 21) hx hb d_M_decode_35 hl rfl rfl (by decide) rfl (fun ls hl => ?_)
    replace hl : lv_has ls 4 [(3, .int 21), (2, .int 15), (1, .int (w1 ||| (((x >>> ((20 : Int32) &&& 31)) &&& (1 : Int32)) <<< ((14 : Int32) &&& 31)))), (0, .int x)] := hl
    refine lv_goto (tgt := 6) hx hb d_M_decode_38 rfl ?_
    have hSq : SP = s_M_decode_cut21 x (w1 ||| (((x >>> ((20 : Int32) &&& 31)) &&& (1 : Int32)) <<< ((14 : Int32) &&& 31))) := by rw [hSq0, s_M_decode_cut20]; all_goals rfl
    replace hl := lv_sub hl (l' := [(0, .int x), (1, .int (w1 ||| (((x >>> ((20 : Int32) &&& 31)) &&& (1 : Int32)) <<< ((14 : Int32) &&& 31)))), (2, .int 15), (3, .int 21)]) [3, 2, 1, 0] rfl
    exact cut21 (w1 ||| (((x >>> ((20 : Int32) &&& 31)) &&& (1 : Int32)) <<< ((14 : Int32) &&& 31))) _ (is16_or hw1 (is16_sh (k := 14) (by decide))) hSq hl
  have cut19 : ∀ (w1 : Int32) (ls : Array Slot), is16 w1 → SP = s_M_decode_cut19 x w1 →  lv_has ls 4 [(0, .int x), (1, .int w1), (2, .int 13), (3, .int 19)] → W p l e (headSpec (tbw y_M_decode b_M_decode 4 (some .int)) ({ frames := 1, cells := 0, slots := 0, locals := 20 })).room s m ([.int x] : List Value).toArray below meth c s.heap [] 0 0 (MQ below (vp_Si (fun r => (is16 r) ∧ r = SP)) ([.int x] : List Value).toArray s 0 0 (fun _ => False)) (F0 m 6 ls []) := by
    intro w1 ls hw1 hSq0 hl
    clear cut22 cut21
    refine lv_iload_n hx hb d_M_decode_6 rfl (lv_at hl 3 rfl) ?_
    refine lv_bipush (v := 22) hx hb d_M_decode_7 (by decide) ?_
    refine lv_icmp_ge (tgt := 41) hx hb d_M_decode_9 rfl (fun hc10 => by first | exact absurd hc10 (by decide) | exact absurd (by decide) hc10) (fun hc10 => ?_)
    refine lv_iload_n hx hb d_M_decode_12 rfl (lv_at hl 3 rfl) ?_
    refine vp_callSi (va_runS (As := [.int 19]) (rest := []) ⟨hx, hb, hml, hown, hw⟩ (c_M_isDataV l dC dI 19) (va_cwS 1 hw (gdS (k_866) (k_864) (k_865) (k_8)) rfl rfl rfl (by decide +kernel) ⟨Nat.le_of_ble_eq_true rfl, Nat.le_of_ble_eq_true rfl⟩) ⟨fun _ _ _ _ q => q, fun _ _ _ => ⟨rfl, trivial⟩⟩ rfl rfl hl.1 rfl (lv_room (Nat.le_of_ble_eq_true rfl)) d_M_decode_13 ⟨Nat.le_of_ble_eq_true rfl, Nat.le_of_ble_eq_true rfl⟩).run (fun r11 hr12 => ?_)
    subst hr12
    refine W.eq (g2 := F0 m 16 ls [.int 1]) rfl ?_
    refine lv_if_ne (tgt := 22) hx hb d_M_decode_16 rfl (fun hc13 => ?_) (fun hc13 => by first | exact absurd (by decide) hc13 | exact absurd hc13 (by decide))
    refine lv_iload_n hx hb d_M_decode_22 rfl (lv_at hl 1 rfl) ?_
    refine lv_iload_n hx hb d_M_decode_23 rfl (lv_at hl 0 rfl) ?_
    refine lv_iload_n hx hb d_M_decode_24 rfl (lv_at hl 3 rfl) ?_
    refine lv_ishr hx hb d_M_decode_25 ?_
    refine lv_iconst (v := 1) hx hb d_M_decode_26 (by decide) ?_
    refine lv_iand hx hb d_M_decode_27 ?_
    refine lv_iload_n hx hb d_M_decode_28 rfl (lv_at hl 2 rfl) ?_
    refine lv_ishl hx hb d_M_decode_29 ?_
    refine lv_ior hx hb d_M_decode_30 ?_
    refine lv_istore_n hx hb d_M_decode_31 rfl hl (by decide) rfl (fun ls hl => ?_)
    replace hl : lv_has ls 4 [(1, .int (w1 ||| (((x >>> ((19 : Int32) &&& 31)) &&& (1 : Int32)) <<< ((13 : Int32) &&& 31)))), (0, .int x), (2, .int 13), (3, .int 19)] := hl
    refine lv_iinc (k := 2) (v := 14) hx hb d_M_decode_32 hl rfl rfl (by decide) rfl (fun ls hl => ?_)
    replace hl : lv_has ls 4 [(2, .int 14), (1, .int (w1 ||| (((x >>> ((19 : Int32) &&& 31)) &&& (1 : Int32)) <<< ((13 : Int32) &&& 31)))), (0, .int x), (3, .int 19)] := hl
    refine lv_iinc (k := 3) (v := 20) hx hb d_M_decode_35 hl rfl rfl (by decide) rfl (fun ls hl => ?_)
    replace hl : lv_has ls 4 [(3, .int 20), (2, .int 14), (1, .int (w1 ||| (((x >>> ((19 : Int32) &&& 31)) &&& (1 : Int32)) <<< ((13 : Int32) &&& 31)))), (0, .int x)] := hl
    refine lv_goto (tgt := 6) hx hb d_M_decode_38 rfl ?_
    have hSq : SP = s_M_decode_cut20 x (w1 ||| (((x >>> ((19 : Int32) &&& 31)) &&& (1 : Int32)) <<< ((13 : Int32) &&& 31))) := by rw [hSq0, s_M_decode_cut19]; all_goals rfl
    replace hl := lv_sub hl (l' := [(0, .int x), (1, .int (w1 ||| (((x >>> ((19 : Int32) &&& 31)) &&& (1 : Int32)) <<< ((13 : Int32) &&& 31)))), (2, .int 14), (3, .int 20)]) [3, 2, 1, 0] rfl
    exact cut20 (w1 ||| (((x >>> ((19 : Int32) &&& 31)) &&& (1 : Int32)) <<< ((13 : Int32) &&& 31))) _ (is16_or hw1 (is16_sh (k := 13) (by decide))) hSq hl
  have cut18 : ∀ (w1 : Int32) (ls : Array Slot), is16 w1 → SP = s_M_decode_cut18 x w1 →  lv_has ls 4 [(0, .int x), (1, .int w1), (2, .int 12), (3, .int 18)] → W p l e (headSpec (tbw y_M_decode b_M_decode 4 (some .int)) ({ frames := 1, cells := 0, slots := 0, locals := 20 })).room s m ([.int x] : List Value).toArray below meth c s.heap [] 0 0 (MQ below (vp_Si (fun r => (is16 r) ∧ r = SP)) ([.int x] : List Value).toArray s 0 0 (fun _ => False)) (F0 m 6 ls []) := by
    intro w1 ls hw1 hSq0 hl
    clear cut22 cut21 cut20
    refine lv_iload_n hx hb d_M_decode_6 rfl (lv_at hl 3 rfl) ?_
    refine lv_bipush (v := 22) hx hb d_M_decode_7 (by decide) ?_
    refine lv_icmp_ge (tgt := 41) hx hb d_M_decode_9 rfl (fun hc14 => by first | exact absurd hc14 (by decide) | exact absurd (by decide) hc14) (fun hc14 => ?_)
    refine lv_iload_n hx hb d_M_decode_12 rfl (lv_at hl 3 rfl) ?_
    refine vp_callSi (va_runS (As := [.int 18]) (rest := []) ⟨hx, hb, hml, hown, hw⟩ (c_M_isDataV l dC dI 18) (va_cwS 1 hw (gdS (k_866) (k_864) (k_865) (k_8)) rfl rfl rfl (by decide +kernel) ⟨Nat.le_of_ble_eq_true rfl, Nat.le_of_ble_eq_true rfl⟩) ⟨fun _ _ _ _ q => q, fun _ _ _ => ⟨rfl, trivial⟩⟩ rfl rfl hl.1 rfl (lv_room (Nat.le_of_ble_eq_true rfl)) d_M_decode_13 ⟨Nat.le_of_ble_eq_true rfl, Nat.le_of_ble_eq_true rfl⟩).run (fun r15 hr16 => ?_)
    subst hr16
    refine W.eq (g2 := F0 m 16 ls [.int 1]) rfl ?_
    refine lv_if_ne (tgt := 22) hx hb d_M_decode_16 rfl (fun hc17 => ?_) (fun hc17 => by first | exact absurd (by decide) hc17 | exact absurd hc17 (by decide))
    refine lv_iload_n hx hb d_M_decode_22 rfl (lv_at hl 1 rfl) ?_
    refine lv_iload_n hx hb d_M_decode_23 rfl (lv_at hl 0 rfl) ?_
    refine lv_iload_n hx hb d_M_decode_24 rfl (lv_at hl 3 rfl) ?_
    refine lv_ishr hx hb d_M_decode_25 ?_
    refine lv_iconst (v := 1) hx hb d_M_decode_26 (by decide) ?_
    refine lv_iand hx hb d_M_decode_27 ?_
    refine lv_iload_n hx hb d_M_decode_28 rfl (lv_at hl 2 rfl) ?_
    refine lv_ishl hx hb d_M_decode_29 ?_
    refine lv_ior hx hb d_M_decode_30 ?_
    refine lv_istore_n hx hb d_M_decode_31 rfl hl (by decide) rfl (fun ls hl => ?_)
    replace hl : lv_has ls 4 [(1, .int (w1 ||| (((x >>> ((18 : Int32) &&& 31)) &&& (1 : Int32)) <<< ((12 : Int32) &&& 31)))), (0, .int x), (2, .int 12), (3, .int 18)] := hl
    refine lv_iinc (k := 2) (v := 13) hx hb d_M_decode_32 hl rfl rfl (by decide) rfl (fun ls hl => ?_)
    replace hl : lv_has ls 4 [(2, .int 13), (1, .int (w1 ||| (((x >>> ((18 : Int32) &&& 31)) &&& (1 : Int32)) <<< ((12 : Int32) &&& 31)))), (0, .int x), (3, .int 18)] := hl
    refine lv_iinc (k := 3) (v := 19) hx hb d_M_decode_35 hl rfl rfl (by decide) rfl (fun ls hl => ?_)
    replace hl : lv_has ls 4 [(3, .int 19), (2, .int 13), (1, .int (w1 ||| (((x >>> ((18 : Int32) &&& 31)) &&& (1 : Int32)) <<< ((12 : Int32) &&& 31)))), (0, .int x)] := hl
    refine lv_goto (tgt := 6) hx hb d_M_decode_38 rfl ?_
    have hSq : SP = s_M_decode_cut19 x (w1 ||| (((x >>> ((18 : Int32) &&& 31)) &&& (1 : Int32)) <<< ((12 : Int32) &&& 31))) := by rw [hSq0, s_M_decode_cut18]; all_goals rfl
    replace hl := lv_sub hl (l' := [(0, .int x), (1, .int (w1 ||| (((x >>> ((18 : Int32) &&& 31)) &&& (1 : Int32)) <<< ((12 : Int32) &&& 31)))), (2, .int 13), (3, .int 19)]) [3, 2, 1, 0] rfl
    exact cut19 (w1 ||| (((x >>> ((18 : Int32) &&& 31)) &&& (1 : Int32)) <<< ((12 : Int32) &&& 31))) _ (is16_or hw1 (is16_sh (k := 12) (by decide))) hSq hl
  have cut17 : ∀ (w1 : Int32) (ls : Array Slot), is16 w1 → SP = s_M_decode_cut17 x w1 →  lv_has ls 4 [(0, .int x), (1, .int w1), (2, .int 11), (3, .int 17)] → W p l e (headSpec (tbw y_M_decode b_M_decode 4 (some .int)) ({ frames := 1, cells := 0, slots := 0, locals := 20 })).room s m ([.int x] : List Value).toArray below meth c s.heap [] 0 0 (MQ below (vp_Si (fun r => (is16 r) ∧ r = SP)) ([.int x] : List Value).toArray s 0 0 (fun _ => False)) (F0 m 6 ls []) := by
    intro w1 ls hw1 hSq0 hl
    clear cut22 cut21 cut20 cut19
    refine lv_iload_n hx hb d_M_decode_6 rfl (lv_at hl 3 rfl) ?_
    refine lv_bipush (v := 22) hx hb d_M_decode_7 (by decide) ?_
    refine lv_icmp_ge (tgt := 41) hx hb d_M_decode_9 rfl (fun hc18 => by first | exact absurd hc18 (by decide) | exact absurd (by decide) hc18) (fun hc18 => ?_)
    refine lv_iload_n hx hb d_M_decode_12 rfl (lv_at hl 3 rfl) ?_
    refine vp_callSi (va_runS (As := [.int 17]) (rest := []) ⟨hx, hb, hml, hown, hw⟩ (c_M_isDataV l dC dI 17) (va_cwS 1 hw (gdS (k_866) (k_864) (k_865) (k_8)) rfl rfl rfl (by decide +kernel) ⟨Nat.le_of_ble_eq_true rfl, Nat.le_of_ble_eq_true rfl⟩) ⟨fun _ _ _ _ q => q, fun _ _ _ => ⟨rfl, trivial⟩⟩ rfl rfl hl.1 rfl (lv_room (Nat.le_of_ble_eq_true rfl)) d_M_decode_13 ⟨Nat.le_of_ble_eq_true rfl, Nat.le_of_ble_eq_true rfl⟩).run (fun r19 hr20 => ?_)
    subst hr20
    refine W.eq (g2 := F0 m 16 ls [.int 1]) rfl ?_
    refine lv_if_ne (tgt := 22) hx hb d_M_decode_16 rfl (fun hc21 => ?_) (fun hc21 => by first | exact absurd (by decide) hc21 | exact absurd hc21 (by decide))
    refine lv_iload_n hx hb d_M_decode_22 rfl (lv_at hl 1 rfl) ?_
    refine lv_iload_n hx hb d_M_decode_23 rfl (lv_at hl 0 rfl) ?_
    refine lv_iload_n hx hb d_M_decode_24 rfl (lv_at hl 3 rfl) ?_
    refine lv_ishr hx hb d_M_decode_25 ?_
    refine lv_iconst (v := 1) hx hb d_M_decode_26 (by decide) ?_
    refine lv_iand hx hb d_M_decode_27 ?_
    refine lv_iload_n hx hb d_M_decode_28 rfl (lv_at hl 2 rfl) ?_
    refine lv_ishl hx hb d_M_decode_29 ?_
    refine lv_ior hx hb d_M_decode_30 ?_
    refine lv_istore_n hx hb d_M_decode_31 rfl hl (by decide) rfl (fun ls hl => ?_)
    replace hl : lv_has ls 4 [(1, .int (w1 ||| (((x >>> ((17 : Int32) &&& 31)) &&& (1 : Int32)) <<< ((11 : Int32) &&& 31)))), (0, .int x), (2, .int 11), (3, .int 17)] := hl
    refine lv_iinc (k := 2) (v := 12) hx hb d_M_decode_32 hl rfl rfl (by decide) rfl (fun ls hl => ?_)
    replace hl : lv_has ls 4 [(2, .int 12), (1, .int (w1 ||| (((x >>> ((17 : Int32) &&& 31)) &&& (1 : Int32)) <<< ((11 : Int32) &&& 31)))), (0, .int x), (3, .int 17)] := hl
    refine lv_iinc (k := 3) (v := 18) hx hb d_M_decode_35 hl rfl rfl (by decide) rfl (fun ls hl => ?_)
    replace hl : lv_has ls 4 [(3, .int 18), (2, .int 12), (1, .int (w1 ||| (((x >>> ((17 : Int32) &&& 31)) &&& (1 : Int32)) <<< ((11 : Int32) &&& 31)))), (0, .int x)] := hl
    refine lv_goto (tgt := 6) hx hb d_M_decode_38 rfl ?_
    have hSq : SP = s_M_decode_cut18 x (w1 ||| (((x >>> ((17 : Int32) &&& 31)) &&& (1 : Int32)) <<< ((11 : Int32) &&& 31))) := by rw [hSq0, s_M_decode_cut17]; all_goals rfl
    replace hl := lv_sub hl (l' := [(0, .int x), (1, .int (w1 ||| (((x >>> ((17 : Int32) &&& 31)) &&& (1 : Int32)) <<< ((11 : Int32) &&& 31)))), (2, .int 12), (3, .int 18)]) [3, 2, 1, 0] rfl
    exact cut18 (w1 ||| (((x >>> ((17 : Int32) &&& 31)) &&& (1 : Int32)) <<< ((11 : Int32) &&& 31))) _ (is16_or hw1 (is16_sh (k := 11) (by decide))) hSq hl
  have cut16 : ∀ (w1 : Int32) (ls : Array Slot), is16 w1 → SP = s_M_decode_cut16 x w1 →  lv_has ls 4 [(0, .int x), (1, .int w1), (2, .int 11), (3, .int 16)] → W p l e (headSpec (tbw y_M_decode b_M_decode 4 (some .int)) ({ frames := 1, cells := 0, slots := 0, locals := 20 })).room s m ([.int x] : List Value).toArray below meth c s.heap [] 0 0 (MQ below (vp_Si (fun r => (is16 r) ∧ r = SP)) ([.int x] : List Value).toArray s 0 0 (fun _ => False)) (F0 m 6 ls []) := by
    intro w1 ls hw1 hSq0 hl
    clear cut22 cut21 cut20 cut19 cut18
    refine lv_iload_n hx hb d_M_decode_6 rfl (lv_at hl 3 rfl) ?_
    refine lv_bipush (v := 22) hx hb d_M_decode_7 (by decide) ?_
    refine lv_icmp_ge (tgt := 41) hx hb d_M_decode_9 rfl (fun hc22 => by first | exact absurd hc22 (by decide) | exact absurd (by decide) hc22) (fun hc22 => ?_)
    refine lv_iload_n hx hb d_M_decode_12 rfl (lv_at hl 3 rfl) ?_
    refine vp_callSi (va_runS (As := [.int 16]) (rest := []) ⟨hx, hb, hml, hown, hw⟩ (c_M_isDataV l dC dI 16) (va_cwS 1 hw (gdS (k_866) (k_864) (k_865) (k_8)) rfl rfl rfl (by decide +kernel) ⟨Nat.le_of_ble_eq_true rfl, Nat.le_of_ble_eq_true rfl⟩) ⟨fun _ _ _ _ q => q, fun _ _ _ => ⟨rfl, trivial⟩⟩ rfl rfl hl.1 rfl (lv_room (Nat.le_of_ble_eq_true rfl)) d_M_decode_13 ⟨Nat.le_of_ble_eq_true rfl, Nat.le_of_ble_eq_true rfl⟩).run (fun r23 hr24 => ?_)
    subst hr24
    refine W.eq (g2 := F0 m 16 ls [.int 0]) rfl ?_
    refine lv_if_ne (tgt := 22) hx hb d_M_decode_16 rfl (fun hc25 => by first | exact absurd hc25 (by decide) | exact absurd (by decide) hc25) (fun hc25 => ?_)
    refine lv_goto (tgt := 35) hx hb d_M_decode_19 rfl ?_
    refine lv_iinc (k := 3) (v := 17) hx hb d_M_decode_35 hl rfl rfl (by decide) rfl (fun ls hl => ?_)
    replace hl : lv_has ls 4 [(3, .int 17), (0, .int x), (1, .int w1), (2, .int 11)] := hl
    refine lv_goto (tgt := 6) hx hb d_M_decode_38 rfl ?_
    have hSq : SP = s_M_decode_cut17 x w1 := by rw [hSq0, s_M_decode_cut16]; all_goals rfl
    replace hl := lv_sub hl (l' := [(0, .int x), (1, .int w1), (2, .int 11), (3, .int 17)]) [1, 2, 3, 0] rfl
    exact cut17 w1 _ hw1 hSq hl
  have cut15 : ∀ (w1 : Int32) (ls : Array Slot), is16 w1 → SP = s_M_decode_cut15 x w1 →  lv_has ls 4 [(0, .int x), (1, .int w1), (2, .int 10), (3, .int 15)] → W p l e (headSpec (tbw y_M_decode b_M_decode 4 (some .int)) ({ frames := 1, cells := 0, slots := 0, locals := 20 })).room s m ([.int x] : List Value).toArray below meth c s.heap [] 0 0 (MQ below (vp_Si (fun r => (is16 r) ∧ r = SP)) ([.int x] : List Value).toArray s 0 0 (fun _ => False)) (F0 m 6 ls []) := by
    intro w1 ls hw1 hSq0 hl
    clear cut22 cut21 cut20 cut19 cut18 cut17
    refine lv_iload_n hx hb d_M_decode_6 rfl (lv_at hl 3 rfl) ?_
    refine lv_bipush (v := 22) hx hb d_M_decode_7 (by decide) ?_
    refine lv_icmp_ge (tgt := 41) hx hb d_M_decode_9 rfl (fun hc26 => by first | exact absurd hc26 (by decide) | exact absurd (by decide) hc26) (fun hc26 => ?_)
    refine lv_iload_n hx hb d_M_decode_12 rfl (lv_at hl 3 rfl) ?_
    refine vp_callSi (va_runS (As := [.int 15]) (rest := []) ⟨hx, hb, hml, hown, hw⟩ (c_M_isDataV l dC dI 15) (va_cwS 1 hw (gdS (k_866) (k_864) (k_865) (k_8)) rfl rfl rfl (by decide +kernel) ⟨Nat.le_of_ble_eq_true rfl, Nat.le_of_ble_eq_true rfl⟩) ⟨fun _ _ _ _ q => q, fun _ _ _ => ⟨rfl, trivial⟩⟩ rfl rfl hl.1 rfl (lv_room (Nat.le_of_ble_eq_true rfl)) d_M_decode_13 ⟨Nat.le_of_ble_eq_true rfl, Nat.le_of_ble_eq_true rfl⟩).run (fun r27 hr28 => ?_)
    subst hr28
    refine W.eq (g2 := F0 m 16 ls [.int 1]) rfl ?_
    refine lv_if_ne (tgt := 22) hx hb d_M_decode_16 rfl (fun hc29 => ?_) (fun hc29 => by first | exact absurd (by decide) hc29 | exact absurd hc29 (by decide))
    refine lv_iload_n hx hb d_M_decode_22 rfl (lv_at hl 1 rfl) ?_
    refine lv_iload_n hx hb d_M_decode_23 rfl (lv_at hl 0 rfl) ?_
    refine lv_iload_n hx hb d_M_decode_24 rfl (lv_at hl 3 rfl) ?_
    refine lv_ishr hx hb d_M_decode_25 ?_
    refine lv_iconst (v := 1) hx hb d_M_decode_26 (by decide) ?_
    refine lv_iand hx hb d_M_decode_27 ?_
    refine lv_iload_n hx hb d_M_decode_28 rfl (lv_at hl 2 rfl) ?_
    refine lv_ishl hx hb d_M_decode_29 ?_
    refine lv_ior hx hb d_M_decode_30 ?_
    refine lv_istore_n hx hb d_M_decode_31 rfl hl (by decide) rfl (fun ls hl => ?_)
    replace hl : lv_has ls 4 [(1, .int (w1 ||| (((x >>> ((15 : Int32) &&& 31)) &&& (1 : Int32)) <<< ((10 : Int32) &&& 31)))), (0, .int x), (2, .int 10), (3, .int 15)] := hl
    refine lv_iinc (k := 2) (v := 11) hx hb d_M_decode_32 hl rfl rfl (by decide) rfl (fun ls hl => ?_)
    replace hl : lv_has ls 4 [(2, .int 11), (1, .int (w1 ||| (((x >>> ((15 : Int32) &&& 31)) &&& (1 : Int32)) <<< ((10 : Int32) &&& 31)))), (0, .int x), (3, .int 15)] := hl
    refine lv_iinc (k := 3) (v := 16) hx hb d_M_decode_35 hl rfl rfl (by decide) rfl (fun ls hl => ?_)
    replace hl : lv_has ls 4 [(3, .int 16), (2, .int 11), (1, .int (w1 ||| (((x >>> ((15 : Int32) &&& 31)) &&& (1 : Int32)) <<< ((10 : Int32) &&& 31)))), (0, .int x)] := hl
    refine lv_goto (tgt := 6) hx hb d_M_decode_38 rfl ?_
    have hSq : SP = s_M_decode_cut16 x (w1 ||| (((x >>> ((15 : Int32) &&& 31)) &&& (1 : Int32)) <<< ((10 : Int32) &&& 31))) := by rw [hSq0, s_M_decode_cut15]; all_goals rfl
    replace hl := lv_sub hl (l' := [(0, .int x), (1, .int (w1 ||| (((x >>> ((15 : Int32) &&& 31)) &&& (1 : Int32)) <<< ((10 : Int32) &&& 31)))), (2, .int 11), (3, .int 16)]) [3, 2, 1, 0] rfl
    exact cut16 (w1 ||| (((x >>> ((15 : Int32) &&& 31)) &&& (1 : Int32)) <<< ((10 : Int32) &&& 31))) _ (is16_or hw1 (is16_sh (k := 10) (by decide))) hSq hl
  have cut14 : ∀ (w1 : Int32) (ls : Array Slot), is16 w1 → SP = s_M_decode_cut14 x w1 →  lv_has ls 4 [(0, .int x), (1, .int w1), (2, .int 9), (3, .int 14)] → W p l e (headSpec (tbw y_M_decode b_M_decode 4 (some .int)) ({ frames := 1, cells := 0, slots := 0, locals := 20 })).room s m ([.int x] : List Value).toArray below meth c s.heap [] 0 0 (MQ below (vp_Si (fun r => (is16 r) ∧ r = SP)) ([.int x] : List Value).toArray s 0 0 (fun _ => False)) (F0 m 6 ls []) := by
    intro w1 ls hw1 hSq0 hl
    clear cut22 cut21 cut20 cut19 cut18 cut17 cut16
    refine lv_iload_n hx hb d_M_decode_6 rfl (lv_at hl 3 rfl) ?_
    refine lv_bipush (v := 22) hx hb d_M_decode_7 (by decide) ?_
    refine lv_icmp_ge (tgt := 41) hx hb d_M_decode_9 rfl (fun hc30 => by first | exact absurd hc30 (by decide) | exact absurd (by decide) hc30) (fun hc30 => ?_)
    refine lv_iload_n hx hb d_M_decode_12 rfl (lv_at hl 3 rfl) ?_
    refine vp_callSi (va_runS (As := [.int 14]) (rest := []) ⟨hx, hb, hml, hown, hw⟩ (c_M_isDataV l dC dI 14) (va_cwS 1 hw (gdS (k_866) (k_864) (k_865) (k_8)) rfl rfl rfl (by decide +kernel) ⟨Nat.le_of_ble_eq_true rfl, Nat.le_of_ble_eq_true rfl⟩) ⟨fun _ _ _ _ q => q, fun _ _ _ => ⟨rfl, trivial⟩⟩ rfl rfl hl.1 rfl (lv_room (Nat.le_of_ble_eq_true rfl)) d_M_decode_13 ⟨Nat.le_of_ble_eq_true rfl, Nat.le_of_ble_eq_true rfl⟩).run (fun r31 hr32 => ?_)
    subst hr32
    refine W.eq (g2 := F0 m 16 ls [.int 1]) rfl ?_
    refine lv_if_ne (tgt := 22) hx hb d_M_decode_16 rfl (fun hc33 => ?_) (fun hc33 => by first | exact absurd (by decide) hc33 | exact absurd hc33 (by decide))
    refine lv_iload_n hx hb d_M_decode_22 rfl (lv_at hl 1 rfl) ?_
    refine lv_iload_n hx hb d_M_decode_23 rfl (lv_at hl 0 rfl) ?_
    refine lv_iload_n hx hb d_M_decode_24 rfl (lv_at hl 3 rfl) ?_
    refine lv_ishr hx hb d_M_decode_25 ?_
    refine lv_iconst (v := 1) hx hb d_M_decode_26 (by decide) ?_
    refine lv_iand hx hb d_M_decode_27 ?_
    refine lv_iload_n hx hb d_M_decode_28 rfl (lv_at hl 2 rfl) ?_
    refine lv_ishl hx hb d_M_decode_29 ?_
    refine lv_ior hx hb d_M_decode_30 ?_
    refine lv_istore_n hx hb d_M_decode_31 rfl hl (by decide) rfl (fun ls hl => ?_)
    replace hl : lv_has ls 4 [(1, .int (w1 ||| (((x >>> ((14 : Int32) &&& 31)) &&& (1 : Int32)) <<< ((9 : Int32) &&& 31)))), (0, .int x), (2, .int 9), (3, .int 14)] := hl
    refine lv_iinc (k := 2) (v := 10) hx hb d_M_decode_32 hl rfl rfl (by decide) rfl (fun ls hl => ?_)
    replace hl : lv_has ls 4 [(2, .int 10), (1, .int (w1 ||| (((x >>> ((14 : Int32) &&& 31)) &&& (1 : Int32)) <<< ((9 : Int32) &&& 31)))), (0, .int x), (3, .int 14)] := hl
    refine lv_iinc (k := 3) (v := 15) hx hb d_M_decode_35 hl rfl rfl (by decide) rfl (fun ls hl => ?_)
    replace hl : lv_has ls 4 [(3, .int 15), (2, .int 10), (1, .int (w1 ||| (((x >>> ((14 : Int32) &&& 31)) &&& (1 : Int32)) <<< ((9 : Int32) &&& 31)))), (0, .int x)] := hl
    refine lv_goto (tgt := 6) hx hb d_M_decode_38 rfl ?_
    have hSq : SP = s_M_decode_cut15 x (w1 ||| (((x >>> ((14 : Int32) &&& 31)) &&& (1 : Int32)) <<< ((9 : Int32) &&& 31))) := by rw [hSq0, s_M_decode_cut14]; all_goals rfl
    replace hl := lv_sub hl (l' := [(0, .int x), (1, .int (w1 ||| (((x >>> ((14 : Int32) &&& 31)) &&& (1 : Int32)) <<< ((9 : Int32) &&& 31)))), (2, .int 10), (3, .int 15)]) [3, 2, 1, 0] rfl
    exact cut15 (w1 ||| (((x >>> ((14 : Int32) &&& 31)) &&& (1 : Int32)) <<< ((9 : Int32) &&& 31))) _ (is16_or hw1 (is16_sh (k := 9) (by decide))) hSq hl
  have cut13 : ∀ (w1 : Int32) (ls : Array Slot), is16 w1 → SP = s_M_decode_cut13 x w1 →  lv_has ls 4 [(0, .int x), (1, .int w1), (2, .int 8), (3, .int 13)] → W p l e (headSpec (tbw y_M_decode b_M_decode 4 (some .int)) ({ frames := 1, cells := 0, slots := 0, locals := 20 })).room s m ([.int x] : List Value).toArray below meth c s.heap [] 0 0 (MQ below (vp_Si (fun r => (is16 r) ∧ r = SP)) ([.int x] : List Value).toArray s 0 0 (fun _ => False)) (F0 m 6 ls []) := by
    intro w1 ls hw1 hSq0 hl
    clear cut22 cut21 cut20 cut19 cut18 cut17 cut16 cut15
    refine lv_iload_n hx hb d_M_decode_6 rfl (lv_at hl 3 rfl) ?_
    refine lv_bipush (v := 22) hx hb d_M_decode_7 (by decide) ?_
    refine lv_icmp_ge (tgt := 41) hx hb d_M_decode_9 rfl (fun hc34 => by first | exact absurd hc34 (by decide) | exact absurd (by decide) hc34) (fun hc34 => ?_)
    refine lv_iload_n hx hb d_M_decode_12 rfl (lv_at hl 3 rfl) ?_
    refine vp_callSi (va_runS (As := [.int 13]) (rest := []) ⟨hx, hb, hml, hown, hw⟩ (c_M_isDataV l dC dI 13) (va_cwS 1 hw (gdS (k_866) (k_864) (k_865) (k_8)) rfl rfl rfl (by decide +kernel) ⟨Nat.le_of_ble_eq_true rfl, Nat.le_of_ble_eq_true rfl⟩) ⟨fun _ _ _ _ q => q, fun _ _ _ => ⟨rfl, trivial⟩⟩ rfl rfl hl.1 rfl (lv_room (Nat.le_of_ble_eq_true rfl)) d_M_decode_13 ⟨Nat.le_of_ble_eq_true rfl, Nat.le_of_ble_eq_true rfl⟩).run (fun r35 hr36 => ?_)
    subst hr36
    refine W.eq (g2 := F0 m 16 ls [.int 1]) rfl ?_
    refine lv_if_ne (tgt := 22) hx hb d_M_decode_16 rfl (fun hc37 => ?_) (fun hc37 => by first | exact absurd (by decide) hc37 | exact absurd hc37 (by decide))
    refine lv_iload_n hx hb d_M_decode_22 rfl (lv_at hl 1 rfl) ?_
    refine lv_iload_n hx hb d_M_decode_23 rfl (lv_at hl 0 rfl) ?_
    refine lv_iload_n hx hb d_M_decode_24 rfl (lv_at hl 3 rfl) ?_
    refine lv_ishr hx hb d_M_decode_25 ?_
    refine lv_iconst (v := 1) hx hb d_M_decode_26 (by decide) ?_
    refine lv_iand hx hb d_M_decode_27 ?_
    refine lv_iload_n hx hb d_M_decode_28 rfl (lv_at hl 2 rfl) ?_
    refine lv_ishl hx hb d_M_decode_29 ?_
    refine lv_ior hx hb d_M_decode_30 ?_
    refine lv_istore_n hx hb d_M_decode_31 rfl hl (by decide) rfl (fun ls hl => ?_)
    replace hl : lv_has ls 4 [(1, .int (w1 ||| (((x >>> ((13 : Int32) &&& 31)) &&& (1 : Int32)) <<< ((8 : Int32) &&& 31)))), (0, .int x), (2, .int 8), (3, .int 13)] := hl
    refine lv_iinc (k := 2) (v := 9) hx hb d_M_decode_32 hl rfl rfl (by decide) rfl (fun ls hl => ?_)
    replace hl : lv_has ls 4 [(2, .int 9), (1, .int (w1 ||| (((x >>> ((13 : Int32) &&& 31)) &&& (1 : Int32)) <<< ((8 : Int32) &&& 31)))), (0, .int x), (3, .int 13)] := hl
    refine lv_iinc (k := 3) (v := 14) hx hb d_M_decode_35 hl rfl rfl (by decide) rfl (fun ls hl => ?_)
    replace hl : lv_has ls 4 [(3, .int 14), (2, .int 9), (1, .int (w1 ||| (((x >>> ((13 : Int32) &&& 31)) &&& (1 : Int32)) <<< ((8 : Int32) &&& 31)))), (0, .int x)] := hl
    refine lv_goto (tgt := 6) hx hb d_M_decode_38 rfl ?_
    have hSq : SP = s_M_decode_cut14 x (w1 ||| (((x >>> ((13 : Int32) &&& 31)) &&& (1 : Int32)) <<< ((8 : Int32) &&& 31))) := by rw [hSq0, s_M_decode_cut13]; all_goals rfl
    replace hl := lv_sub hl (l' := [(0, .int x), (1, .int (w1 ||| (((x >>> ((13 : Int32) &&& 31)) &&& (1 : Int32)) <<< ((8 : Int32) &&& 31)))), (2, .int 9), (3, .int 14)]) [3, 2, 1, 0] rfl
    exact cut14 (w1 ||| (((x >>> ((13 : Int32) &&& 31)) &&& (1 : Int32)) <<< ((8 : Int32) &&& 31))) _ (is16_or hw1 (is16_sh (k := 8) (by decide))) hSq hl
  have cut12 : ∀ (w1 : Int32) (ls : Array Slot), is16 w1 → SP = s_M_decode_cut12 x w1 →  lv_has ls 4 [(0, .int x), (1, .int w1), (2, .int 7), (3, .int 12)] → W p l e (headSpec (tbw y_M_decode b_M_decode 4 (some .int)) ({ frames := 1, cells := 0, slots := 0, locals := 20 })).room s m ([.int x] : List Value).toArray below meth c s.heap [] 0 0 (MQ below (vp_Si (fun r => (is16 r) ∧ r = SP)) ([.int x] : List Value).toArray s 0 0 (fun _ => False)) (F0 m 6 ls []) := by
    intro w1 ls hw1 hSq0 hl
    clear cut22 cut21 cut20 cut19 cut18 cut17 cut16 cut15 cut14
    refine lv_iload_n hx hb d_M_decode_6 rfl (lv_at hl 3 rfl) ?_
    refine lv_bipush (v := 22) hx hb d_M_decode_7 (by decide) ?_
    refine lv_icmp_ge (tgt := 41) hx hb d_M_decode_9 rfl (fun hc38 => by first | exact absurd hc38 (by decide) | exact absurd (by decide) hc38) (fun hc38 => ?_)
    refine lv_iload_n hx hb d_M_decode_12 rfl (lv_at hl 3 rfl) ?_
    refine vp_callSi (va_runS (As := [.int 12]) (rest := []) ⟨hx, hb, hml, hown, hw⟩ (c_M_isDataV l dC dI 12) (va_cwS 1 hw (gdS (k_866) (k_864) (k_865) (k_8)) rfl rfl rfl (by decide +kernel) ⟨Nat.le_of_ble_eq_true rfl, Nat.le_of_ble_eq_true rfl⟩) ⟨fun _ _ _ _ q => q, fun _ _ _ => ⟨rfl, trivial⟩⟩ rfl rfl hl.1 rfl (lv_room (Nat.le_of_ble_eq_true rfl)) d_M_decode_13 ⟨Nat.le_of_ble_eq_true rfl, Nat.le_of_ble_eq_true rfl⟩).run (fun r39 hr40 => ?_)
    subst hr40
    refine W.eq (g2 := F0 m 16 ls [.int 1]) rfl ?_
    refine lv_if_ne (tgt := 22) hx hb d_M_decode_16 rfl (fun hc41 => ?_) (fun hc41 => by first | exact absurd (by decide) hc41 | exact absurd hc41 (by decide))
    refine lv_iload_n hx hb d_M_decode_22 rfl (lv_at hl 1 rfl) ?_
    refine lv_iload_n hx hb d_M_decode_23 rfl (lv_at hl 0 rfl) ?_
    refine lv_iload_n hx hb d_M_decode_24 rfl (lv_at hl 3 rfl) ?_
    refine lv_ishr hx hb d_M_decode_25 ?_
    refine lv_iconst (v := 1) hx hb d_M_decode_26 (by decide) ?_
    refine lv_iand hx hb d_M_decode_27 ?_
    refine lv_iload_n hx hb d_M_decode_28 rfl (lv_at hl 2 rfl) ?_
    refine lv_ishl hx hb d_M_decode_29 ?_
    refine lv_ior hx hb d_M_decode_30 ?_
    refine lv_istore_n hx hb d_M_decode_31 rfl hl (by decide) rfl (fun ls hl => ?_)
    replace hl : lv_has ls 4 [(1, .int (w1 ||| (((x >>> ((12 : Int32) &&& 31)) &&& (1 : Int32)) <<< ((7 : Int32) &&& 31)))), (0, .int x), (2, .int 7), (3, .int 12)] := hl
    refine lv_iinc (k := 2) (v := 8) hx hb d_M_decode_32 hl rfl rfl (by decide) rfl (fun ls hl => ?_)
    replace hl : lv_has ls 4 [(2, .int 8), (1, .int (w1 ||| (((x >>> ((12 : Int32) &&& 31)) &&& (1 : Int32)) <<< ((7 : Int32) &&& 31)))), (0, .int x), (3, .int 12)] := hl
    refine lv_iinc (k := 3) (v := 13) hx hb d_M_decode_35 hl rfl rfl (by decide) rfl (fun ls hl => ?_)
    replace hl : lv_has ls 4 [(3, .int 13), (2, .int 8), (1, .int (w1 ||| (((x >>> ((12 : Int32) &&& 31)) &&& (1 : Int32)) <<< ((7 : Int32) &&& 31)))), (0, .int x)] := hl
    refine lv_goto (tgt := 6) hx hb d_M_decode_38 rfl ?_
    have hSq : SP = s_M_decode_cut13 x (w1 ||| (((x >>> ((12 : Int32) &&& 31)) &&& (1 : Int32)) <<< ((7 : Int32) &&& 31))) := by rw [hSq0, s_M_decode_cut12]; all_goals rfl
    replace hl := lv_sub hl (l' := [(0, .int x), (1, .int (w1 ||| (((x >>> ((12 : Int32) &&& 31)) &&& (1 : Int32)) <<< ((7 : Int32) &&& 31)))), (2, .int 8), (3, .int 13)]) [3, 2, 1, 0] rfl
    exact cut13 (w1 ||| (((x >>> ((12 : Int32) &&& 31)) &&& (1 : Int32)) <<< ((7 : Int32) &&& 31))) _ (is16_or hw1 (is16_sh (k := 7) (by decide))) hSq hl
  have cut11 : ∀ (w1 : Int32) (ls : Array Slot), is16 w1 → SP = s_M_decode_cut11 x w1 →  lv_has ls 4 [(0, .int x), (1, .int w1), (2, .int 6), (3, .int 11)] → W p l e (headSpec (tbw y_M_decode b_M_decode 4 (some .int)) ({ frames := 1, cells := 0, slots := 0, locals := 20 })).room s m ([.int x] : List Value).toArray below meth c s.heap [] 0 0 (MQ below (vp_Si (fun r => (is16 r) ∧ r = SP)) ([.int x] : List Value).toArray s 0 0 (fun _ => False)) (F0 m 6 ls []) := by
    intro w1 ls hw1 hSq0 hl
    clear cut22 cut21 cut20 cut19 cut18 cut17 cut16 cut15 cut14 cut13
    refine lv_iload_n hx hb d_M_decode_6 rfl (lv_at hl 3 rfl) ?_
    refine lv_bipush (v := 22) hx hb d_M_decode_7 (by decide) ?_
    refine lv_icmp_ge (tgt := 41) hx hb d_M_decode_9 rfl (fun hc42 => by first | exact absurd hc42 (by decide) | exact absurd (by decide) hc42) (fun hc42 => ?_)
    refine lv_iload_n hx hb d_M_decode_12 rfl (lv_at hl 3 rfl) ?_
    refine vp_callSi (va_runS (As := [.int 11]) (rest := []) ⟨hx, hb, hml, hown, hw⟩ (c_M_isDataV l dC dI 11) (va_cwS 1 hw (gdS (k_866) (k_864) (k_865) (k_8)) rfl rfl rfl (by decide +kernel) ⟨Nat.le_of_ble_eq_true rfl, Nat.le_of_ble_eq_true rfl⟩) ⟨fun _ _ _ _ q => q, fun _ _ _ => ⟨rfl, trivial⟩⟩ rfl rfl hl.1 rfl (lv_room (Nat.le_of_ble_eq_true rfl)) d_M_decode_13 ⟨Nat.le_of_ble_eq_true rfl, Nat.le_of_ble_eq_true rfl⟩).run (fun r43 hr44 => ?_)
    subst hr44
    refine W.eq (g2 := F0 m 16 ls [.int 1]) rfl ?_
    refine lv_if_ne (tgt := 22) hx hb d_M_decode_16 rfl (fun hc45 => ?_) (fun hc45 => by first | exact absurd (by decide) hc45 | exact absurd hc45 (by decide))
    refine lv_iload_n hx hb d_M_decode_22 rfl (lv_at hl 1 rfl) ?_
    refine lv_iload_n hx hb d_M_decode_23 rfl (lv_at hl 0 rfl) ?_
    refine lv_iload_n hx hb d_M_decode_24 rfl (lv_at hl 3 rfl) ?_
    refine lv_ishr hx hb d_M_decode_25 ?_
    refine lv_iconst (v := 1) hx hb d_M_decode_26 (by decide) ?_
    refine lv_iand hx hb d_M_decode_27 ?_
    refine lv_iload_n hx hb d_M_decode_28 rfl (lv_at hl 2 rfl) ?_
    refine lv_ishl hx hb d_M_decode_29 ?_
    refine lv_ior hx hb d_M_decode_30 ?_
    refine lv_istore_n hx hb d_M_decode_31 rfl hl (by decide) rfl (fun ls hl => ?_)
    replace hl : lv_has ls 4 [(1, .int (w1 ||| (((x >>> ((11 : Int32) &&& 31)) &&& (1 : Int32)) <<< ((6 : Int32) &&& 31)))), (0, .int x), (2, .int 6), (3, .int 11)] := hl
    refine lv_iinc (k := 2) (v := 7) hx hb d_M_decode_32 hl rfl rfl (by decide) rfl (fun ls hl => ?_)
    replace hl : lv_has ls 4 [(2, .int 7), (1, .int (w1 ||| (((x >>> ((11 : Int32) &&& 31)) &&& (1 : Int32)) <<< ((6 : Int32) &&& 31)))), (0, .int x), (3, .int 11)] := hl
    refine lv_iinc (k := 3) (v := 12) hx hb d_M_decode_35 hl rfl rfl (by decide) rfl (fun ls hl => ?_)
    replace hl : lv_has ls 4 [(3, .int 12), (2, .int 7), (1, .int (w1 ||| (((x >>> ((11 : Int32) &&& 31)) &&& (1 : Int32)) <<< ((6 : Int32) &&& 31)))), (0, .int x)] := hl
    refine lv_goto (tgt := 6) hx hb d_M_decode_38 rfl ?_
    have hSq : SP = s_M_decode_cut12 x (w1 ||| (((x >>> ((11 : Int32) &&& 31)) &&& (1 : Int32)) <<< ((6 : Int32) &&& 31))) := by rw [hSq0, s_M_decode_cut11]; all_goals rfl
    replace hl := lv_sub hl (l' := [(0, .int x), (1, .int (w1 ||| (((x >>> ((11 : Int32) &&& 31)) &&& (1 : Int32)) <<< ((6 : Int32) &&& 31)))), (2, .int 7), (3, .int 12)]) [3, 2, 1, 0] rfl
    exact cut12 (w1 ||| (((x >>> ((11 : Int32) &&& 31)) &&& (1 : Int32)) <<< ((6 : Int32) &&& 31))) _ (is16_or hw1 (is16_sh (k := 6) (by decide))) hSq hl
  have cut10 : ∀ (w1 : Int32) (ls : Array Slot), is16 w1 → SP = s_M_decode_cut10 x w1 →  lv_has ls 4 [(0, .int x), (1, .int w1), (2, .int 5), (3, .int 10)] → W p l e (headSpec (tbw y_M_decode b_M_decode 4 (some .int)) ({ frames := 1, cells := 0, slots := 0, locals := 20 })).room s m ([.int x] : List Value).toArray below meth c s.heap [] 0 0 (MQ below (vp_Si (fun r => (is16 r) ∧ r = SP)) ([.int x] : List Value).toArray s 0 0 (fun _ => False)) (F0 m 6 ls []) := by
    intro w1 ls hw1 hSq0 hl
    clear cut22 cut21 cut20 cut19 cut18 cut17 cut16 cut15 cut14 cut13 cut12
    refine lv_iload_n hx hb d_M_decode_6 rfl (lv_at hl 3 rfl) ?_
    refine lv_bipush (v := 22) hx hb d_M_decode_7 (by decide) ?_
    refine lv_icmp_ge (tgt := 41) hx hb d_M_decode_9 rfl (fun hc46 => by first | exact absurd hc46 (by decide) | exact absurd (by decide) hc46) (fun hc46 => ?_)
    refine lv_iload_n hx hb d_M_decode_12 rfl (lv_at hl 3 rfl) ?_
    refine vp_callSi (va_runS (As := [.int 10]) (rest := []) ⟨hx, hb, hml, hown, hw⟩ (c_M_isDataV l dC dI 10) (va_cwS 1 hw (gdS (k_866) (k_864) (k_865) (k_8)) rfl rfl rfl (by decide +kernel) ⟨Nat.le_of_ble_eq_true rfl, Nat.le_of_ble_eq_true rfl⟩) ⟨fun _ _ _ _ q => q, fun _ _ _ => ⟨rfl, trivial⟩⟩ rfl rfl hl.1 rfl (lv_room (Nat.le_of_ble_eq_true rfl)) d_M_decode_13 ⟨Nat.le_of_ble_eq_true rfl, Nat.le_of_ble_eq_true rfl⟩).run (fun r47 hr48 => ?_)
    subst hr48
    refine W.eq (g2 := F0 m 16 ls [.int 1]) rfl ?_
    refine lv_if_ne (tgt := 22) hx hb d_M_decode_16 rfl (fun hc49 => ?_) (fun hc49 => by first | exact absurd (by decide) hc49 | exact absurd hc49 (by decide))
    refine lv_iload_n hx hb d_M_decode_22 rfl (lv_at hl 1 rfl) ?_
    refine lv_iload_n hx hb d_M_decode_23 rfl (lv_at hl 0 rfl) ?_
    refine lv_iload_n hx hb d_M_decode_24 rfl (lv_at hl 3 rfl) ?_
    refine lv_ishr hx hb d_M_decode_25 ?_
    refine lv_iconst (v := 1) hx hb d_M_decode_26 (by decide) ?_
    refine lv_iand hx hb d_M_decode_27 ?_
    refine lv_iload_n hx hb d_M_decode_28 rfl (lv_at hl 2 rfl) ?_
    refine lv_ishl hx hb d_M_decode_29 ?_
    refine lv_ior hx hb d_M_decode_30 ?_
    refine lv_istore_n hx hb d_M_decode_31 rfl hl (by decide) rfl (fun ls hl => ?_)
    replace hl : lv_has ls 4 [(1, .int (w1 ||| (((x >>> ((10 : Int32) &&& 31)) &&& (1 : Int32)) <<< ((5 : Int32) &&& 31)))), (0, .int x), (2, .int 5), (3, .int 10)] := hl
    refine lv_iinc (k := 2) (v := 6) hx hb d_M_decode_32 hl rfl rfl (by decide) rfl (fun ls hl => ?_)
    replace hl : lv_has ls 4 [(2, .int 6), (1, .int (w1 ||| (((x >>> ((10 : Int32) &&& 31)) &&& (1 : Int32)) <<< ((5 : Int32) &&& 31)))), (0, .int x), (3, .int 10)] := hl
    refine lv_iinc (k := 3) (v := 11) hx hb d_M_decode_35 hl rfl rfl (by decide) rfl (fun ls hl => ?_)
    replace hl : lv_has ls 4 [(3, .int 11), (2, .int 6), (1, .int (w1 ||| (((x >>> ((10 : Int32) &&& 31)) &&& (1 : Int32)) <<< ((5 : Int32) &&& 31)))), (0, .int x)] := hl
    refine lv_goto (tgt := 6) hx hb d_M_decode_38 rfl ?_
    have hSq : SP = s_M_decode_cut11 x (w1 ||| (((x >>> ((10 : Int32) &&& 31)) &&& (1 : Int32)) <<< ((5 : Int32) &&& 31))) := by rw [hSq0, s_M_decode_cut10]; all_goals rfl
    replace hl := lv_sub hl (l' := [(0, .int x), (1, .int (w1 ||| (((x >>> ((10 : Int32) &&& 31)) &&& (1 : Int32)) <<< ((5 : Int32) &&& 31)))), (2, .int 6), (3, .int 11)]) [3, 2, 1, 0] rfl
    exact cut11 (w1 ||| (((x >>> ((10 : Int32) &&& 31)) &&& (1 : Int32)) <<< ((5 : Int32) &&& 31))) _ (is16_or hw1 (is16_sh (k := 5) (by decide))) hSq hl
  have cut9 : ∀ (w1 : Int32) (ls : Array Slot), is16 w1 → SP = s_M_decode_cut9 x w1 →  lv_has ls 4 [(0, .int x), (1, .int w1), (2, .int 4), (3, .int 9)] → W p l e (headSpec (tbw y_M_decode b_M_decode 4 (some .int)) ({ frames := 1, cells := 0, slots := 0, locals := 20 })).room s m ([.int x] : List Value).toArray below meth c s.heap [] 0 0 (MQ below (vp_Si (fun r => (is16 r) ∧ r = SP)) ([.int x] : List Value).toArray s 0 0 (fun _ => False)) (F0 m 6 ls []) := by
    intro w1 ls hw1 hSq0 hl
    clear cut22 cut21 cut20 cut19 cut18 cut17 cut16 cut15 cut14 cut13 cut12 cut11
    refine lv_iload_n hx hb d_M_decode_6 rfl (lv_at hl 3 rfl) ?_
    refine lv_bipush (v := 22) hx hb d_M_decode_7 (by decide) ?_
    refine lv_icmp_ge (tgt := 41) hx hb d_M_decode_9 rfl (fun hc50 => by first | exact absurd hc50 (by decide) | exact absurd (by decide) hc50) (fun hc50 => ?_)
    refine lv_iload_n hx hb d_M_decode_12 rfl (lv_at hl 3 rfl) ?_
    refine vp_callSi (va_runS (As := [.int 9]) (rest := []) ⟨hx, hb, hml, hown, hw⟩ (c_M_isDataV l dC dI 9) (va_cwS 1 hw (gdS (k_866) (k_864) (k_865) (k_8)) rfl rfl rfl (by decide +kernel) ⟨Nat.le_of_ble_eq_true rfl, Nat.le_of_ble_eq_true rfl⟩) ⟨fun _ _ _ _ q => q, fun _ _ _ => ⟨rfl, trivial⟩⟩ rfl rfl hl.1 rfl (lv_room (Nat.le_of_ble_eq_true rfl)) d_M_decode_13 ⟨Nat.le_of_ble_eq_true rfl, Nat.le_of_ble_eq_true rfl⟩).run (fun r51 hr52 => ?_)
    subst hr52
    refine W.eq (g2 := F0 m 16 ls [.int 1]) rfl ?_
    refine lv_if_ne (tgt := 22) hx hb d_M_decode_16 rfl (fun hc53 => ?_) (fun hc53 => by first | exact absurd (by decide) hc53 | exact absurd hc53 (by decide))
    refine lv_iload_n hx hb d_M_decode_22 rfl (lv_at hl 1 rfl) ?_
    refine lv_iload_n hx hb d_M_decode_23 rfl (lv_at hl 0 rfl) ?_
    refine lv_iload_n hx hb d_M_decode_24 rfl (lv_at hl 3 rfl) ?_
    refine lv_ishr hx hb d_M_decode_25 ?_
    refine lv_iconst (v := 1) hx hb d_M_decode_26 (by decide) ?_
    refine lv_iand hx hb d_M_decode_27 ?_
    refine lv_iload_n hx hb d_M_decode_28 rfl (lv_at hl 2 rfl) ?_
    refine lv_ishl hx hb d_M_decode_29 ?_
    refine lv_ior hx hb d_M_decode_30 ?_
    refine lv_istore_n hx hb d_M_decode_31 rfl hl (by decide) rfl (fun ls hl => ?_)
    replace hl : lv_has ls 4 [(1, .int (w1 ||| (((x >>> ((9 : Int32) &&& 31)) &&& (1 : Int32)) <<< ((4 : Int32) &&& 31)))), (0, .int x), (2, .int 4), (3, .int 9)] := hl
    refine lv_iinc (k := 2) (v := 5) hx hb d_M_decode_32 hl rfl rfl (by decide) rfl (fun ls hl => ?_)
    replace hl : lv_has ls 4 [(2, .int 5), (1, .int (w1 ||| (((x >>> ((9 : Int32) &&& 31)) &&& (1 : Int32)) <<< ((4 : Int32) &&& 31)))), (0, .int x), (3, .int 9)] := hl
    refine lv_iinc (k := 3) (v := 10) hx hb d_M_decode_35 hl rfl rfl (by decide) rfl (fun ls hl => ?_)
    replace hl : lv_has ls 4 [(3, .int 10), (2, .int 5), (1, .int (w1 ||| (((x >>> ((9 : Int32) &&& 31)) &&& (1 : Int32)) <<< ((4 : Int32) &&& 31)))), (0, .int x)] := hl
    refine lv_goto (tgt := 6) hx hb d_M_decode_38 rfl ?_
    have hSq : SP = s_M_decode_cut10 x (w1 ||| (((x >>> ((9 : Int32) &&& 31)) &&& (1 : Int32)) <<< ((4 : Int32) &&& 31))) := by rw [hSq0, s_M_decode_cut9]; all_goals rfl
    replace hl := lv_sub hl (l' := [(0, .int x), (1, .int (w1 ||| (((x >>> ((9 : Int32) &&& 31)) &&& (1 : Int32)) <<< ((4 : Int32) &&& 31)))), (2, .int 5), (3, .int 10)]) [3, 2, 1, 0] rfl
    exact cut10 (w1 ||| (((x >>> ((9 : Int32) &&& 31)) &&& (1 : Int32)) <<< ((4 : Int32) &&& 31))) _ (is16_or hw1 (is16_sh (k := 4) (by decide))) hSq hl
  have cut8 : ∀ (w1 : Int32) (ls : Array Slot), is16 w1 → SP = s_M_decode_cut8 x w1 →  lv_has ls 4 [(0, .int x), (1, .int w1), (2, .int 4), (3, .int 8)] → W p l e (headSpec (tbw y_M_decode b_M_decode 4 (some .int)) ({ frames := 1, cells := 0, slots := 0, locals := 20 })).room s m ([.int x] : List Value).toArray below meth c s.heap [] 0 0 (MQ below (vp_Si (fun r => (is16 r) ∧ r = SP)) ([.int x] : List Value).toArray s 0 0 (fun _ => False)) (F0 m 6 ls []) := by
    intro w1 ls hw1 hSq0 hl
    clear cut22 cut21 cut20 cut19 cut18 cut17 cut16 cut15 cut14 cut13 cut12 cut11 cut10
    refine lv_iload_n hx hb d_M_decode_6 rfl (lv_at hl 3 rfl) ?_
    refine lv_bipush (v := 22) hx hb d_M_decode_7 (by decide) ?_
    refine lv_icmp_ge (tgt := 41) hx hb d_M_decode_9 rfl (fun hc54 => by first | exact absurd hc54 (by decide) | exact absurd (by decide) hc54) (fun hc54 => ?_)
    refine lv_iload_n hx hb d_M_decode_12 rfl (lv_at hl 3 rfl) ?_
    refine vp_callSi (va_runS (As := [.int 8]) (rest := []) ⟨hx, hb, hml, hown, hw⟩ (c_M_isDataV l dC dI 8) (va_cwS 1 hw (gdS (k_866) (k_864) (k_865) (k_8)) rfl rfl rfl (by decide +kernel) ⟨Nat.le_of_ble_eq_true rfl, Nat.le_of_ble_eq_true rfl⟩) ⟨fun _ _ _ _ q => q, fun _ _ _ => ⟨rfl, trivial⟩⟩ rfl rfl hl.1 rfl (lv_room (Nat.le_of_ble_eq_true rfl)) d_M_decode_13 ⟨Nat.le_of_ble_eq_true rfl, Nat.le_of_ble_eq_true rfl⟩).run (fun r55 hr56 => ?_)
    subst hr56
    refine W.eq (g2 := F0 m 16 ls [.int 0]) rfl ?_
    refine lv_if_ne (tgt := 22) hx hb d_M_decode_16 rfl (fun hc57 => by first | exact absurd hc57 (by decide) | exact absurd (by decide) hc57) (fun hc57 => ?_)
    refine lv_goto (tgt := 35) hx hb d_M_decode_19 rfl ?_
    refine lv_iinc (k := 3) (v := 9) hx hb d_M_decode_35 hl rfl rfl (by decide) rfl (fun ls hl => ?_)
    replace hl : lv_has ls 4 [(3, .int 9), (0, .int x), (1, .int w1), (2, .int 4)] := hl
    refine lv_goto (tgt := 6) hx hb d_M_decode_38 rfl ?_
    have hSq : SP = s_M_decode_cut9 x w1 := by rw [hSq0, s_M_decode_cut8]; all_goals rfl
    replace hl := lv_sub hl (l' := [(0, .int x), (1, .int w1), (2, .int 4), (3, .int 9)]) [1, 2, 3, 0] rfl
    exact cut9 w1 _ hw1 hSq hl
  have cut7 : ∀ (w1 : Int32) (ls : Array Slot), is16 w1 → SP = s_M_decode_cut7 x w1 →  lv_has ls 4 [(0, .int x), (1, .int w1), (2, .int 3), (3, .int 7)] → W p l e (headSpec (tbw y_M_decode b_M_decode 4 (some .int)) ({ frames := 1, cells := 0, slots := 0, locals := 20 })).room s m ([.int x] : List Value).toArray below meth c s.heap [] 0 0 (MQ below (vp_Si (fun r => (is16 r) ∧ r = SP)) ([.int x] : List Value).toArray s 0 0 (fun _ => False)) (F0 m 6 ls []) := by
    intro w1 ls hw1 hSq0 hl
    clear cut22 cut21 cut20 cut19 cut18 cut17 cut16 cut15 cut14 cut13 cut12 cut11 cut10 cut9
    refine lv_iload_n hx hb d_M_decode_6 rfl (lv_at hl 3 rfl) ?_
    refine lv_bipush (v := 22) hx hb d_M_decode_7 (by decide) ?_
    refine lv_icmp_ge (tgt := 41) hx hb d_M_decode_9 rfl (fun hc58 => by first | exact absurd hc58 (by decide) | exact absurd (by decide) hc58) (fun hc58 => ?_)
    refine lv_iload_n hx hb d_M_decode_12 rfl (lv_at hl 3 rfl) ?_
    refine vp_callSi (va_runS (As := [.int 7]) (rest := []) ⟨hx, hb, hml, hown, hw⟩ (c_M_isDataV l dC dI 7) (va_cwS 1 hw (gdS (k_866) (k_864) (k_865) (k_8)) rfl rfl rfl (by decide +kernel) ⟨Nat.le_of_ble_eq_true rfl, Nat.le_of_ble_eq_true rfl⟩) ⟨fun _ _ _ _ q => q, fun _ _ _ => ⟨rfl, trivial⟩⟩ rfl rfl hl.1 rfl (lv_room (Nat.le_of_ble_eq_true rfl)) d_M_decode_13 ⟨Nat.le_of_ble_eq_true rfl, Nat.le_of_ble_eq_true rfl⟩).run (fun r59 hr60 => ?_)
    subst hr60
    refine W.eq (g2 := F0 m 16 ls [.int 1]) rfl ?_
    refine lv_if_ne (tgt := 22) hx hb d_M_decode_16 rfl (fun hc61 => ?_) (fun hc61 => by first | exact absurd (by decide) hc61 | exact absurd hc61 (by decide))
    refine lv_iload_n hx hb d_M_decode_22 rfl (lv_at hl 1 rfl) ?_
    refine lv_iload_n hx hb d_M_decode_23 rfl (lv_at hl 0 rfl) ?_
    refine lv_iload_n hx hb d_M_decode_24 rfl (lv_at hl 3 rfl) ?_
    refine lv_ishr hx hb d_M_decode_25 ?_
    refine lv_iconst (v := 1) hx hb d_M_decode_26 (by decide) ?_
    refine lv_iand hx hb d_M_decode_27 ?_
    refine lv_iload_n hx hb d_M_decode_28 rfl (lv_at hl 2 rfl) ?_
    refine lv_ishl hx hb d_M_decode_29 ?_
    refine lv_ior hx hb d_M_decode_30 ?_
    refine lv_istore_n hx hb d_M_decode_31 rfl hl (by decide) rfl (fun ls hl => ?_)
    replace hl : lv_has ls 4 [(1, .int (w1 ||| (((x >>> ((7 : Int32) &&& 31)) &&& (1 : Int32)) <<< ((3 : Int32) &&& 31)))), (0, .int x), (2, .int 3), (3, .int 7)] := hl
    refine lv_iinc (k := 2) (v := 4) hx hb d_M_decode_32 hl rfl rfl (by decide) rfl (fun ls hl => ?_)
    replace hl : lv_has ls 4 [(2, .int 4), (1, .int (w1 ||| (((x >>> ((7 : Int32) &&& 31)) &&& (1 : Int32)) <<< ((3 : Int32) &&& 31)))), (0, .int x), (3, .int 7)] := hl
    refine lv_iinc (k := 3) (v := 8) hx hb d_M_decode_35 hl rfl rfl (by decide) rfl (fun ls hl => ?_)
    replace hl : lv_has ls 4 [(3, .int 8), (2, .int 4), (1, .int (w1 ||| (((x >>> ((7 : Int32) &&& 31)) &&& (1 : Int32)) <<< ((3 : Int32) &&& 31)))), (0, .int x)] := hl
    refine lv_goto (tgt := 6) hx hb d_M_decode_38 rfl ?_
    have hSq : SP = s_M_decode_cut8 x (w1 ||| (((x >>> ((7 : Int32) &&& 31)) &&& (1 : Int32)) <<< ((3 : Int32) &&& 31))) := by rw [hSq0, s_M_decode_cut7]; all_goals rfl
    replace hl := lv_sub hl (l' := [(0, .int x), (1, .int (w1 ||| (((x >>> ((7 : Int32) &&& 31)) &&& (1 : Int32)) <<< ((3 : Int32) &&& 31)))), (2, .int 4), (3, .int 8)]) [3, 2, 1, 0] rfl
    exact cut8 (w1 ||| (((x >>> ((7 : Int32) &&& 31)) &&& (1 : Int32)) <<< ((3 : Int32) &&& 31))) _ (is16_or hw1 (is16_sh (k := 3) (by decide))) hSq hl
  have cut6 : ∀ (w1 : Int32) (ls : Array Slot), is16 w1 → SP = s_M_decode_cut6 x w1 →  lv_has ls 4 [(0, .int x), (1, .int w1), (2, .int 2), (3, .int 6)] → W p l e (headSpec (tbw y_M_decode b_M_decode 4 (some .int)) ({ frames := 1, cells := 0, slots := 0, locals := 20 })).room s m ([.int x] : List Value).toArray below meth c s.heap [] 0 0 (MQ below (vp_Si (fun r => (is16 r) ∧ r = SP)) ([.int x] : List Value).toArray s 0 0 (fun _ => False)) (F0 m 6 ls []) := by
    intro w1 ls hw1 hSq0 hl
    clear cut22 cut21 cut20 cut19 cut18 cut17 cut16 cut15 cut14 cut13 cut12 cut11 cut10 cut9 cut8
    refine lv_iload_n hx hb d_M_decode_6 rfl (lv_at hl 3 rfl) ?_
    refine lv_bipush (v := 22) hx hb d_M_decode_7 (by decide) ?_
    refine lv_icmp_ge (tgt := 41) hx hb d_M_decode_9 rfl (fun hc62 => by first | exact absurd hc62 (by decide) | exact absurd (by decide) hc62) (fun hc62 => ?_)
    refine lv_iload_n hx hb d_M_decode_12 rfl (lv_at hl 3 rfl) ?_
    refine vp_callSi (va_runS (As := [.int 6]) (rest := []) ⟨hx, hb, hml, hown, hw⟩ (c_M_isDataV l dC dI 6) (va_cwS 1 hw (gdS (k_866) (k_864) (k_865) (k_8)) rfl rfl rfl (by decide +kernel) ⟨Nat.le_of_ble_eq_true rfl, Nat.le_of_ble_eq_true rfl⟩) ⟨fun _ _ _ _ q => q, fun _ _ _ => ⟨rfl, trivial⟩⟩ rfl rfl hl.1 rfl (lv_room (Nat.le_of_ble_eq_true rfl)) d_M_decode_13 ⟨Nat.le_of_ble_eq_true rfl, Nat.le_of_ble_eq_true rfl⟩).run (fun r63 hr64 => ?_)
    subst hr64
    refine W.eq (g2 := F0 m 16 ls [.int 1]) rfl ?_
    refine lv_if_ne (tgt := 22) hx hb d_M_decode_16 rfl (fun hc65 => ?_) (fun hc65 => by first | exact absurd (by decide) hc65 | exact absurd hc65 (by decide))
    refine lv_iload_n hx hb d_M_decode_22 rfl (lv_at hl 1 rfl) ?_
    refine lv_iload_n hx hb d_M_decode_23 rfl (lv_at hl 0 rfl) ?_
    refine lv_iload_n hx hb d_M_decode_24 rfl (lv_at hl 3 rfl) ?_
    refine lv_ishr hx hb d_M_decode_25 ?_
    refine lv_iconst (v := 1) hx hb d_M_decode_26 (by decide) ?_
    refine lv_iand hx hb d_M_decode_27 ?_
    refine lv_iload_n hx hb d_M_decode_28 rfl (lv_at hl 2 rfl) ?_
    refine lv_ishl hx hb d_M_decode_29 ?_
    refine lv_ior hx hb d_M_decode_30 ?_
    refine lv_istore_n hx hb d_M_decode_31 rfl hl (by decide) rfl (fun ls hl => ?_)
    replace hl : lv_has ls 4 [(1, .int (w1 ||| (((x >>> ((6 : Int32) &&& 31)) &&& (1 : Int32)) <<< ((2 : Int32) &&& 31)))), (0, .int x), (2, .int 2), (3, .int 6)] := hl
    refine lv_iinc (k := 2) (v := 3) hx hb d_M_decode_32 hl rfl rfl (by decide) rfl (fun ls hl => ?_)
    replace hl : lv_has ls 4 [(2, .int 3), (1, .int (w1 ||| (((x >>> ((6 : Int32) &&& 31)) &&& (1 : Int32)) <<< ((2 : Int32) &&& 31)))), (0, .int x), (3, .int 6)] := hl
    refine lv_iinc (k := 3) (v := 7) hx hb d_M_decode_35 hl rfl rfl (by decide) rfl (fun ls hl => ?_)
    replace hl : lv_has ls 4 [(3, .int 7), (2, .int 3), (1, .int (w1 ||| (((x >>> ((6 : Int32) &&& 31)) &&& (1 : Int32)) <<< ((2 : Int32) &&& 31)))), (0, .int x)] := hl
    refine lv_goto (tgt := 6) hx hb d_M_decode_38 rfl ?_
    have hSq : SP = s_M_decode_cut7 x (w1 ||| (((x >>> ((6 : Int32) &&& 31)) &&& (1 : Int32)) <<< ((2 : Int32) &&& 31))) := by rw [hSq0, s_M_decode_cut6]; all_goals rfl
    replace hl := lv_sub hl (l' := [(0, .int x), (1, .int (w1 ||| (((x >>> ((6 : Int32) &&& 31)) &&& (1 : Int32)) <<< ((2 : Int32) &&& 31)))), (2, .int 3), (3, .int 7)]) [3, 2, 1, 0] rfl
    exact cut7 (w1 ||| (((x >>> ((6 : Int32) &&& 31)) &&& (1 : Int32)) <<< ((2 : Int32) &&& 31))) _ (is16_or hw1 (is16_sh (k := 2) (by decide))) hSq hl
  have cut5 : ∀ (w1 : Int32) (ls : Array Slot), is16 w1 → SP = s_M_decode_cut5 x w1 →  lv_has ls 4 [(0, .int x), (1, .int w1), (2, .int 1), (3, .int 5)] → W p l e (headSpec (tbw y_M_decode b_M_decode 4 (some .int)) ({ frames := 1, cells := 0, slots := 0, locals := 20 })).room s m ([.int x] : List Value).toArray below meth c s.heap [] 0 0 (MQ below (vp_Si (fun r => (is16 r) ∧ r = SP)) ([.int x] : List Value).toArray s 0 0 (fun _ => False)) (F0 m 6 ls []) := by
    intro w1 ls hw1 hSq0 hl
    clear cut22 cut21 cut20 cut19 cut18 cut17 cut16 cut15 cut14 cut13 cut12 cut11 cut10 cut9 cut8 cut7
    refine lv_iload_n hx hb d_M_decode_6 rfl (lv_at hl 3 rfl) ?_
    refine lv_bipush (v := 22) hx hb d_M_decode_7 (by decide) ?_
    refine lv_icmp_ge (tgt := 41) hx hb d_M_decode_9 rfl (fun hc66 => by first | exact absurd hc66 (by decide) | exact absurd (by decide) hc66) (fun hc66 => ?_)
    refine lv_iload_n hx hb d_M_decode_12 rfl (lv_at hl 3 rfl) ?_
    refine vp_callSi (va_runS (As := [.int 5]) (rest := []) ⟨hx, hb, hml, hown, hw⟩ (c_M_isDataV l dC dI 5) (va_cwS 1 hw (gdS (k_866) (k_864) (k_865) (k_8)) rfl rfl rfl (by decide +kernel) ⟨Nat.le_of_ble_eq_true rfl, Nat.le_of_ble_eq_true rfl⟩) ⟨fun _ _ _ _ q => q, fun _ _ _ => ⟨rfl, trivial⟩⟩ rfl rfl hl.1 rfl (lv_room (Nat.le_of_ble_eq_true rfl)) d_M_decode_13 ⟨Nat.le_of_ble_eq_true rfl, Nat.le_of_ble_eq_true rfl⟩).run (fun r67 hr68 => ?_)
    subst hr68
    refine W.eq (g2 := F0 m 16 ls [.int 1]) rfl ?_
    refine lv_if_ne (tgt := 22) hx hb d_M_decode_16 rfl (fun hc69 => ?_) (fun hc69 => by first | exact absurd (by decide) hc69 | exact absurd hc69 (by decide))
    refine lv_iload_n hx hb d_M_decode_22 rfl (lv_at hl 1 rfl) ?_
    refine lv_iload_n hx hb d_M_decode_23 rfl (lv_at hl 0 rfl) ?_
    refine lv_iload_n hx hb d_M_decode_24 rfl (lv_at hl 3 rfl) ?_
    refine lv_ishr hx hb d_M_decode_25 ?_
    refine lv_iconst (v := 1) hx hb d_M_decode_26 (by decide) ?_
    refine lv_iand hx hb d_M_decode_27 ?_
    refine lv_iload_n hx hb d_M_decode_28 rfl (lv_at hl 2 rfl) ?_
    refine lv_ishl hx hb d_M_decode_29 ?_
    refine lv_ior hx hb d_M_decode_30 ?_
    refine lv_istore_n hx hb d_M_decode_31 rfl hl (by decide) rfl (fun ls hl => ?_)
    replace hl : lv_has ls 4 [(1, .int (w1 ||| (((x >>> ((5 : Int32) &&& 31)) &&& (1 : Int32)) <<< ((1 : Int32) &&& 31)))), (0, .int x), (2, .int 1), (3, .int 5)] := hl
    refine lv_iinc (k := 2) (v := 2) hx hb d_M_decode_32 hl rfl rfl (by decide) rfl (fun ls hl => ?_)
    replace hl : lv_has ls 4 [(2, .int 2), (1, .int (w1 ||| (((x >>> ((5 : Int32) &&& 31)) &&& (1 : Int32)) <<< ((1 : Int32) &&& 31)))), (0, .int x), (3, .int 5)] := hl
    refine lv_iinc (k := 3) (v := 6) hx hb d_M_decode_35 hl rfl rfl (by decide) rfl (fun ls hl => ?_)
    replace hl : lv_has ls 4 [(3, .int 6), (2, .int 2), (1, .int (w1 ||| (((x >>> ((5 : Int32) &&& 31)) &&& (1 : Int32)) <<< ((1 : Int32) &&& 31)))), (0, .int x)] := hl
    refine lv_goto (tgt := 6) hx hb d_M_decode_38 rfl ?_
    have hSq : SP = s_M_decode_cut6 x (w1 ||| (((x >>> ((5 : Int32) &&& 31)) &&& (1 : Int32)) <<< ((1 : Int32) &&& 31))) := by rw [hSq0, s_M_decode_cut5]; all_goals rfl
    replace hl := lv_sub hl (l' := [(0, .int x), (1, .int (w1 ||| (((x >>> ((5 : Int32) &&& 31)) &&& (1 : Int32)) <<< ((1 : Int32) &&& 31)))), (2, .int 2), (3, .int 6)]) [3, 2, 1, 0] rfl
    exact cut6 (w1 ||| (((x >>> ((5 : Int32) &&& 31)) &&& (1 : Int32)) <<< ((1 : Int32) &&& 31))) _ (is16_or hw1 (is16_sh (k := 1) (by decide))) hSq hl
  have cut4 : ∀ (w1 : Int32) (ls : Array Slot), is16 w1 → SP = s_M_decode_cut4 x w1 →  lv_has ls 4 [(0, .int x), (1, .int w1), (2, .int 1), (3, .int 4)] → W p l e (headSpec (tbw y_M_decode b_M_decode 4 (some .int)) ({ frames := 1, cells := 0, slots := 0, locals := 20 })).room s m ([.int x] : List Value).toArray below meth c s.heap [] 0 0 (MQ below (vp_Si (fun r => (is16 r) ∧ r = SP)) ([.int x] : List Value).toArray s 0 0 (fun _ => False)) (F0 m 6 ls []) := by
    intro w1 ls hw1 hSq0 hl
    clear cut22 cut21 cut20 cut19 cut18 cut17 cut16 cut15 cut14 cut13 cut12 cut11 cut10 cut9 cut8 cut7 cut6
    refine lv_iload_n hx hb d_M_decode_6 rfl (lv_at hl 3 rfl) ?_
    refine lv_bipush (v := 22) hx hb d_M_decode_7 (by decide) ?_
    refine lv_icmp_ge (tgt := 41) hx hb d_M_decode_9 rfl (fun hc70 => by first | exact absurd hc70 (by decide) | exact absurd (by decide) hc70) (fun hc70 => ?_)
    refine lv_iload_n hx hb d_M_decode_12 rfl (lv_at hl 3 rfl) ?_
    refine vp_callSi (va_runS (As := [.int 4]) (rest := []) ⟨hx, hb, hml, hown, hw⟩ (c_M_isDataV l dC dI 4) (va_cwS 1 hw (gdS (k_866) (k_864) (k_865) (k_8)) rfl rfl rfl (by decide +kernel) ⟨Nat.le_of_ble_eq_true rfl, Nat.le_of_ble_eq_true rfl⟩) ⟨fun _ _ _ _ q => q, fun _ _ _ => ⟨rfl, trivial⟩⟩ rfl rfl hl.1 rfl (lv_room (Nat.le_of_ble_eq_true rfl)) d_M_decode_13 ⟨Nat.le_of_ble_eq_true rfl, Nat.le_of_ble_eq_true rfl⟩).run (fun r71 hr72 => ?_)
    subst hr72
    refine W.eq (g2 := F0 m 16 ls [.int 0]) rfl ?_
    refine lv_if_ne (tgt := 22) hx hb d_M_decode_16 rfl (fun hc73 => by first | exact absurd hc73 (by decide) | exact absurd (by decide) hc73) (fun hc73 => ?_)
    refine lv_goto (tgt := 35) hx hb d_M_decode_19 rfl ?_
    refine lv_iinc (k := 3) (v := 5) hx hb d_M_decode_35 hl rfl rfl (by decide) rfl (fun ls hl => ?_)
    replace hl : lv_has ls 4 [(3, .int 5), (0, .int x), (1, .int w1), (2, .int 1)] := hl
    refine lv_goto (tgt := 6) hx hb d_M_decode_38 rfl ?_
    have hSq : SP = s_M_decode_cut5 x w1 := by rw [hSq0, s_M_decode_cut4]; all_goals rfl
    replace hl := lv_sub hl (l' := [(0, .int x), (1, .int w1), (2, .int 1), (3, .int 5)]) [1, 2, 3, 0] rfl
    exact cut5 w1 _ hw1 hSq hl
  have cut3 : ∀ (w1 : Int32) (ls : Array Slot), is16 w1 → SP = s_M_decode_cut3 x w1 →  lv_has ls 4 [(0, .int x), (1, .int w1), (2, .int 0), (3, .int 3)] → W p l e (headSpec (tbw y_M_decode b_M_decode 4 (some .int)) ({ frames := 1, cells := 0, slots := 0, locals := 20 })).room s m ([.int x] : List Value).toArray below meth c s.heap [] 0 0 (MQ below (vp_Si (fun r => (is16 r) ∧ r = SP)) ([.int x] : List Value).toArray s 0 0 (fun _ => False)) (F0 m 6 ls []) := by
    intro w1 ls hw1 hSq0 hl
    clear cut22 cut21 cut20 cut19 cut18 cut17 cut16 cut15 cut14 cut13 cut12 cut11 cut10 cut9 cut8 cut7 cut6 cut5
    refine lv_iload_n hx hb d_M_decode_6 rfl (lv_at hl 3 rfl) ?_
    refine lv_bipush (v := 22) hx hb d_M_decode_7 (by decide) ?_
    refine lv_icmp_ge (tgt := 41) hx hb d_M_decode_9 rfl (fun hc74 => by first | exact absurd hc74 (by decide) | exact absurd (by decide) hc74) (fun hc74 => ?_)
    refine lv_iload_n hx hb d_M_decode_12 rfl (lv_at hl 3 rfl) ?_
    refine vp_callSi (va_runS (As := [.int 3]) (rest := []) ⟨hx, hb, hml, hown, hw⟩ (c_M_isDataV l dC dI 3) (va_cwS 1 hw (gdS (k_866) (k_864) (k_865) (k_8)) rfl rfl rfl (by decide +kernel) ⟨Nat.le_of_ble_eq_true rfl, Nat.le_of_ble_eq_true rfl⟩) ⟨fun _ _ _ _ q => q, fun _ _ _ => ⟨rfl, trivial⟩⟩ rfl rfl hl.1 rfl (lv_room (Nat.le_of_ble_eq_true rfl)) d_M_decode_13 ⟨Nat.le_of_ble_eq_true rfl, Nat.le_of_ble_eq_true rfl⟩).run (fun r75 hr76 => ?_)
    subst hr76
    refine W.eq (g2 := F0 m 16 ls [.int 1]) rfl ?_
    refine lv_if_ne (tgt := 22) hx hb d_M_decode_16 rfl (fun hc77 => ?_) (fun hc77 => by first | exact absurd (by decide) hc77 | exact absurd hc77 (by decide))
    refine lv_iload_n hx hb d_M_decode_22 rfl (lv_at hl 1 rfl) ?_
    refine lv_iload_n hx hb d_M_decode_23 rfl (lv_at hl 0 rfl) ?_
    refine lv_iload_n hx hb d_M_decode_24 rfl (lv_at hl 3 rfl) ?_
    refine lv_ishr hx hb d_M_decode_25 ?_
    refine lv_iconst (v := 1) hx hb d_M_decode_26 (by decide) ?_
    refine lv_iand hx hb d_M_decode_27 ?_
    refine lv_iload_n hx hb d_M_decode_28 rfl (lv_at hl 2 rfl) ?_
    refine lv_ishl hx hb d_M_decode_29 ?_
    refine lv_ior hx hb d_M_decode_30 ?_
    refine lv_istore_n hx hb d_M_decode_31 rfl hl (by decide) rfl (fun ls hl => ?_)
    replace hl : lv_has ls 4 [(1, .int (w1 ||| (((x >>> ((3 : Int32) &&& 31)) &&& (1 : Int32)) <<< ((0 : Int32) &&& 31)))), (0, .int x), (2, .int 0), (3, .int 3)] := hl
    refine lv_iinc (k := 2) (v := 1) hx hb d_M_decode_32 hl rfl rfl (by decide) rfl (fun ls hl => ?_)
    replace hl : lv_has ls 4 [(2, .int 1), (1, .int (w1 ||| (((x >>> ((3 : Int32) &&& 31)) &&& (1 : Int32)) <<< ((0 : Int32) &&& 31)))), (0, .int x), (3, .int 3)] := hl
    refine lv_iinc (k := 3) (v := 4) hx hb d_M_decode_35 hl rfl rfl (by decide) rfl (fun ls hl => ?_)
    replace hl : lv_has ls 4 [(3, .int 4), (2, .int 1), (1, .int (w1 ||| (((x >>> ((3 : Int32) &&& 31)) &&& (1 : Int32)) <<< ((0 : Int32) &&& 31)))), (0, .int x)] := hl
    refine lv_goto (tgt := 6) hx hb d_M_decode_38 rfl ?_
    have hSq : SP = s_M_decode_cut4 x (w1 ||| (((x >>> ((3 : Int32) &&& 31)) &&& (1 : Int32)) <<< ((0 : Int32) &&& 31))) := by rw [hSq0, s_M_decode_cut3]; all_goals rfl
    replace hl := lv_sub hl (l' := [(0, .int x), (1, .int (w1 ||| (((x >>> ((3 : Int32) &&& 31)) &&& (1 : Int32)) <<< ((0 : Int32) &&& 31)))), (2, .int 1), (3, .int 4)]) [3, 2, 1, 0] rfl
    exact cut4 (w1 ||| (((x >>> ((3 : Int32) &&& 31)) &&& (1 : Int32)) <<< ((0 : Int32) &&& 31))) _ (is16_or hw1 (is16_sh (k := 0) (by decide))) hSq hl
  have cut2 : ∀ (w1 : Int32) (ls : Array Slot), is16 w1 → SP = s_M_decode_cut2 x w1 →  lv_has ls 4 [(0, .int x), (1, .int w1), (2, .int 0), (3, .int 2)] → W p l e (headSpec (tbw y_M_decode b_M_decode 4 (some .int)) ({ frames := 1, cells := 0, slots := 0, locals := 20 })).room s m ([.int x] : List Value).toArray below meth c s.heap [] 0 0 (MQ below (vp_Si (fun r => (is16 r) ∧ r = SP)) ([.int x] : List Value).toArray s 0 0 (fun _ => False)) (F0 m 6 ls []) := by
    intro w1 ls hw1 hSq0 hl
    clear cut22 cut21 cut20 cut19 cut18 cut17 cut16 cut15 cut14 cut13 cut12 cut11 cut10 cut9 cut8 cut7 cut6 cut5 cut4
    refine lv_iload_n hx hb d_M_decode_6 rfl (lv_at hl 3 rfl) ?_
    refine lv_bipush (v := 22) hx hb d_M_decode_7 (by decide) ?_
    refine lv_icmp_ge (tgt := 41) hx hb d_M_decode_9 rfl (fun hc78 => by first | exact absurd hc78 (by decide) | exact absurd (by decide) hc78) (fun hc78 => ?_)
    refine lv_iload_n hx hb d_M_decode_12 rfl (lv_at hl 3 rfl) ?_
    refine vp_callSi (va_runS (As := [.int 2]) (rest := []) ⟨hx, hb, hml, hown, hw⟩ (c_M_isDataV l dC dI 2) (va_cwS 1 hw (gdS (k_866) (k_864) (k_865) (k_8)) rfl rfl rfl (by decide +kernel) ⟨Nat.le_of_ble_eq_true rfl, Nat.le_of_ble_eq_true rfl⟩) ⟨fun _ _ _ _ q => q, fun _ _ _ => ⟨rfl, trivial⟩⟩ rfl rfl hl.1 rfl (lv_room (Nat.le_of_ble_eq_true rfl)) d_M_decode_13 ⟨Nat.le_of_ble_eq_true rfl, Nat.le_of_ble_eq_true rfl⟩).run (fun r79 hr80 => ?_)
    subst hr80
    refine W.eq (g2 := F0 m 16 ls [.int 0]) rfl ?_
    refine lv_if_ne (tgt := 22) hx hb d_M_decode_16 rfl (fun hc81 => by first | exact absurd hc81 (by decide) | exact absurd (by decide) hc81) (fun hc81 => ?_)
    refine lv_goto (tgt := 35) hx hb d_M_decode_19 rfl ?_
    refine lv_iinc (k := 3) (v := 3) hx hb d_M_decode_35 hl rfl rfl (by decide) rfl (fun ls hl => ?_)
    replace hl : lv_has ls 4 [(3, .int 3), (0, .int x), (1, .int w1), (2, .int 0)] := hl
    refine lv_goto (tgt := 6) hx hb d_M_decode_38 rfl ?_
    have hSq : SP = s_M_decode_cut3 x w1 := by rw [hSq0, s_M_decode_cut2]; all_goals rfl
    replace hl := lv_sub hl (l' := [(0, .int x), (1, .int w1), (2, .int 0), (3, .int 3)]) [1, 2, 3, 0] rfl
    exact cut3 w1 _ hw1 hSq hl
  have cut1 : ∀ (w1 : Int32) (ls : Array Slot), is16 w1 → SP = s_M_decode_cut1 x w1 →  lv_has ls 4 [(0, .int x), (1, .int w1), (2, .int 0), (3, .int 1)] → W p l e (headSpec (tbw y_M_decode b_M_decode 4 (some .int)) ({ frames := 1, cells := 0, slots := 0, locals := 20 })).room s m ([.int x] : List Value).toArray below meth c s.heap [] 0 0 (MQ below (vp_Si (fun r => (is16 r) ∧ r = SP)) ([.int x] : List Value).toArray s 0 0 (fun _ => False)) (F0 m 6 ls []) := by
    intro w1 ls hw1 hSq0 hl
    clear cut22 cut21 cut20 cut19 cut18 cut17 cut16 cut15 cut14 cut13 cut12 cut11 cut10 cut9 cut8 cut7 cut6 cut5 cut4 cut3
    refine lv_iload_n hx hb d_M_decode_6 rfl (lv_at hl 3 rfl) ?_
    refine lv_bipush (v := 22) hx hb d_M_decode_7 (by decide) ?_
    refine lv_icmp_ge (tgt := 41) hx hb d_M_decode_9 rfl (fun hc82 => by first | exact absurd hc82 (by decide) | exact absurd (by decide) hc82) (fun hc82 => ?_)
    refine lv_iload_n hx hb d_M_decode_12 rfl (lv_at hl 3 rfl) ?_
    refine vp_callSi (va_runS (As := [.int 1]) (rest := []) ⟨hx, hb, hml, hown, hw⟩ (c_M_isDataV l dC dI 1) (va_cwS 1 hw (gdS (k_866) (k_864) (k_865) (k_8)) rfl rfl rfl (by decide +kernel) ⟨Nat.le_of_ble_eq_true rfl, Nat.le_of_ble_eq_true rfl⟩) ⟨fun _ _ _ _ q => q, fun _ _ _ => ⟨rfl, trivial⟩⟩ rfl rfl hl.1 rfl (lv_room (Nat.le_of_ble_eq_true rfl)) d_M_decode_13 ⟨Nat.le_of_ble_eq_true rfl, Nat.le_of_ble_eq_true rfl⟩).run (fun r83 hr84 => ?_)
    subst hr84
    refine W.eq (g2 := F0 m 16 ls [.int 0]) rfl ?_
    refine lv_if_ne (tgt := 22) hx hb d_M_decode_16 rfl (fun hc85 => by first | exact absurd hc85 (by decide) | exact absurd (by decide) hc85) (fun hc85 => ?_)
    refine lv_goto (tgt := 35) hx hb d_M_decode_19 rfl ?_
    refine lv_iinc (k := 3) (v := 2) hx hb d_M_decode_35 hl rfl rfl (by decide) rfl (fun ls hl => ?_)
    replace hl : lv_has ls 4 [(3, .int 2), (0, .int x), (1, .int w1), (2, .int 0)] := hl
    refine lv_goto (tgt := 6) hx hb d_M_decode_38 rfl ?_
    have hSq : SP = s_M_decode_cut2 x w1 := by rw [hSq0, s_M_decode_cut1]; all_goals rfl
    replace hl := lv_sub hl (l' := [(0, .int x), (1, .int w1), (2, .int 0), (3, .int 2)]) [1, 2, 3, 0] rfl
    exact cut2 w1 _ hw1 hSq hl
  clear cut22 cut21 cut20 cut19 cut18 cut17 cut16 cut15 cut14 cut13 cut12 cut11 cut10 cut9 cut8 cut7 cut6 cut5 cut4 cut3 cut2
  refine lv_iconst (v := 0) hx hb d_M_decode_0 (by decide) ?_
  refine lv_istore_n hx hb d_M_decode_1 rfl hl (by decide) rfl (fun ls hl => ?_)
  replace hl : lv_has ls 4 [(1, .int 0), (0, .int x)] := hl
  refine lv_iconst (v := 0) hx hb d_M_decode_2 (by decide) ?_
  refine lv_istore_n hx hb d_M_decode_3 rfl hl (by decide) rfl (fun ls hl => ?_)
  replace hl : lv_has ls 4 [(2, .int 0), (1, .int 0), (0, .int x)] := hl
  refine lv_iconst (v := 1) hx hb d_M_decode_4 (by decide) ?_
  refine lv_istore_n hx hb d_M_decode_5 rfl hl (by decide) rfl (fun ls hl => ?_)
  replace hl : lv_has ls 4 [(3, .int 1), (2, .int 0), (1, .int 0), (0, .int x)] := hl
  have hSq : SP = s_M_decode_cut1 x 0 := by rw [← hSP, s_M_decode]; all_goals rfl
  replace hl := lv_sub hl (l' := [(0, .int x), (1, .int 0), (2, .int 0), (3, .int 1)]) [3, 2, 1, 0] rfl
  exact cut1 0 _ is16_0 hSq hl

set_option maxHeartbeats 4000000 in
set_option maxRecDepth 100000 in
theorem c_M_result (l : Launch) (dC : Nat → ClassId) (dI : Nat → Nat → Nat) (o x y : Int32) : Met l y_M_result (tbw y_M_result b_M_result 3 (some .int)) ({ frames := 0, cells := 0, slots := 0, locals := 0 }) (va_Pc [.int o, .int x, .int y] (fun _ => True)) (vp_Si (fun r => (is16 r) ∧ r = s_M_result o x y)) 0 0 (fun _ => False) := by
  refine Met.ofW (cc := b_M_result) (maxL := 3) (ret := (some .int)) (by decide) rfl ?_
  intro p e s m args below meth c s₁ B hml hv
  obtain ⟨rfl, -⟩ := hv
  have hx := B.exec
  have hb := B.bytes
  have hr := B.returns
  have hts := atoms_spec (ws := (tbw y_M_result b_M_result 3 (some .int))) B.pre
  have hw : ∀ z9 ∈ tb, z9.before ([.int o, .int x, .int y] : List Value).toArray s = true := fun z9 h => hts z9 (List.mem_cons_of_mem _ h)
  have hown : s.vm.findClass "VotedTripleModel" = some m.cls := findClass_of_methodNamed B.named
  have hlocks := B.notSynchronized
  replace hl := lv_entry ([.int o, .int x, .int y]) (n := 3) (Nat.le_of_ble_eq_true rfl)
  rw [lg_entry_eq]
  generalize (lg_sl ([.int o, .int x, .int y]) ++ List.replicate (3 - (lg_sl ([.int o, .int x, .int y])).length) Slot.unset).toArray = ls at hl ⊢
  replace hl : lv_has ls 3 [(0, .int o), (1, .int x), (2, .int y)] := hl
  generalize hSP : s_M_result o x y = SP
  refine lv_iload_n hx hb d_M_result_0 rfl (lv_at hl 0 rfl) ?_
  refine lv_iconst (v := 1) hx hb d_M_result_1 (by decide) ?_
  refine lv_icmp_ne (tgt := 11) hx hb d_M_result_2 rfl (fun hc1 => ?_) (fun hc1 => ?_)
  · --  ¬ o = 1
    refine lv_iload_n hx hb d_M_result_11 rfl (lv_at hl 0 rfl) ?_
    refine lv_iconst (v := 2) hx hb d_M_result_12 (by decide) ?_
    refine lv_icmp_ne (tgt := 22) hx hb d_M_result_13 rfl (fun hc2 => ?_) (fun hc2 => ?_)
    · --  ¬ o = 2
      refine lv_iload_n hx hb d_M_result_22 rfl (lv_at hl 0 rfl) ?_
      refine lv_iconst (v := 3) hx hb d_M_result_23 (by decide) ?_
      refine lv_icmp_ne (tgt := 33) hx hb d_M_result_24 rfl (fun hc3 => ?_) (fun hc3 => ?_)
      · --  ¬ o = 3
        refine lv_iload_n hx hb d_M_result_33 rfl (lv_at hl 1 rfl) ?_
        refine lv_iload_n hx hb d_M_result_34 rfl (lv_at hl 2 rfl) ?_
        refine lv_bipush (v := 15) hx hb d_M_result_35 (by decide) ?_
        refine lv_iand hx hb d_M_result_37 ?_
        refine lv_iushr (v := ush x (y &&& (15 : Int32))) hx hb d_M_result_38 rfl ?_
        refine lv_ldc (v := 65535) hx hb hown (hw _ k_888) d_M_result_39 ?_
        refine lv_iand hx hb d_M_result_41 ?_
        exact W.iret (v := ((ush x (y &&& (15 : Int32))) &&& (65535 : Int32))) hx hb hr (fun t ht _ => ⟨_, rfl, ⟨(is16_m _), (by rw [← hSP, s_M_result]; try (rw [if_neg hc1]); try (rw [if_neg hc2]); try (rw [if_neg hc3]); all_goals rfl)⟩, ht⟩) (fun _ h => by cases h) d_M_result_42
      · --  o = 3
        refine lv_iload_n hx hb d_M_result_27 rfl (lv_at hl 1 rfl) ?_
        refine lv_iload_n hx hb d_M_result_28 rfl (lv_at hl 2 rfl) ?_
        refine lv_ixor hx hb d_M_result_29 ?_
        refine lv_goto (tgt := 39) hx hb d_M_result_30 rfl ?_
        refine lv_ldc (v := 65535) hx hb hown (hw _ k_888) d_M_result_39 ?_
        refine lv_iand hx hb d_M_result_41 ?_
        exact W.iret (v := ((x ^^^ y) &&& (65535 : Int32))) hx hb hr (fun t ht _ => ⟨_, rfl, ⟨(is16_m _), (by rw [← hSP, s_M_result]; try (rw [if_neg hc1]); try (rw [if_neg hc2]); try (rw [if_pos hc3]); all_goals rfl)⟩, ht⟩) (fun _ h => by cases h) d_M_result_42
    · --  o = 2
      refine lv_iload_n hx hb d_M_result_16 rfl (lv_at hl 1 rfl) ?_
      refine lv_iload_n hx hb d_M_result_17 rfl (lv_at hl 2 rfl) ?_
      refine lv_isub hx hb d_M_result_18 ?_
      refine lv_goto (tgt := 39) hx hb d_M_result_19 rfl ?_
      refine lv_ldc (v := 65535) hx hb hown (hw _ k_888) d_M_result_39 ?_
      refine lv_iand hx hb d_M_result_41 ?_
      exact W.iret (v := ((x - y) &&& (65535 : Int32))) hx hb hr (fun t ht _ => ⟨_, rfl, ⟨(is16_m _), (by rw [← hSP, s_M_result]; try (rw [if_neg hc1]); try (rw [if_pos hc2]); all_goals rfl)⟩, ht⟩) (fun _ h => by cases h) d_M_result_42
  · --  o = 1
    refine lv_iload_n hx hb d_M_result_5 rfl (lv_at hl 1 rfl) ?_
    refine lv_iload_n hx hb d_M_result_6 rfl (lv_at hl 2 rfl) ?_
    refine lv_iadd hx hb d_M_result_7 ?_
    refine lv_goto (tgt := 39) hx hb d_M_result_8 rfl ?_
    refine lv_ldc (v := 65535) hx hb hown (hw _ k_888) d_M_result_39 ?_
    refine lv_iand hx hb d_M_result_41 ?_
    exact W.iret (v := ((x + y) &&& (65535 : Int32))) hx hb hr (fun t ht _ => ⟨_, rfl, ⟨(is16_m _), (by rw [← hSP, s_M_result]; try (rw [if_pos hc1]); all_goals rfl)⟩, ht⟩) (fun _ h => by cases h) d_M_result_42

set_option maxHeartbeats 4000000 in
set_option maxRecDepth 100000 in
theorem c_M_isModule (l : Launch) (dC : Nat → ClassId) (dI : Nat → Nat → Nat) (x : Int32) : Met l y_M_isModule (tbw y_M_isModule b_M_isModule 1 (some .boolean)) ({ frames := 0, cells := 0, slots := 0, locals := 0 }) (va_Pc [.int x] (fun _ => True)) (vp_Si (fun r => r = bI (in3 x))) 0 0 (fun _ => False) := by
  refine Met.ofW (cc := b_M_isModule) (maxL := 1) (ret := (some .boolean)) (by decide) rfl ?_
  intro p e s m args below meth c s₁ B hml hv
  obtain ⟨rfl, -⟩ := hv
  have hx := B.exec
  have hb := B.bytes
  have hr := B.returns
  have hts := atoms_spec (ws := (tbw y_M_isModule b_M_isModule 1 (some .boolean))) B.pre
  have hw : ∀ z9 ∈ tb, z9.before ([.int x] : List Value).toArray s = true := fun z9 h => hts z9 (List.mem_cons_of_mem _ h)
  have hown : s.vm.findClass "VotedTripleModel" = some m.cls := findClass_of_methodNamed B.named
  have hlocks := B.notSynchronized
  replace hl := lv_entry ([.int x]) (n := 1) (Nat.le_of_ble_eq_true rfl)
  rw [lg_entry_eq]
  generalize (lg_sl ([.int x]) ++ List.replicate (1 - (lg_sl ([.int x])).length) Slot.unset).toArray = ls at hl ⊢
  replace hl : lv_has ls 1 [(0, .int x)] := hl
  refine lv_iload_n hx hb d_M_isModule_0 rfl (lv_at hl 0 rfl) ?_
  refine lv_if_lt (tgt := 13) hx hb d_M_isModule_1 rfl (fun hc1 => ?_) (fun hc1 => ?_)
  · --  x < 0
    refine lv_iconst (v := 0) hx hb d_M_isModule_13 (by decide) ?_
    exact W.zret (v := 0) (ty := .boolean) hx hb hr rfl (fun t ht _ => ⟨_, rfl, (by simp [bI, in3, hc1]), ht⟩) (fun _ h => by cases h) d_M_isModule_14
  · --  ¬ x < 0
    refine lv_iload_n hx hb d_M_isModule_4 rfl (lv_at hl 0 rfl) ?_
    refine lv_iconst (v := 3) hx hb d_M_isModule_5 (by decide) ?_
    refine lv_icmp_ge (tgt := 13) hx hb d_M_isModule_6 rfl (fun hc2 => ?_) (fun hc2 => ?_)
    · --  3 ≤ x
      refine lv_iconst (v := 0) hx hb d_M_isModule_13 (by decide) ?_
      exact W.zret (v := 0) (ty := .boolean) hx hb hr rfl (fun t ht _ => ⟨_, rfl, (by simp [bI, in3, hc1, hc2]), ht⟩) (fun _ h => by cases h) d_M_isModule_14
    · --  ¬ 3 ≤ x
      refine lv_iconst (v := 1) hx hb d_M_isModule_9 (by decide) ?_
      refine lv_goto (tgt := 14) hx hb d_M_isModule_10 rfl ?_
      exact W.zret (v := 1) (ty := .boolean) hx hb hr rfl (fun t ht _ => ⟨_, rfl, (by simp [bI, in3, hc1, hc2]), ht⟩) (fun _ h => by cases h) d_M_isModule_14
