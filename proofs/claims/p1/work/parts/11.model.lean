set_option maxHeartbeats 4000000 in
set_option maxRecDepth 100000 in
theorem c_M_op (l : Launch) (dC : Nat → ClassId) (dI : Nat → Nat → Nat) (w : Int32) : Met l y_M_op (tbw y_M_op b_M_op 1 (some .int)) ({ frames := 0, cells := 0, slots := 0, locals := 0 }) (va_Pc [.int w] (fun _ => True)) (vp_Si (fun r => r = ush w 24)) 0 0 (fun _ => False) := by
  refine Met.ofW (cc := b_M_op) (maxL := 1) (ret := (some .int)) (by decide) rfl ?_
  intro p e s m args below meth c s₁ B hml hv
  obtain ⟨rfl, -⟩ := hv
  have hx := B.exec
  have hb := B.bytes
  have hr := B.returns
  have hts := atoms_spec (ws := (tbw y_M_op b_M_op 1 (some .int))) B.pre
  have hw : ∀ z9 ∈ tb, z9.before ([.int w] : List Value).toArray s = true := fun z9 h => hts z9 (List.mem_cons_of_mem _ h)
  have hown : s.vm.findClass "VotedTripleModel" = some m.cls := findClass_of_methodNamed B.named
  have hlocks := B.notSynchronized
  have hl := lv_entry ([.int w]) (n := 1) (Nat.le_of_ble_eq_true rfl)
  rw [lg_entry_eq]
  generalize (lg_sl ([.int w]) ++ List.replicate (1 - (lg_sl ([.int w])).length) Slot.unset).toArray = ls at hl ⊢
  have hl : lv_has ls 1 [(0, .int w)] := hl
  refine lv_iload_n hx hb d_M_op_0 rfl (lv_at hl 0 rfl) ?_
  refine lv_bipush (v := 24) hx hb d_M_op_1 (by decide) ?_
  refine lv_iushr (v := ush w 24) hx hb d_M_op_3 rfl ?_
  exact W.iret (v := (ush w 24)) hx hb hr (fun t ht _ => ⟨_, rfl, rfl, ht⟩) (fun _ h => by cases h) d_M_op_4

set_option maxHeartbeats 4000000 in
set_option maxRecDepth 100000 in
theorem c_M_part (l : Launch) (dC : Nat → ClassId) (dI : Nat → Nat → Nat) (w k v : Int32) (hv : 16 - 8 * k = v) : Met l y_M_part (tbw y_M_part b_M_part 2 (some .int)) ({ frames := 0, cells := 0, slots := 0, locals := 0 }) (va_Pc [.int w, .int k] (fun _ => True)) (vp_Si (fun r => r = ush w v &&& 255)) 0 0 (fun _ => False) := by
  refine Met.ofW (cc := b_M_part) (maxL := 2) (ret := (some .int)) (by decide) rfl ?_
  intro p e s m args below meth c s₁ B hml hv
  obtain ⟨rfl, -⟩ := hv
  have hx := B.exec
  have hb := B.bytes
  have hr := B.returns
  have hts := atoms_spec (ws := (tbw y_M_part b_M_part 2 (some .int))) B.pre
  have hw : ∀ z9 ∈ tb, z9.before ([.int w, .int k] : List Value).toArray s = true := fun z9 h => hts z9 (List.mem_cons_of_mem _ h)
  have hown : s.vm.findClass "VotedTripleModel" = some m.cls := findClass_of_methodNamed B.named
  have hlocks := B.notSynchronized
  have hl := lv_entry ([.int w, .int k]) (n := 2) (Nat.le_of_ble_eq_true rfl)
  rw [lg_entry_eq]
  generalize (lg_sl ([.int w, .int k]) ++ List.replicate (2 - (lg_sl ([.int w, .int k])).length) Slot.unset).toArray = ls at hl ⊢
  have hl : lv_has ls 2 [(0, .int w), (1, .int k)] := hl
  refine lv_iload_n hx hb d_M_part_0 rfl (lv_at hl 0 rfl) ?_
  refine lv_bipush (v := 16) hx hb d_M_part_1 (by decide) ?_
  refine lv_bipush (v := 8) hx hb d_M_part_3 (by decide) ?_
  refine lv_iload_n hx hb d_M_part_5 rfl (lv_at hl 1 rfl) ?_
  refine lv_imul hx hb d_M_part_6 ?_
  refine lv_isub hx hb d_M_part_7 ?_
  refine lv_iushr (v := ush w (16 - (8 * k))) hx hb d_M_part_8 rfl ?_
  refine lv_sipush (v := 255) hx hb d_M_part_9 (by decide) ?_
  refine lv_iand hx hb d_M_part_12 ?_
  exact W.iret (v := ((ush w (16 - (8 * k))) &&& 255)) hx hb hr (fun t ht _ => ⟨_, rfl, (by rw [hv]), ht⟩) (fun _ h => by cases h) d_M_part_13

set_option maxHeartbeats 4000000 in
set_option maxRecDepth 100000 in
theorem c_M_isRight (l : Launch) (dC : Nat → ClassId) (dI : Nat → Nat → Nat) (w : Int32) : Met l y_M_isRight (tbw y_M_isRight b_M_isRight 4 (some .boolean)) ({ frames := 1, cells := 0, slots := 0, locals := 21 }) (va_Pc [.int w] (fun _ => True)) (vp_Si (fun r => r = bI (isIn w))) 0 0 (fun _ => False) := by
  refine Met.ofW (cc := b_M_isRight) (maxL := 4) (ret := (some .boolean)) (by decide) rfl ?_
  intro p e s m args below meth c s₁ B hml hv
  obtain ⟨rfl, -⟩ := hv
  have hx := B.exec
  have hb := B.bytes
  have hr := B.returns
  have hts := atoms_spec (ws := (tbw y_M_isRight b_M_isRight 4 (some .boolean))) B.pre
  have hw : ∀ z9 ∈ tb, z9.before ([.int w] : List Value).toArray s = true := fun z9 h => hts z9 (List.mem_cons_of_mem _ h)
  have hown : s.vm.findClass "VotedTripleModel" = some m.cls := findClass_of_methodNamed B.named
  have hlocks := B.notSynchronized
  have hl := lv_entry ([.int w]) (n := 4) (Nat.le_of_ble_eq_true rfl)
  rw [lg_entry_eq]
  generalize (lg_sl ([.int w]) ++ List.replicate (4 - (lg_sl ([.int w])).length) Slot.unset).toArray = ls at hl ⊢
  have hl : lv_has ls 4 [(0, .int w)] := hl
  refine lv_iload_n hx hb d_M_isRight_0 rfl (lv_at hl 0 rfl) ?_
  refine lv_iconst (v := 0) hx hb d_M_isRight_1 (by decide) ?_
  refine vp_callSi (va_runS (As := [.int w, .int 0]) (rest := []) ⟨hx, hb, hml, hown, hw⟩ (c_M_part l dC dI w 0 16 (by decide)) (va_cwS 2 hw (gdS (k_849) (k_847) (k_848) (k_8)) rfl rfl rfl (by decide +kernel) ⟨Nat.le_of_ble_eq_true rfl, Nat.le_of_ble_eq_true rfl⟩) ⟨fun _ _ _ _ q => q, fun _ _ _ => ⟨rfl, trivial⟩⟩ rfl rfl hl.1 rfl (lv_room (Nat.le_of_ble_eq_true rfl)) d_M_isRight_2 ⟨Nat.le_of_ble_eq_true rfl, Nat.le_of_ble_eq_true rfl⟩).run (fun r1 hr2 => ?_)
  subst hr2
  refine lv_istore_n hx hb d_M_isRight_5 rfl hl (by decide) rfl (fun ls hl => ?_)
  have hl : lv_has ls 4 [(1, .int (wA w)), (0, .int w)] := hl
  refine lv_iload_n hx hb d_M_isRight_6 rfl (lv_at hl 1 rfl) ?_
  refine lv_iconst (v := 1) hx hb d_M_isRight_7 (by decide) ?_
  refine vp_callSi (va_runS (As := [.int w, .int 1]) (rest := []) ⟨hx, hb, hml, hown, hw⟩ (c_M_part l dC dI w 1 8 (by decide)) (va_cwS 2 hw (gdS (k_849) (k_847) (k_848) (k_8)) rfl rfl rfl (by decide +kernel) ⟨Nat.le_of_ble_eq_true rfl, Nat.le_of_ble_eq_true rfl⟩) ⟨fun _ _ _ _ q => q, fun _ _ _ => ⟨rfl, trivial⟩⟩ rfl rfl hl.1 rfl (lv_room (Nat.le_of_ble_eq_true rfl)) d_M_isRight_8 ⟨Nat.le_of_ble_eq_true rfl, Nat.le_of_ble_eq_true rfl⟩).run (fun r3 hr4 => ?_)
  subst hr4
  refine lv_istore_n hx hb d_M_isRight_11 rfl hl (by decide) rfl (fun ls hl => ?_)
  have hl : lv_has ls 4 [(2, .int (wB w)), (1, .int (wA w)), (0, .int w)] := hl
  refine lv_iload_n hx hb d_M_isRight_12 rfl (lv_at hl 2 rfl) ?_
  refine lv_iconst (v := 2) hx hb d_M_isRight_13 (by decide) ?_
  refine vp_callSi (va_runS (As := [.int w, .int 2]) (rest := []) ⟨hx, hb, hml, hown, hw⟩ (c_M_part l dC dI w 2 0 (by decide)) (va_cwS 2 hw (gdS (k_849) (k_847) (k_848) (k_8)) rfl rfl rfl (by decide +kernel) ⟨Nat.le_of_ble_eq_true rfl, Nat.le_of_ble_eq_true rfl⟩) ⟨fun _ _ _ _ q => q, fun _ _ _ => ⟨rfl, trivial⟩⟩ rfl rfl hl.1 rfl (lv_room (Nat.le_of_ble_eq_true rfl)) d_M_isRight_14 ⟨Nat.le_of_ble_eq_true rfl, Nat.le_of_ble_eq_true rfl⟩).run (fun r5 hr6 => ?_)
  subst hr6
  refine lv_istore_n hx hb d_M_isRight_17 rfl hl (by decide) rfl (fun ls hl => ?_)
  have hl : lv_has ls 4 [(3, .int (wC w)), (2, .int (wB w)), (1, .int (wA w)), (0, .int w)] := hl
  refine lv_iload_n hx hb d_M_isRight_18 rfl (lv_at hl 3 rfl) ?_
  refine vp_callSi (va_runS (As := [.int w]) (rest := []) ⟨hx, hb, hml, hown, hw⟩ (c_M_op l dC dI w) (va_cwS 1 hw (gdS (k_852) (k_850) (k_851) (k_8)) rfl rfl rfl (by decide +kernel) ⟨Nat.le_of_ble_eq_true rfl, Nat.le_of_ble_eq_true rfl⟩) ⟨fun _ _ _ _ q => q, fun _ _ _ => ⟨rfl, trivial⟩⟩ rfl rfl hl.1 rfl (lv_room (Nat.le_of_ble_eq_true rfl)) d_M_isRight_19 ⟨Nat.le_of_ble_eq_true rfl, Nat.le_of_ble_eq_true rfl⟩).run (fun r7 hr8 => ?_)
  subst hr8
  rcases sw10 (ush w 24) with hs9 | hs9 | hs9 | hs9 | hs9 | hs9 | hs9 | hs9 | hs9 | hs9 | hs9 | hs9
  · refine lv_tableIn (off := 58) (tgt := 80) hx hb d_M_isRight_22 (by rw [hs9]; decide) (by rw [hs9]; decide) (by rw [hs9]; decide) rfl ?_
    refine lv_iload_n hx hb d_M_isRight_80 rfl (lv_at hl 2 rfl) ?_
    refine lv_bipush (v := 8) hx hb d_M_isRight_81 (by decide) ?_
    refine lv_icmp_ge (tgt := 90) hx hb d_M_isRight_83 rfl (fun hc10 => ?_) (fun hc10 => ?_)
    · --  8 ≤ (wA w)
      refine lv_iconst (v := 0) hx hb d_M_isRight_90 (by decide) ?_
      exact W.zret (v := 0) (ty := .boolean) hx hb hr rfl (fun t ht _ => ⟨_, rfl, (by simp [isIn, isInA, isReg, bI, hs9, hc10]), ht⟩) (fun _ h => by cases h) d_M_isRight_91
    · --  ¬ 8 ≤ (wA w)
      refine lv_iconst (v := 1) hx hb d_M_isRight_86 (by decide) ?_
      refine lv_goto (tgt := 91) hx hb d_M_isRight_87 rfl ?_
      exact W.zret (v := 1) (ty := .boolean) hx hb hr rfl (fun t ht _ => ⟨_, rfl, (by simp [isIn, isInA, isReg, bI, hs9, hc10]), ht⟩) (fun _ h => by cases h) d_M_isRight_91
  · refine lv_tableIn (off := 70) (tgt := 92) hx hb d_M_isRight_22 (by rw [hs9]; decide) (by rw [hs9]; decide) (by rw [hs9]; decide) rfl ?_
    refine lv_iload_n hx hb d_M_isRight_92 rfl (lv_at hl 2 rfl) ?_
    refine lv_bipush (v := 8) hx hb d_M_isRight_93 (by decide) ?_
    refine lv_icmp_ge (tgt := 114) hx hb d_M_isRight_95 rfl (fun hc11 => ?_) (fun hc11 => ?_)
    · --  8 ≤ (wA w)
      refine lv_iconst (v := 0) hx hb d_M_isRight_114 (by decide) ?_
      exact W.zret (v := 0) (ty := .boolean) hx hb hr rfl (fun t ht _ => ⟨_, rfl, (by simp [isIn, isInA, isReg, bI, hs9, hc11]), ht⟩) (fun _ h => by cases h) d_M_isRight_115
    · --  ¬ 8 ≤ (wA w)
      refine lv_iload_n hx hb d_M_isRight_98 rfl (lv_at hl 1 rfl) ?_
      refine lv_bipush (v := 8) hx hb d_M_isRight_99 (by decide) ?_
      refine lv_icmp_ge (tgt := 114) hx hb d_M_isRight_101 rfl (fun hc12 => ?_) (fun hc12 => ?_)
      · --  8 ≤ (wB w)
        refine lv_iconst (v := 0) hx hb d_M_isRight_114 (by decide) ?_
        exact W.zret (v := 0) (ty := .boolean) hx hb hr rfl (fun t ht _ => ⟨_, rfl, (by simp [isIn, isInA, isReg, bI, hs9, hc11, hc12]), ht⟩) (fun _ h => by cases h) d_M_isRight_115
      · --  ¬ 8 ≤ (wB w)
        refine lv_iload_n hx hb d_M_isRight_104 rfl (lv_at hl 0 rfl) ?_
        refine lv_bipush (v := 8) hx hb d_M_isRight_105 (by decide) ?_
        refine lv_icmp_ge (tgt := 114) hx hb d_M_isRight_107 rfl (fun hc13 => ?_) (fun hc13 => ?_)
        · --  8 ≤ (wC w)
          refine lv_iconst (v := 0) hx hb d_M_isRight_114 (by decide) ?_
          exact W.zret (v := 0) (ty := .boolean) hx hb hr rfl (fun t ht _ => ⟨_, rfl, (by simp [isIn, isInA, isReg, bI, hs9, hc11, hc12, hc13]), ht⟩) (fun _ h => by cases h) d_M_isRight_115
        · --  ¬ 8 ≤ (wC w)
          refine lv_iconst (v := 1) hx hb d_M_isRight_110 (by decide) ?_
          refine lv_goto (tgt := 115) hx hb d_M_isRight_111 rfl ?_
          exact W.zret (v := 1) (ty := .boolean) hx hb hr rfl (fun t ht _ => ⟨_, rfl, (by simp [isIn, isInA, isReg, bI, hs9, hc11, hc12, hc13]), ht⟩) (fun _ h => by cases h) d_M_isRight_115
  · refine lv_tableIn (off := 70) (tgt := 92) hx hb d_M_isRight_22 (by rw [hs9]; decide) (by rw [hs9]; decide) (by rw [hs9]; decide) rfl ?_
    refine lv_iload_n hx hb d_M_isRight_92 rfl (lv_at hl 2 rfl) ?_
    refine lv_bipush (v := 8) hx hb d_M_isRight_93 (by decide) ?_
    refine lv_icmp_ge (tgt := 114) hx hb d_M_isRight_95 rfl (fun hc14 => ?_) (fun hc14 => ?_)
    · --  8 ≤ (wA w)
      refine lv_iconst (v := 0) hx hb d_M_isRight_114 (by decide) ?_
      exact W.zret (v := 0) (ty := .boolean) hx hb hr rfl (fun t ht _ => ⟨_, rfl, (by simp [isIn, isInA, isReg, bI, hs9, hc14]), ht⟩) (fun _ h => by cases h) d_M_isRight_115
    · --  ¬ 8 ≤ (wA w)
      refine lv_iload_n hx hb d_M_isRight_98 rfl (lv_at hl 1 rfl) ?_
      refine lv_bipush (v := 8) hx hb d_M_isRight_99 (by decide) ?_
      refine lv_icmp_ge (tgt := 114) hx hb d_M_isRight_101 rfl (fun hc15 => ?_) (fun hc15 => ?_)
      · --  8 ≤ (wB w)
        refine lv_iconst (v := 0) hx hb d_M_isRight_114 (by decide) ?_
        exact W.zret (v := 0) (ty := .boolean) hx hb hr rfl (fun t ht _ => ⟨_, rfl, (by simp [isIn, isInA, isReg, bI, hs9, hc14, hc15]), ht⟩) (fun _ h => by cases h) d_M_isRight_115
      · --  ¬ 8 ≤ (wB w)
        refine lv_iload_n hx hb d_M_isRight_104 rfl (lv_at hl 0 rfl) ?_
        refine lv_bipush (v := 8) hx hb d_M_isRight_105 (by decide) ?_
        refine lv_icmp_ge (tgt := 114) hx hb d_M_isRight_107 rfl (fun hc16 => ?_) (fun hc16 => ?_)
        · --  8 ≤ (wC w)
          refine lv_iconst (v := 0) hx hb d_M_isRight_114 (by decide) ?_
          exact W.zret (v := 0) (ty := .boolean) hx hb hr rfl (fun t ht _ => ⟨_, rfl, (by simp [isIn, isInA, isReg, bI, hs9, hc14, hc15, hc16]), ht⟩) (fun _ h => by cases h) d_M_isRight_115
        · --  ¬ 8 ≤ (wC w)
          refine lv_iconst (v := 1) hx hb d_M_isRight_110 (by decide) ?_
          refine lv_goto (tgt := 115) hx hb d_M_isRight_111 rfl ?_
          exact W.zret (v := 1) (ty := .boolean) hx hb hr rfl (fun t ht _ => ⟨_, rfl, (by simp [isIn, isInA, isReg, bI, hs9, hc14, hc15, hc16]), ht⟩) (fun _ h => by cases h) d_M_isRight_115
  · refine lv_tableIn (off := 70) (tgt := 92) hx hb d_M_isRight_22 (by rw [hs9]; decide) (by rw [hs9]; decide) (by rw [hs9]; decide) rfl ?_
    refine lv_iload_n hx hb d_M_isRight_92 rfl (lv_at hl 2 rfl) ?_
    refine lv_bipush (v := 8) hx hb d_M_isRight_93 (by decide) ?_
    refine lv_icmp_ge (tgt := 114) hx hb d_M_isRight_95 rfl (fun hc17 => ?_) (fun hc17 => ?_)
    · --  8 ≤ (wA w)
      refine lv_iconst (v := 0) hx hb d_M_isRight_114 (by decide) ?_
      exact W.zret (v := 0) (ty := .boolean) hx hb hr rfl (fun t ht _ => ⟨_, rfl, (by simp [isIn, isInA, isReg, bI, hs9, hc17]), ht⟩) (fun _ h => by cases h) d_M_isRight_115
    · --  ¬ 8 ≤ (wA w)
      refine lv_iload_n hx hb d_M_isRight_98 rfl (lv_at hl 1 rfl) ?_
      refine lv_bipush (v := 8) hx hb d_M_isRight_99 (by decide) ?_
      refine lv_icmp_ge (tgt := 114) hx hb d_M_isRight_101 rfl (fun hc18 => ?_) (fun hc18 => ?_)
      · --  8 ≤ (wB w)
        refine lv_iconst (v := 0) hx hb d_M_isRight_114 (by decide) ?_
        exact W.zret (v := 0) (ty := .boolean) hx hb hr rfl (fun t ht _ => ⟨_, rfl, (by simp [isIn, isInA, isReg, bI, hs9, hc17, hc18]), ht⟩) (fun _ h => by cases h) d_M_isRight_115
      · --  ¬ 8 ≤ (wB w)
        refine lv_iload_n hx hb d_M_isRight_104 rfl (lv_at hl 0 rfl) ?_
        refine lv_bipush (v := 8) hx hb d_M_isRight_105 (by decide) ?_
        refine lv_icmp_ge (tgt := 114) hx hb d_M_isRight_107 rfl (fun hc19 => ?_) (fun hc19 => ?_)
        · --  8 ≤ (wC w)
          refine lv_iconst (v := 0) hx hb d_M_isRight_114 (by decide) ?_
          exact W.zret (v := 0) (ty := .boolean) hx hb hr rfl (fun t ht _ => ⟨_, rfl, (by simp [isIn, isInA, isReg, bI, hs9, hc17, hc18, hc19]), ht⟩) (fun _ h => by cases h) d_M_isRight_115
        · --  ¬ 8 ≤ (wC w)
          refine lv_iconst (v := 1) hx hb d_M_isRight_110 (by decide) ?_
          refine lv_goto (tgt := 115) hx hb d_M_isRight_111 rfl ?_
          exact W.zret (v := 1) (ty := .boolean) hx hb hr rfl (fun t ht _ => ⟨_, rfl, (by simp [isIn, isInA, isReg, bI, hs9, hc17, hc18, hc19]), ht⟩) (fun _ h => by cases h) d_M_isRight_115
  · refine lv_tableIn (off := 70) (tgt := 92) hx hb d_M_isRight_22 (by rw [hs9]; decide) (by rw [hs9]; decide) (by rw [hs9]; decide) rfl ?_
    refine lv_iload_n hx hb d_M_isRight_92 rfl (lv_at hl 2 rfl) ?_
    refine lv_bipush (v := 8) hx hb d_M_isRight_93 (by decide) ?_
    refine lv_icmp_ge (tgt := 114) hx hb d_M_isRight_95 rfl (fun hc20 => ?_) (fun hc20 => ?_)
    · --  8 ≤ (wA w)
      refine lv_iconst (v := 0) hx hb d_M_isRight_114 (by decide) ?_
      exact W.zret (v := 0) (ty := .boolean) hx hb hr rfl (fun t ht _ => ⟨_, rfl, (by simp [isIn, isInA, isReg, bI, hs9, hc20]), ht⟩) (fun _ h => by cases h) d_M_isRight_115
    · --  ¬ 8 ≤ (wA w)
      refine lv_iload_n hx hb d_M_isRight_98 rfl (lv_at hl 1 rfl) ?_
      refine lv_bipush (v := 8) hx hb d_M_isRight_99 (by decide) ?_
      refine lv_icmp_ge (tgt := 114) hx hb d_M_isRight_101 rfl (fun hc21 => ?_) (fun hc21 => ?_)
      · --  8 ≤ (wB w)
        refine lv_iconst (v := 0) hx hb d_M_isRight_114 (by decide) ?_
        exact W.zret (v := 0) (ty := .boolean) hx hb hr rfl (fun t ht _ => ⟨_, rfl, (by simp [isIn, isInA, isReg, bI, hs9, hc20, hc21]), ht⟩) (fun _ h => by cases h) d_M_isRight_115
      · --  ¬ 8 ≤ (wB w)
        refine lv_iload_n hx hb d_M_isRight_104 rfl (lv_at hl 0 rfl) ?_
        refine lv_bipush (v := 8) hx hb d_M_isRight_105 (by decide) ?_
        refine lv_icmp_ge (tgt := 114) hx hb d_M_isRight_107 rfl (fun hc22 => ?_) (fun hc22 => ?_)
        · --  8 ≤ (wC w)
          refine lv_iconst (v := 0) hx hb d_M_isRight_114 (by decide) ?_
          exact W.zret (v := 0) (ty := .boolean) hx hb hr rfl (fun t ht _ => ⟨_, rfl, (by simp [isIn, isInA, isReg, bI, hs9, hc20, hc21, hc22]), ht⟩) (fun _ h => by cases h) d_M_isRight_115
        · --  ¬ 8 ≤ (wC w)
          refine lv_iconst (v := 1) hx hb d_M_isRight_110 (by decide) ?_
          refine lv_goto (tgt := 115) hx hb d_M_isRight_111 rfl ?_
          exact W.zret (v := 1) (ty := .boolean) hx hb hr rfl (fun t ht _ => ⟨_, rfl, (by simp [isIn, isInA, isReg, bI, hs9, hc20, hc21, hc22]), ht⟩) (fun _ h => by cases h) d_M_isRight_115
  · refine lv_tableIn (off := 94) (tgt := 116) hx hb d_M_isRight_22 (by rw [hs9]; decide) (by rw [hs9]; decide) (by rw [hs9]; decide) rfl ?_
    refine lv_iload_n hx hb d_M_isRight_116 rfl (lv_at hl 2 rfl) ?_
    refine lv_bipush (v := 8) hx hb d_M_isRight_117 (by decide) ?_
    refine lv_icmp_ge (tgt := 132) hx hb d_M_isRight_119 rfl (fun hc23 => ?_) (fun hc23 => ?_)
    · --  8 ≤ (wA w)
      refine lv_iconst (v := 0) hx hb d_M_isRight_132 (by decide) ?_
      exact W.zret (v := 0) (ty := .boolean) hx hb hr rfl (fun t ht _ => ⟨_, rfl, (by simp [isIn, isInA, isReg, bI, hs9, hc23]), ht⟩) (fun _ h => by cases h) d_M_isRight_133
    · --  ¬ 8 ≤ (wA w)
      refine lv_iload_n hx hb d_M_isRight_122 rfl (lv_at hl 1 rfl) ?_
      refine lv_bipush (v := 8) hx hb d_M_isRight_123 (by decide) ?_
      refine lv_icmp_ge (tgt := 132) hx hb d_M_isRight_125 rfl (fun hc24 => ?_) (fun hc24 => ?_)
      · --  8 ≤ (wB w)
        refine lv_iconst (v := 0) hx hb d_M_isRight_132 (by decide) ?_
        exact W.zret (v := 0) (ty := .boolean) hx hb hr rfl (fun t ht _ => ⟨_, rfl, (by simp [isIn, isInA, isReg, bI, hs9, hc23, hc24]), ht⟩) (fun _ h => by cases h) d_M_isRight_133
      · --  ¬ 8 ≤ (wB w)
        refine lv_iconst (v := 1) hx hb d_M_isRight_128 (by decide) ?_
        refine lv_goto (tgt := 133) hx hb d_M_isRight_129 rfl ?_
        exact W.zret (v := 1) (ty := .boolean) hx hb hr rfl (fun t ht _ => ⟨_, rfl, (by simp [isIn, isInA, isReg, bI, hs9, hc23, hc24]), ht⟩) (fun _ h => by cases h) d_M_isRight_133
  · refine lv_tableIn (off := 94) (tgt := 116) hx hb d_M_isRight_22 (by rw [hs9]; decide) (by rw [hs9]; decide) (by rw [hs9]; decide) rfl ?_
    refine lv_iload_n hx hb d_M_isRight_116 rfl (lv_at hl 2 rfl) ?_
    refine lv_bipush (v := 8) hx hb d_M_isRight_117 (by decide) ?_
    refine lv_icmp_ge (tgt := 132) hx hb d_M_isRight_119 rfl (fun hc25 => ?_) (fun hc25 => ?_)
    · --  8 ≤ (wA w)
      refine lv_iconst (v := 0) hx hb d_M_isRight_132 (by decide) ?_
      exact W.zret (v := 0) (ty := .boolean) hx hb hr rfl (fun t ht _ => ⟨_, rfl, (by simp [isIn, isInA, isReg, bI, hs9, hc25]), ht⟩) (fun _ h => by cases h) d_M_isRight_133
    · --  ¬ 8 ≤ (wA w)
      refine lv_iload_n hx hb d_M_isRight_122 rfl (lv_at hl 1 rfl) ?_
      refine lv_bipush (v := 8) hx hb d_M_isRight_123 (by decide) ?_
      refine lv_icmp_ge (tgt := 132) hx hb d_M_isRight_125 rfl (fun hc26 => ?_) (fun hc26 => ?_)
      · --  8 ≤ (wB w)
        refine lv_iconst (v := 0) hx hb d_M_isRight_132 (by decide) ?_
        exact W.zret (v := 0) (ty := .boolean) hx hb hr rfl (fun t ht _ => ⟨_, rfl, (by simp [isIn, isInA, isReg, bI, hs9, hc25, hc26]), ht⟩) (fun _ h => by cases h) d_M_isRight_133
      · --  ¬ 8 ≤ (wB w)
        refine lv_iconst (v := 1) hx hb d_M_isRight_128 (by decide) ?_
        refine lv_goto (tgt := 133) hx hb d_M_isRight_129 rfl ?_
        exact W.zret (v := 1) (ty := .boolean) hx hb hr rfl (fun t ht _ => ⟨_, rfl, (by simp [isIn, isInA, isReg, bI, hs9, hc25, hc26]), ht⟩) (fun _ h => by cases h) d_M_isRight_133
  · refine lv_tableIn (off := 58) (tgt := 80) hx hb d_M_isRight_22 (by rw [hs9]; decide) (by rw [hs9]; decide) (by rw [hs9]; decide) rfl ?_
    refine lv_iload_n hx hb d_M_isRight_80 rfl (lv_at hl 2 rfl) ?_
    refine lv_bipush (v := 8) hx hb d_M_isRight_81 (by decide) ?_
    refine lv_icmp_ge (tgt := 90) hx hb d_M_isRight_83 rfl (fun hc27 => ?_) (fun hc27 => ?_)
    · --  8 ≤ (wA w)
      refine lv_iconst (v := 0) hx hb d_M_isRight_90 (by decide) ?_
      exact W.zret (v := 0) (ty := .boolean) hx hb hr rfl (fun t ht _ => ⟨_, rfl, (by simp [isIn, isInA, isReg, bI, hs9, hc27]), ht⟩) (fun _ h => by cases h) d_M_isRight_91
    · --  ¬ 8 ≤ (wA w)
      refine lv_iconst (v := 1) hx hb d_M_isRight_86 (by decide) ?_
      refine lv_goto (tgt := 91) hx hb d_M_isRight_87 rfl ?_
      exact W.zret (v := 1) (ty := .boolean) hx hb hr rfl (fun t ht _ => ⟨_, rfl, (by simp [isIn, isInA, isReg, bI, hs9, hc27]), ht⟩) (fun _ h => by cases h) d_M_isRight_91
  · refine lv_tableIn (off := 112) (tgt := 134) hx hb d_M_isRight_22 (by rw [hs9]; decide) (by rw [hs9]; decide) (by rw [hs9]; decide) rfl ?_
    refine lv_iconst (v := 1) hx hb d_M_isRight_134 (by decide) ?_
    exact W.zret (v := 1) (ty := .boolean) hx hb hr rfl (fun t ht _ => ⟨_, rfl, (by simp [isIn, isInA, isReg, bI, hs9]), ht⟩) (fun _ h => by cases h) d_M_isRight_135
  · refine lv_tableIn (off := 58) (tgt := 80) hx hb d_M_isRight_22 (by rw [hs9]; decide) (by rw [hs9]; decide) (by rw [hs9]; decide) rfl ?_
    refine lv_iload_n hx hb d_M_isRight_80 rfl (lv_at hl 2 rfl) ?_
    refine lv_bipush (v := 8) hx hb d_M_isRight_81 (by decide) ?_
    refine lv_icmp_ge (tgt := 90) hx hb d_M_isRight_83 rfl (fun hc28 => ?_) (fun hc28 => ?_)
    · --  8 ≤ (wA w)
      refine lv_iconst (v := 0) hx hb d_M_isRight_90 (by decide) ?_
      exact W.zret (v := 0) (ty := .boolean) hx hb hr rfl (fun t ht _ => ⟨_, rfl, (by simp [isIn, isInA, isReg, bI, hs9, hc28]), ht⟩) (fun _ h => by cases h) d_M_isRight_91
    · --  ¬ 8 ≤ (wA w)
      refine lv_iconst (v := 1) hx hb d_M_isRight_86 (by decide) ?_
      refine lv_goto (tgt := 91) hx hb d_M_isRight_87 rfl ?_
      exact W.zret (v := 1) (ty := .boolean) hx hb hr rfl (fun t ht _ => ⟨_, rfl, (by simp [isIn, isInA, isReg, bI, hs9, hc28]), ht⟩) (fun _ h => by cases h) d_M_isRight_91
  · refine lv_tableIn (off := 58) (tgt := 80) hx hb d_M_isRight_22 (by rw [hs9]; decide) (by rw [hs9]; decide) (by rw [hs9]; decide) rfl ?_
    refine lv_iload_n hx hb d_M_isRight_80 rfl (lv_at hl 2 rfl) ?_
    refine lv_bipush (v := 8) hx hb d_M_isRight_81 (by decide) ?_
    refine lv_icmp_ge (tgt := 90) hx hb d_M_isRight_83 rfl (fun hc29 => ?_) (fun hc29 => ?_)
    · --  8 ≤ (wA w)
      refine lv_iconst (v := 0) hx hb d_M_isRight_90 (by decide) ?_
      exact W.zret (v := 0) (ty := .boolean) hx hb hr rfl (fun t ht _ => ⟨_, rfl, (by simp [isIn, isInA, isReg, bI, hs9, hc29]), ht⟩) (fun _ h => by cases h) d_M_isRight_91
    · --  ¬ 8 ≤ (wA w)
      refine lv_iconst (v := 1) hx hb d_M_isRight_86 (by decide) ?_
      refine lv_goto (tgt := 91) hx hb d_M_isRight_87 rfl ?_
      exact W.zret (v := 1) (ty := .boolean) hx hb hr rfl (fun t ht _ => ⟨_, rfl, (by simp [isIn, isInA, isReg, bI, hs9, hc29]), ht⟩) (fun _ h => by cases h) d_M_isRight_91
  · refine lv_tableOut (tgt := 136) hx hb d_M_isRight_22 hs9 rfl ?_
    refine lv_iconst (v := 0) hx hb d_M_isRight_136 (by decide) ?_
    exact W.zret (v := 0) (ty := .boolean) hx hb hr rfl (fun t ht _ => ⟨_, rfl, (by rw [isIn_out hs9]; rfl), ht⟩) (fun _ h => by cases h) d_M_isRight_137

set_option maxHeartbeats 4000000 in
set_option maxRecDepth 100000 in
theorem c_M_program_0 (l : Launch) (dC : Nat → ClassId) (dI : Nat → Nat → Nat) (h0 g2 g8 g9 g10 g11 g12 g13 g14 g15 g16 g17 g18 g19 g20 g21 g22 g23 g28 g30 g31 g32 g36 : Nat) (cA : ClassId) (f : Nat → Int32) (i w : Int32) (sz : Nat) : Met l y_M_program (tbw y_M_program b_M_program 3 (some .boolean)) ({ frames := 2, cells := 0, slots := 0, locals := 44 }) (va_Pc [.ref h0, .int i, .int w] (fun U => U.heap.size = sz ∧ va_P (dC, dI) classes [(h0, .inr (6, [.int 0, .int 0, .ref g2, .int 0, .int 0, .int 0, .int 0, .int 0, .ref g8, .ref g9, .ref g10, .ref g11, .ref g12, .ref g13, .ref g14, .ref g15, .ref g16, .ref g17, .ref g18, .ref g19, .ref g20, .ref g21, .ref g22, .ref g23, .int 0, .int 0, .int 0, .int 0, .ref g28, .int 0, .ref g30, .ref g31, .ref g32, .int 0, .int 0, .int 0, .ref g36])), (g2, .inl (cA, 64, .inl f))] U.heap ∧ va_K (dC, dI) classes [(cA, .int)] U ∧ va_D (fun _ => True) [(h0, .inr (6, [.int 0, .int 0, .ref g2, .int 0, .int 0, .int 0, .int 0, .int 0, .ref g8, .ref g9, .ref g10, .ref g11, .ref g12, .ref g13, .ref g14, .ref g15, .ref g16, .ref g17, .ref g18, .ref g19, .ref g20, .ref g21, .ref g22, .ref g23, .int 0, .int 0, .int 0, .int 0, .ref g28, .int 0, .ref g30, .ref g31, .ref g32, .int 0, .int 0, .int 0, .ref g36])), (g2, .inl (cA, 64, .inl f))])) (va_Qi (fun (r : Int32) (u9 : Unit) => match u9 with | _ => r = bI (prF i w)) (fun (u9 : Unit) t => match u9 with | _ => va_P (dC, dI) classes [] t.heap ∧ va_K (dC, dI) classes [] t ∧ va_D (va_A [(h0, .inr (6, [.int 0, .int 0, .ref g2, .int 0, .int 0, .int 0, .int 0, .int 0, .ref g8, .ref g9, .ref g10, .ref g11, .ref g12, .ref g13, .ref g14, .ref g15, .ref g16, .ref g17, .ref g18, .ref g19, .ref g20, .ref g21, .ref g22, .ref g23, .int 0, .int 0, .int 0, .int 0, .ref g28, .int 0, .ref g30, .ref g31, .ref g32, .int 0, .int 0, .int 0, .ref g36])), (g2, .inl (cA, 64, .inl f))] sz) []) (va_A [(h0, .inr (6, [.int 0, .int 0, .ref g2, .int 0, .int 0, .int 0, .int 0, .int 0, .ref g8, .ref g9, .ref g10, .ref g11, .ref g12, .ref g13, .ref g14, .ref g15, .ref g16, .ref g17, .ref g18, .ref g19, .ref g20, .ref g21, .ref g22, .ref g23, .int 0, .int 0, .int 0, .int 0, .ref g28, .int 0, .ref g30, .ref g31, .ref g32, .int 0, .int 0, .int 0, .ref g36])), (g2, .inl (cA, 64, .inl f))] sz)) 0 0 (va_A [(h0, .inr (6, [.int 0, .int 0, .ref g2, .int 0, .int 0, .int 0, .int 0, .int 0, .ref g8, .ref g9, .ref g10, .ref g11, .ref g12, .ref g13, .ref g14, .ref g15, .ref g16, .ref g17, .ref g18, .ref g19, .ref g20, .ref g21, .ref g22, .ref g23, .int 0, .int 0, .int 0, .int 0, .ref g28, .int 0, .ref g30, .ref g31, .ref g32, .int 0, .int 0, .int 0, .ref g36])), (g2, .inl (cA, 64, .inl f))] sz) := by
  refine Met.ofW (cc := b_M_program) (maxL := 3) (ret := (some .boolean)) (by decide) rfl ?_
  intro p e s m args below meth c s₁ B hml hv
  obtain ⟨rfl, hsz, hP, hK, hD0⟩ := hv
  have hx := B.exec
  have hb := B.bytes
  have hr := B.returns
  have hts := atoms_spec (ws := (tbw y_M_program b_M_program 3 (some .boolean))) B.pre
  have hw : ∀ z9 ∈ tb, z9.before ([.ref h0, .int i, .int w] : List Value).toArray s = true := fun z9 h => hts z9 (List.mem_cons_of_mem _ h)
  have hown : s.vm.findClass "VotedTripleModel" = some m.cls := findClass_of_methodNamed B.named
  have hlocks := B.notSynchronized
  subst hsz
  have hD := hD0.self (sz := s.heap.size)
  generalize hAe : va_A [(h0, .inr (6, [.int 0, .int 0, .ref g2, .int 0, .int 0, .int 0, .int 0, .int 0, .ref g8, .ref g9, .ref g10, .ref g11, .ref g12, .ref g13, .ref g14, .ref g15, .ref g16, .ref g17, .ref g18, .ref g19, .ref g20, .ref g21, .ref g22, .ref g23, .int 0, .int 0, .int 0, .int 0, .ref g28, .int 0, .ref g30, .ref g31, .ref g32, .int 0, .int 0, .int 0, .ref g36])), (g2, .inl (cA, 64, .inl f))] s.heap.size = A at hD ⊢
  have hA : ∀ q : Nat, s.heap.size ≤ q → A q := fun q h => by rw [← hAe]; exact Or.inr h
  have hS : va_S A s.heap s.heap [] := va_S.rf
  have hl := lv_entry ([.ref h0, .int i, .int w]) (n := 3) (Nat.le_of_ble_eq_true rfl)
  rw [lg_entry_eq]
  generalize (lg_sl ([.ref h0, .int i, .int w]) ++ List.replicate (3 - (lg_sl ([.ref h0, .int i, .int w])).length) Slot.unset).toArray = ls at hl ⊢
  have hl : lv_has ls 3 [(0, .ref h0), (1, .int i), (2, .int w)] := hl
  refine lv_aload_n hx hb d_M_program_0 rfl (lv_at hl 0 rfl) ?_
  refine lv_iconst (v := 0) hx hb d_M_program_1 (by decide) ?_
  refine va_put (D := (dC, dI)) (ci := 6) (v := .int 0) (ty := .int) (C := "VotedTripleModel") (T := F_M) (N := 37) hx hb hw in_M ft_M tyok_M nm_M hown hK hP hD hS 0 rfl rfl 0 (by decide) (hw _ k_724) (fun _ h9 => h9) rfl (by decide +kernel) rfl rfl (Nat.le_of_ble_eq_true rfl) d_M_program_2 (fun H locs hP hD hS => ?_)
  have hP : va_P (dC, dI) classes [(h0, .inr (6, [.int 0, .int 0, .ref g2, .int 0, .int 0, .int 0, .int 0, .int 0, .ref g8, .ref g9, .ref g10, .ref g11, .ref g12, .ref g13, .ref g14, .ref g15, .ref g16, .ref g17, .ref g18, .ref g19, .ref g20, .ref g21, .ref g22, .ref g23, .int 0, .int 0, .int 0, .int 0, .ref g28, .int 0, .ref g30, .ref g31, .ref g32, .int 0, .int 0, .int 0, .ref g36])), (g2, .inl (cA, 64, .inl f))] H := hP
  have hD : va_D A [(h0, .inr (6, [.int 0, .int 0, .ref g2, .int 0, .int 0, .int 0, .int 0, .int 0, .ref g8, .ref g9, .ref g10, .ref g11, .ref g12, .ref g13, .ref g14, .ref g15, .ref g16, .ref g17, .ref g18, .ref g19, .ref g20, .ref g21, .ref g22, .ref g23, .int 0, .int 0, .int 0, .int 0, .ref g28, .int 0, .ref g30, .ref g31, .ref g32, .int 0, .int 0, .int 0, .ref g36])), (g2, .inl (cA, 64, .inl f))] := hD
  refine lv_aload_n hx hb d_M_program_5 rfl (lv_at hl 0 rfl) ?_
  refine va_get (D := (dC, dI)) (ci := 6) (v := .int 0) (C := "VotedTripleModel") (T := F_M) (N := 37) hx hb hw in_M hown hK hP 0 rfl rfl 3 (by decide) (hw _ k_727) (fun _ h9 => h9) rfl d_M_program_6 ?_
  refine lv_if_ne (tgt := 37) hx hb d_M_program_9 rfl (fun hc1 => by first | exact absurd hc1 (by decide) | exact absurd (by decide) hc1) (fun hc1 => ?_)
  refine lv_iload_n hx hb d_M_program_12 rfl (lv_at hl 1 rfl) ?_
  refine lv_if_lt (tgt := 37) hx hb d_M_program_13 rfl (fun hc2 => ?_) (fun hc2 => ?_)
  · --  i < 0
    refine lv_iconst (v := 0) hx hb d_M_program_37 (by decide) ?_
    have hP9 := hP.sub (ws' := []) [] rfl
    have hD9 := hD.sub (ws' := []) [] (by decide) rfl
    have hK9 := hK.sub (tys' := []) [] rfl
    refine W.widen (k := 0) (n := 0) (Nat.le_of_ble_eq_true rfl) (Nat.le_of_ble_eq_true rfl) ?_
    exact W.zret (v := 0) (ty := .boolean) hx hb hr rfl (fun t ht hW => ⟨⟨_, (), rfl, (by rw [prF_neg hc2]; rfl), by rw [ht]; exact hP9, va_K.moved hW.alike hK9, hD9⟩, hS.F ht⟩) hS.2.2 d_M_program_38
  · --  ¬ i < 0
    refine lv_iload_n hx hb d_M_program_16 rfl (lv_at hl 1 rfl) ?_
    refine lv_aload_n hx hb d_M_program_17 rfl (lv_at hl 0 rfl) ?_
    refine va_get (D := (dC, dI)) (ci := 6) (v := .int 0) (C := "VotedTripleModel") (T := F_M) (N := 37) hx hb hw in_M hown hK hP 0 rfl rfl 1 (by decide) (hw _ k_725) (fun _ h9 => h9) rfl d_M_program_18 ?_
    refine lv_icmp_gt (tgt := 37) hx hb d_M_program_21 rfl (fun hc3 => ?_) (fun hc3 => ?_)
    · --  0 < i
      refine lv_iconst (v := 0) hx hb d_M_program_37 (by decide) ?_
      have hP9 := hP.sub (ws' := []) [] rfl
      have hD9 := hD.sub (ws' := []) [] (by decide) rfl
      have hK9 := hK.sub (tys' := []) [] rfl
      refine W.widen (k := 0) (n := 0) (Nat.le_of_ble_eq_true rfl) (Nat.le_of_ble_eq_true rfl) ?_
      exact W.zret (v := 0) (ty := .boolean) hx hb hr rfl (fun t ht hW => ⟨⟨_, (), rfl, (by rw [prF_pos hc3]; rfl), by rw [ht]; exact hP9, va_K.moved hW.alike hK9, hD9⟩, hS.F ht⟩) hS.2.2 d_M_program_38
    · --  ¬ 0 < i
      refine lv_iload_n hx hb d_M_program_24 rfl (lv_at hl 1 rfl) ?_
      refine lv_bipush (v := 63) hx hb d_M_program_25 (by decide) ?_
      refine lv_icmp_gt (tgt := 37) hx hb d_M_program_27 rfl (fun hc4 => ?_) (fun hc4 => ?_)
      · --  63 < i
        refine lv_iconst (v := 0) hx hb d_M_program_37 (by decide) ?_
        have e0 := eq0_of hc2 hc3
        have hP9 := hP.sub (ws' := []) [] rfl
        have hD9 := hD.sub (ws' := []) [] (by decide) rfl
        have hK9 := hK.sub (tys' := []) [] rfl
        refine W.widen (k := 0) (n := 0) (Nat.le_of_ble_eq_true rfl) (Nat.le_of_ble_eq_true rfl) ?_
        exact W.zret (v := 0) (ty := .boolean) hx hb hr rfl (fun t ht hW => ⟨⟨_, (), rfl, absurd hc4 (by rw [e0]; decide), by rw [ht]; exact hP9, va_K.moved hW.alike hK9, hD9⟩, hS.F ht⟩) hS.2.2 d_M_program_38
      · --  ¬ 63 < i
        refine lv_iload_n hx hb d_M_program_30 rfl (lv_at hl 2 rfl) ?_
        refine vp_callSi (va_runS (As := [.int w]) (rest := []) ⟨hx, hb, hml, hown, hw⟩ (c_M_isRight l dC dI w) (va_cwS 1 hw (gdS (k_846) (k_844) (k_845) (k_8)) rfl rfl rfl (by decide +kernel) ⟨Nat.le_of_ble_eq_true rfl, Nat.le_of_ble_eq_true rfl⟩) ⟨fun _ _ _ _ q => q, fun _ _ _ => ⟨rfl, trivial⟩⟩ rfl rfl hl.1 rfl (lv_room (Nat.le_of_ble_eq_true rfl)) d_M_program_31 ⟨Nat.le_of_ble_eq_true rfl, Nat.le_of_ble_eq_true rfl⟩).run (fun r5 hr6 => ?_)
        subst hr6
        refine lv_if_ne (tgt := 39) hx hb d_M_program_34 rfl (fun hc7 => ?_) (fun hc7 => ?_)
        · --  ¬ (bI (isIn w)) = 0
          refine lv_aload_n hx hb d_M_program_39 rfl (lv_at hl 0 rfl) ?_
          refine va_get (D := (dC, dI)) (ci := 6) (v := .ref g2) (C := "VotedTripleModel") (T := F_M) (N := 37) hx hb hw in_M hown hK hP 0 rfl rfl 2 (by decide) (hw _ k_726) (fun _ h9 => h9) rfl d_M_program_40 ?_
          refine lv_iload_n hx hb d_M_program_43 rfl (lv_at hl 1 rfl) ?_
          refine lv_iload_n hx hb d_M_program_44 rfl (lv_at hl 2 rfl) ?_
          refine va_iast hx hb hK hP hD hS 1 0 rfl rfl (in_of2 (N := 63) rfl hc2 hc4) d_M_program_45 (fun H locs hP hD hS => ?_)
          have hP : va_P (dC, dI) classes [(h0, .inr (6, [.int 0, .int 0, .ref g2, .int 0, .int 0, .int 0, .int 0, .int 0, .ref g8, .ref g9, .ref g10, .ref g11, .ref g12, .ref g13, .ref g14, .ref g15, .ref g16, .ref g17, .ref g18, .ref g19, .ref g20, .ref g21, .ref g22, .ref g23, .int 0, .int 0, .int 0, .int 0, .ref g28, .int 0, .ref g30, .ref g31, .ref g32, .int 0, .int 0, .int 0, .ref g36])), (g2, .inl (cA, 64, .inl (upd f i.toNatClampNeg w)))] H := hP
          have hD : va_D A [(h0, .inr (6, [.int 0, .int 0, .ref g2, .int 0, .int 0, .int 0, .int 0, .int 0, .ref g8, .ref g9, .ref g10, .ref g11, .ref g12, .ref g13, .ref g14, .ref g15, .ref g16, .ref g17, .ref g18, .ref g19, .ref g20, .ref g21, .ref g22, .ref g23, .int 0, .int 0, .int 0, .int 0, .ref g28, .int 0, .ref g30, .ref g31, .ref g32, .int 0, .int 0, .int 0, .ref g36])), (g2, .inl (cA, 64, .inl (upd f i.toNatClampNeg w)))] := hD
          refine lv_iload_n hx hb d_M_program_46 rfl (lv_at hl 1 rfl) ?_
          refine lv_aload_n hx hb d_M_program_47 rfl (lv_at hl 0 rfl) ?_
          refine va_get (D := (dC, dI)) (ci := 6) (v := .int 0) (C := "VotedTripleModel") (T := F_M) (N := 37) hx hb hw in_M hown hK hP 0 rfl rfl 1 (by decide) (hw _ k_725) (fun _ h9 => h9) rfl d_M_program_48 ?_
          refine lv_icmp_ne (tgt := 64) hx hb d_M_program_51 rfl (fun hc8 => ?_) (fun hc8 => ?_)
          · --  ¬ i = 0
            refine lv_iconst (v := 1) hx hb d_M_program_64 (by decide) ?_
            have e0 := eq0_of hc2 hc3
            have hP9 := hP.sub (ws' := []) [] rfl
            have hD9 := hD.sub (ws' := []) [] (by decide) rfl
            have hK9 := hK.sub (tys' := []) [] rfl
            refine W.widen (k := 0) (n := 0) (Nat.le_of_ble_eq_true rfl) (Nat.le_of_ble_eq_true rfl) ?_
            exact W.zret (v := 1) (ty := .boolean) hx hb hr rfl (fun t ht hW => ⟨⟨_, (), rfl, (by simp [prF, bI, bI_t hc7, e0]), by rw [ht]; exact hP9, va_K.moved hW.alike hK9, hD9⟩, hS.F ht⟩) hS.2.2 d_M_program_65
          · --  i = 0
            refine lv_aload_n hx hb d_M_program_54 rfl (lv_at hl 0 rfl) ?_
            refine lv_dup hx hb d_M_program_55 rfl ?_
            refine va_get (D := (dC, dI)) (ci := 6) (v := .int 0) (C := "VotedTripleModel") (T := F_M) (N := 37) hx hb hw in_M hown hK hP 0 rfl rfl 1 (by decide) (hw _ k_725) (fun _ h9 => h9) rfl d_M_program_56 ?_
            refine lv_iconst (v := 1) hx hb d_M_program_59 (by decide) ?_
            refine lv_iadd hx hb d_M_program_60 ?_
            refine va_put (D := (dC, dI)) (ci := 6) (v := .int (0 + 1)) (ty := .int) (C := "VotedTripleModel") (T := F_M) (N := 37) hx hb hw in_M ft_M tyok_M nm_M hown hK hP hD hS 0 rfl rfl 1 (by decide) (hw _ k_725) (fun _ h9 => h9) rfl (by decide +kernel) rfl rfl (Nat.le_of_ble_eq_true rfl) d_M_program_61 (fun H locs hP hD hS => ?_)
            have hP : va_P (dC, dI) classes [(h0, .inr (6, [.int 0, .int (0 + 1), .ref g2, .int 0, .int 0, .int 0, .int 0, .int 0, .ref g8, .ref g9, .ref g10, .ref g11, .ref g12, .ref g13, .ref g14, .ref g15, .ref g16, .ref g17, .ref g18, .ref g19, .ref g20, .ref g21, .ref g22, .ref g23, .int 0, .int 0, .int 0, .int 0, .ref g28, .int 0, .ref g30, .ref g31, .ref g32, .int 0, .int 0, .int 0, .ref g36])), (g2, .inl (cA, 64, .inl (upd f i.toNatClampNeg w)))] H := hP
            have hD : va_D A [(h0, .inr (6, [.int 0, .int (0 + 1), .ref g2, .int 0, .int 0, .int 0, .int 0, .int 0, .ref g8, .ref g9, .ref g10, .ref g11, .ref g12, .ref g13, .ref g14, .ref g15, .ref g16, .ref g17, .ref g18, .ref g19, .ref g20, .ref g21, .ref g22, .ref g23, .int 0, .int 0, .int 0, .int 0, .ref g28, .int 0, .ref g30, .ref g31, .ref g32, .int 0, .int 0, .int 0, .ref g36])), (g2, .inl (cA, 64, .inl (upd f i.toNatClampNeg w)))] := hD
            refine lv_iconst (v := 1) hx hb d_M_program_64 (by decide) ?_
            have e0 := eq0_of hc2 hc3
            have hP9 := hP.sub (ws' := []) [] rfl
            have hD9 := hD.sub (ws' := []) [] (by decide) rfl
            have hK9 := hK.sub (tys' := []) [] rfl
            refine W.widen (k := 0) (n := 0) (Nat.le_of_ble_eq_true rfl) (Nat.le_of_ble_eq_true rfl) ?_
            exact W.zret (v := 1) (ty := .boolean) hx hb hr rfl (fun t ht hW => ⟨⟨_, (), rfl, (by simp [prF, bI, bI_t hc7, e0]), by rw [ht]; exact hP9, va_K.moved hW.alike hK9, hD9⟩, hS.F ht⟩) hS.2.2 d_M_program_65
        · --  (bI (isIn w)) = 0
          refine lv_iconst (v := 0) hx hb d_M_program_37 (by decide) ?_
          have hP9 := hP.sub (ws' := []) [] rfl
          have hD9 := hD.sub (ws' := []) [] (by decide) rfl
          have hK9 := hK.sub (tys' := []) [] rfl
          refine W.widen (k := 0) (n := 0) (Nat.le_of_ble_eq_true rfl) (Nat.le_of_ble_eq_true rfl) ?_
          exact W.zret (v := 0) (ty := .boolean) hx hb hr rfl (fun t ht hW => ⟨⟨_, (), rfl, (by simp [prF, bI, bI_f hc7]), by rw [ht]; exact hP9, va_K.moved hW.alike hK9, hD9⟩, hS.F ht⟩) hS.2.2 d_M_program_38

set_option maxHeartbeats 4000000 in
set_option maxRecDepth 100000 in
theorem c_M_canStart_0 (l : Launch) (dC : Nat → ClassId) (dI : Nat → Nat → Nat) (h0 g2 g8 g9 g10 g11 g12 g13 g14 g15 g16 g17 g18 g19 g20 g21 g22 g23 g28 g30 g31 g32 g36 : Nat) : Met l y_M_canStart (tbw y_M_canStart b_M_canStart 3 (some .boolean)) ({ frames := 0, cells := 0, slots := 0, locals := 0 }) (va_Pc [.ref h0] (fun U => va_P (dC, dI) classes [(h0, .inr (6, [.int 0, .int 0, .ref g2, .int 0, .int 0, .int 0, .int 0, .int 0, .ref g8, .ref g9, .ref g10, .ref g11, .ref g12, .ref g13, .ref g14, .ref g15, .ref g16, .ref g17, .ref g18, .ref g19, .ref g20, .ref g21, .ref g22, .ref g23, .int 0, .int 0, .int 0, .int 0, .ref g28, .int 0, .ref g30, .ref g31, .ref g32, .int 0, .int 0, .int 0, .ref g36]))] U.heap ∧ va_K (dC, dI) classes [] U)) (vp_Si (fun r => r = 0)) 0 0 (fun _ => False) := by
  refine Met.ofW (cc := b_M_canStart) (maxL := 3) (ret := (some .boolean)) (by decide) rfl ?_
  intro p e s m args below meth c s₁ B hml hv
  obtain ⟨rfl, hP, hK⟩ := hv
  have hx := B.exec
  have hb := B.bytes
  have hr := B.returns
  have hts := atoms_spec (ws := (tbw y_M_canStart b_M_canStart 3 (some .boolean))) B.pre
  have hw : ∀ z9 ∈ tb, z9.before ([.ref h0] : List Value).toArray s = true := fun z9 h => hts z9 (List.mem_cons_of_mem _ h)
  have hown : s.vm.findClass "VotedTripleModel" = some m.cls := findClass_of_methodNamed B.named
  have hlocks := B.notSynchronized
  have hl := lv_entry ([.ref h0]) (n := 3) (Nat.le_of_ble_eq_true rfl)
  rw [lg_entry_eq]
  generalize (lg_sl ([.ref h0]) ++ List.replicate (3 - (lg_sl ([.ref h0])).length) Slot.unset).toArray = ls at hl ⊢
  have hl : lv_has ls 3 [(0, .ref h0)] := hl
  refine lv_iconst (v := 0) hx hb d_M_canStart_0 (by decide) ?_
  refine lv_istore_n hx hb d_M_canStart_1 rfl hl (by decide) rfl (fun ls hl => ?_)
  have hl : lv_has ls 3 [(1, .int 0), (0, .ref h0)] := hl
  refine lv_iload_n hx hb d_M_canStart_2 rfl (lv_at hl 0 rfl) ?_
  refine lv_aload_n hx hb d_M_canStart_3 rfl (lv_at hl 1 rfl) ?_
  refine va_get (D := (dC, dI)) (ci := 6) (v := .int 0) (C := "VotedTripleModel") (T := F_M) (N := 37) hx hb hw in_M hown hK hP 0 rfl rfl 1 (by decide) (hw _ k_725) (fun _ h9 => h9) rfl d_M_canStart_4 ?_
  refine lv_icmp_ge (tgt := 74) hx hb d_M_canStart_7 rfl (fun hc1 => ?_) (fun hc1 => by first | exact absurd (by decide) hc1 | exact absurd hc1 (by decide))
  refine lv_aload_n hx hb d_M_canStart_74 rfl (lv_at hl 1 rfl) ?_
  refine va_get (D := (dC, dI)) (ci := 6) (v := .int 0) (C := "VotedTripleModel") (T := F_M) (N := 37) hx hb hw in_M hown hK hP 0 rfl rfl 1 (by decide) (hw _ k_725) (fun _ h9 => h9) rfl d_M_canStart_75 ?_
  refine lv_if_le (tgt := 85) hx hb d_M_canStart_78 rfl (fun hc2 => ?_) (fun hc2 => by first | exact absurd (by decide) hc2 | exact absurd hc2 (by decide))
  refine lv_iconst (v := 0) hx hb d_M_canStart_85 (by decide) ?_
  exact W.zret (v := 0) (ty := .boolean) hx hb hr rfl (fun t ht _ => ⟨_, rfl, rfl, ht⟩) (fun _ h => by cases h) d_M_canStart_86

set_option maxHeartbeats 4000000 in
set_option maxRecDepth 100000 in
theorem c_M_start_0 (l : Launch) (dC : Nat → ClassId) (dI : Nat → Nat → Nat) (h0 g2 g8 g9 g10 g11 g12 g13 g14 g15 g16 g17 g18 g19 g20 g21 g22 g23 g28 g30 g31 g32 g36 : Nat) (sz : Nat) : Met l y_M_start (tbw y_M_start b_M_start 2 (some .boolean)) ({ frames := 1, cells := 0, slots := 0, locals := 22 }) (va_Pc [.ref h0] (fun U => U.heap.size = sz ∧ va_P (dC, dI) classes [(h0, .inr (6, [.int 0, .int 0, .ref g2, .int 0, .int 0, .int 0, .int 0, .int 0, .ref g8, .ref g9, .ref g10, .ref g11, .ref g12, .ref g13, .ref g14, .ref g15, .ref g16, .ref g17, .ref g18, .ref g19, .ref g20, .ref g21, .ref g22, .ref g23, .int 0, .int 0, .int 0, .int 0, .ref g28, .int 0, .ref g30, .ref g31, .ref g32, .int 0, .int 0, .int 0, .ref g36]))] U.heap ∧ va_K (dC, dI) classes [] U ∧ va_D (fun _ => True) [(h0, .inr (6, [.int 0, .int 0, .ref g2, .int 0, .int 0, .int 0, .int 0, .int 0, .ref g8, .ref g9, .ref g10, .ref g11, .ref g12, .ref g13, .ref g14, .ref g15, .ref g16, .ref g17, .ref g18, .ref g19, .ref g20, .ref g21, .ref g22, .ref g23, .int 0, .int 0, .int 0, .int 0, .ref g28, .int 0, .ref g30, .ref g31, .ref g32, .int 0, .int 0, .int 0, .ref g36]))])) (va_Qi (fun (r : Int32) (u9 : Unit) => match u9 with | _ => r = 0) (fun (u9 : Unit) t => match u9 with | _ => va_P (dC, dI) classes [] t.heap ∧ va_K (dC, dI) classes [] t ∧ va_D (va_A [(h0, .inr (6, [.int 0, .int 0, .ref g2, .int 0, .int 0, .int 0, .int 0, .int 0, .ref g8, .ref g9, .ref g10, .ref g11, .ref g12, .ref g13, .ref g14, .ref g15, .ref g16, .ref g17, .ref g18, .ref g19, .ref g20, .ref g21, .ref g22, .ref g23, .int 0, .int 0, .int 0, .int 0, .ref g28, .int 0, .ref g30, .ref g31, .ref g32, .int 0, .int 0, .int 0, .ref g36]))] sz) []) (va_A [(h0, .inr (6, [.int 0, .int 0, .ref g2, .int 0, .int 0, .int 0, .int 0, .int 0, .ref g8, .ref g9, .ref g10, .ref g11, .ref g12, .ref g13, .ref g14, .ref g15, .ref g16, .ref g17, .ref g18, .ref g19, .ref g20, .ref g21, .ref g22, .ref g23, .int 0, .int 0, .int 0, .int 0, .ref g28, .int 0, .ref g30, .ref g31, .ref g32, .int 0, .int 0, .int 0, .ref g36]))] sz)) 0 0 (va_A [(h0, .inr (6, [.int 0, .int 0, .ref g2, .int 0, .int 0, .int 0, .int 0, .int 0, .ref g8, .ref g9, .ref g10, .ref g11, .ref g12, .ref g13, .ref g14, .ref g15, .ref g16, .ref g17, .ref g18, .ref g19, .ref g20, .ref g21, .ref g22, .ref g23, .int 0, .int 0, .int 0, .int 0, .ref g28, .int 0, .ref g30, .ref g31, .ref g32, .int 0, .int 0, .int 0, .ref g36]))] sz) := by
  refine Met.ofW (cc := b_M_start) (maxL := 2) (ret := (some .boolean)) (by decide) rfl ?_
  intro p e s m args below meth c s₁ B hml hv
  obtain ⟨rfl, hsz, hP, hK, hD0⟩ := hv
  have hx := B.exec
  have hb := B.bytes
  have hr := B.returns
  have hts := atoms_spec (ws := (tbw y_M_start b_M_start 2 (some .boolean))) B.pre
  have hw : ∀ z9 ∈ tb, z9.before ([.ref h0] : List Value).toArray s = true := fun z9 h => hts z9 (List.mem_cons_of_mem _ h)
  have hown : s.vm.findClass "VotedTripleModel" = some m.cls := findClass_of_methodNamed B.named
  have hlocks := B.notSynchronized
  subst hsz
  have hD := hD0.self (sz := s.heap.size)
  generalize hAe : va_A [(h0, .inr (6, [.int 0, .int 0, .ref g2, .int 0, .int 0, .int 0, .int 0, .int 0, .ref g8, .ref g9, .ref g10, .ref g11, .ref g12, .ref g13, .ref g14, .ref g15, .ref g16, .ref g17, .ref g18, .ref g19, .ref g20, .ref g21, .ref g22, .ref g23, .int 0, .int 0, .int 0, .int 0, .ref g28, .int 0, .ref g30, .ref g31, .ref g32, .int 0, .int 0, .int 0, .ref g36]))] s.heap.size = A at hD ⊢
  have hA : ∀ q : Nat, s.heap.size ≤ q → A q := fun q h => by rw [← hAe]; exact Or.inr h
  have hS : va_S A s.heap s.heap [] := va_S.rf
  have hl := lv_entry ([.ref h0]) (n := 2) (Nat.le_of_ble_eq_true rfl)
  rw [lg_entry_eq]
  generalize (lg_sl ([.ref h0]) ++ List.replicate (2 - (lg_sl ([.ref h0])).length) Slot.unset).toArray = ls at hl ⊢
  have hl : lv_has ls 2 [(0, .ref h0)] := hl
  refine lv_aload_n hx hb d_M_start_0 rfl (lv_at hl 0 rfl) ?_
  refine lv_iconst (v := 0) hx hb d_M_start_1 (by decide) ?_
  refine va_put (D := (dC, dI)) (ci := 6) (v := .int 0) (ty := .int) (C := "VotedTripleModel") (T := F_M) (N := 37) hx hb hw in_M ft_M tyok_M nm_M hown hK hP hD hS 0 rfl rfl 0 (by decide) (hw _ k_724) (fun _ h9 => h9) rfl (by decide +kernel) rfl rfl (Nat.le_of_ble_eq_true rfl) d_M_start_2 (fun H locs hP hD hS => ?_)
  have hP : va_P (dC, dI) classes [(h0, .inr (6, [.int 0, .int 0, .ref g2, .int 0, .int 0, .int 0, .int 0, .int 0, .ref g8, .ref g9, .ref g10, .ref g11, .ref g12, .ref g13, .ref g14, .ref g15, .ref g16, .ref g17, .ref g18, .ref g19, .ref g20, .ref g21, .ref g22, .ref g23, .int 0, .int 0, .int 0, .int 0, .ref g28, .int 0, .ref g30, .ref g31, .ref g32, .int 0, .int 0, .int 0, .ref g36]))] H := hP
  have hD : va_D A [(h0, .inr (6, [.int 0, .int 0, .ref g2, .int 0, .int 0, .int 0, .int 0, .int 0, .ref g8, .ref g9, .ref g10, .ref g11, .ref g12, .ref g13, .ref g14, .ref g15, .ref g16, .ref g17, .ref g18, .ref g19, .ref g20, .ref g21, .ref g22, .ref g23, .int 0, .int 0, .int 0, .int 0, .ref g28, .int 0, .ref g30, .ref g31, .ref g32, .int 0, .int 0, .int 0, .ref g36]))] := hD
  refine lv_aload_n hx hb d_M_start_5 rfl (lv_at hl 0 rfl) ?_
  have hPc := hP.sub (ws' := [(h0, .inr (6, [.int 0, .int 0, .ref g2, .int 0, .int 0, .int 0, .int 0, .int 0, .ref g8, .ref g9, .ref g10, .ref g11, .ref g12, .ref g13, .ref g14, .ref g15, .ref g16, .ref g17, .ref g18, .ref g19, .ref g20, .ref g21, .ref g22, .ref g23, .int 0, .int 0, .int 0, .int 0, .ref g28, .int 0, .ref g30, .ref g31, .ref g32, .int 0, .int 0, .int 0, .ref g36]))]) [0] rfl
  have hKc := hK.sub (tys' := []) [] rfl
  refine vp_callSi (va_runV (C := "VotedTripleModel") (As := []) (rest := []) ⟨hx, hb, hml, hown, hw⟩ (c_M_canStart_0 l dC dI h0 g2 g8 g9 g10 g11 g12 g13 g14 g15 g16 g17 g18 g19 g20 g21 g22 g23 g28 g30 g31 g32 g36) (cwV 0 hw (gdV (k_860) (k_857) (k_859) (ks_22) (k_8)) rfl rfl rfl (by decide +kernel) ⟨Nat.le_of_ble_eq_true rfl, Nat.le_of_ble_eq_true rfl⟩) ⟨fun a U g mk q => ⟨q.1, q.2.1, va_K.moved (u := U) (U := U.calling g mk a) (Vm.Alike.refl U.vm) q.2.2⟩, va_recv hK hP rfl (q0 := 0) rfl, fun U hU hW => ⟨rfl, by rw [hU]; exact hPc, va_K.moved hW.alike hKc⟩⟩ rfl rfl hl.1 rfl (lv_room (Nat.le_of_ble_eq_true rfl)) d_M_start_6 ⟨Nat.le_of_ble_eq_true rfl, Nat.le_of_ble_eq_true rfl⟩).run (fun r1 hr2 => ?_)
  subst hr2
  refine lv_if_ne (tgt := 14) hx hb d_M_start_9 rfl (fun hc3 => by first | exact absurd hc3 (by decide) | exact absurd (by decide) hc3) (fun hc3 => ?_)
  refine lv_iconst (v := 0) hx hb d_M_start_12 (by decide) ?_
  have hP9 := hP.sub (ws' := []) [] rfl
  have hD9 := hD.sub (ws' := []) [] (by decide) rfl
  have hK9 := hK.sub (tys' := []) [] rfl
  refine W.widen (k := 0) (n := 0) (Nat.le_of_ble_eq_true rfl) (Nat.le_of_ble_eq_true rfl) ?_
  exact W.zret (v := 0) (ty := .boolean) hx hb hr rfl (fun t ht hW => ⟨⟨_, (), rfl, rfl, by rw [ht]; exact hP9, va_K.moved hW.alike hK9, hD9⟩, hS.F ht⟩) hS.2.2 d_M_start_13

set_option maxHeartbeats 4000000 in
set_option maxRecDepth 100000 in
theorem c_M_step_0 (l : Launch) (dC : Nat → ClassId) (dI : Nat → Nat → Nat) (h0 g2 g8 g9 g10 g11 g12 g13 g14 g15 g16 g17 g18 g19 g20 g21 g22 g23 g28 g30 g31 g32 g36 : Nat) (x : Int32) (sz : Nat) : Met l y_M_step (tbw y_M_step b_M_step 3 (some .int)) ({ frames := 0, cells := 0, slots := 0, locals := 0 }) (va_Pc [.ref h0, .int x] (fun U => U.heap.size = sz ∧ va_P (dC, dI) classes [(h0, .inr (6, [.int 0, .int 0, .ref g2, .int 0, .int 0, .int 0, .int 0, .int 0, .ref g8, .ref g9, .ref g10, .ref g11, .ref g12, .ref g13, .ref g14, .ref g15, .ref g16, .ref g17, .ref g18, .ref g19, .ref g20, .ref g21, .ref g22, .ref g23, .int 0, .int 0, .int 0, .int 0, .ref g28, .int 0, .ref g30, .ref g31, .ref g32, .int 0, .int 0, .int 0, .ref g36]))] U.heap ∧ va_K (dC, dI) classes [] U ∧ va_D (fun _ => True) [(h0, .inr (6, [.int 0, .int 0, .ref g2, .int 0, .int 0, .int 0, .int 0, .int 0, .ref g8, .ref g9, .ref g10, .ref g11, .ref g12, .ref g13, .ref g14, .ref g15, .ref g16, .ref g17, .ref g18, .ref g19, .ref g20, .ref g21, .ref g22, .ref g23, .int 0, .int 0, .int 0, .int 0, .ref g28, .int 0, .ref g30, .ref g31, .ref g32, .int 0, .int 0, .int 0, .ref g36]))])) (va_Qi (fun (r : Int32) (u9 : Unit) => match u9 with | _ => r = 0) (fun (u9 : Unit) t => match u9 with | _ => va_P (dC, dI) classes [(h0, .inr (6, [.int 1, .int 0, .ref g2, .int 0, .int 0, .int 0, .int 0, .int 0, .ref g8, .ref g9, .ref g10, .ref g11, .ref g12, .ref g13, .ref g14, .ref g15, .ref g16, .ref g17, .ref g18, .ref g19, .ref g20, .ref g21, .ref g22, .ref g23, .int 0, .int 0, .int 0, .int 0, .ref g28, .int 0, .ref g30, .ref g31, .ref g32, .int 0, .int 0, .int 0, .ref g36]))] t.heap ∧ va_K (dC, dI) classes [] t ∧ va_D (va_A [(h0, .inr (6, [.int 0, .int 0, .ref g2, .int 0, .int 0, .int 0, .int 0, .int 0, .ref g8, .ref g9, .ref g10, .ref g11, .ref g12, .ref g13, .ref g14, .ref g15, .ref g16, .ref g17, .ref g18, .ref g19, .ref g20, .ref g21, .ref g22, .ref g23, .int 0, .int 0, .int 0, .int 0, .ref g28, .int 0, .ref g30, .ref g31, .ref g32, .int 0, .int 0, .int 0, .ref g36]))] sz) [(h0, .inr (6, [.int 1, .int 0, .ref g2, .int 0, .int 0, .int 0, .int 0, .int 0, .ref g8, .ref g9, .ref g10, .ref g11, .ref g12, .ref g13, .ref g14, .ref g15, .ref g16, .ref g17, .ref g18, .ref g19, .ref g20, .ref g21, .ref g22, .ref g23, .int 0, .int 0, .int 0, .int 0, .ref g28, .int 0, .ref g30, .ref g31, .ref g32, .int 0, .int 0, .int 0, .ref g36]))]) (va_A [(h0, .inr (6, [.int 0, .int 0, .ref g2, .int 0, .int 0, .int 0, .int 0, .int 0, .ref g8, .ref g9, .ref g10, .ref g11, .ref g12, .ref g13, .ref g14, .ref g15, .ref g16, .ref g17, .ref g18, .ref g19, .ref g20, .ref g21, .ref g22, .ref g23, .int 0, .int 0, .int 0, .int 0, .ref g28, .int 0, .ref g30, .ref g31, .ref g32, .int 0, .int 0, .int 0, .ref g36]))] sz)) 0 0 (va_A [(h0, .inr (6, [.int 0, .int 0, .ref g2, .int 0, .int 0, .int 0, .int 0, .int 0, .ref g8, .ref g9, .ref g10, .ref g11, .ref g12, .ref g13, .ref g14, .ref g15, .ref g16, .ref g17, .ref g18, .ref g19, .ref g20, .ref g21, .ref g22, .ref g23, .int 0, .int 0, .int 0, .int 0, .ref g28, .int 0, .ref g30, .ref g31, .ref g32, .int 0, .int 0, .int 0, .ref g36]))] sz) := by
  refine Met.ofW (cc := b_M_step) (maxL := 3) (ret := (some .int)) (by decide) rfl ?_
  intro p e s m args below meth c s₁ B hml hv
  obtain ⟨rfl, hsz, hP, hK, hD0⟩ := hv
  have hx := B.exec
  have hb := B.bytes
  have hr := B.returns
  have hts := atoms_spec (ws := (tbw y_M_step b_M_step 3 (some .int))) B.pre
  have hw : ∀ z9 ∈ tb, z9.before ([.ref h0, .int x] : List Value).toArray s = true := fun z9 h => hts z9 (List.mem_cons_of_mem _ h)
  have hown : s.vm.findClass "VotedTripleModel" = some m.cls := findClass_of_methodNamed B.named
  have hlocks := B.notSynchronized
  subst hsz
  have hD := hD0.self (sz := s.heap.size)
  generalize hAe : va_A [(h0, .inr (6, [.int 0, .int 0, .ref g2, .int 0, .int 0, .int 0, .int 0, .int 0, .ref g8, .ref g9, .ref g10, .ref g11, .ref g12, .ref g13, .ref g14, .ref g15, .ref g16, .ref g17, .ref g18, .ref g19, .ref g20, .ref g21, .ref g22, .ref g23, .int 0, .int 0, .int 0, .int 0, .ref g28, .int 0, .ref g30, .ref g31, .ref g32, .int 0, .int 0, .int 0, .ref g36]))] s.heap.size = A at hD ⊢
  have hA : ∀ q : Nat, s.heap.size ≤ q → A q := fun q h => by rw [← hAe]; exact Or.inr h
  have hS : va_S A s.heap s.heap [] := va_S.rf
  have hl := lv_entry ([.ref h0, .int x]) (n := 3) (Nat.le_of_ble_eq_true rfl)
  rw [lg_entry_eq]
  generalize (lg_sl ([.ref h0, .int x]) ++ List.replicate (3 - (lg_sl ([.ref h0, .int x])).length) Slot.unset).toArray = ls at hl ⊢
  have hl : lv_has ls 3 [(0, .ref h0), (1, .int x)] := hl
  refine lv_aload_n hx hb d_M_step_0 rfl (lv_at hl 0 rfl) ?_
  refine lv_aload_n hx hb d_M_step_1 rfl (lv_at hl 0 rfl) ?_
  refine va_get (D := (dC, dI)) (ci := 6) (v := .int 0) (C := "VotedTripleModel") (T := F_M) (N := 37) hx hb hw in_M hown hK hP 0 rfl rfl 3 (by decide) (hw _ k_727) (fun _ h9 => h9) rfl d_M_step_2 ?_
  refine lv_if_ne (tgt := 12) hx hb d_M_step_5 rfl (fun hc1 => by first | exact absurd hc1 (by decide) | exact absurd (by decide) hc1) (fun hc1 => ?_)
  refine lv_iconst (v := 1) hx hb d_M_step_8 (by decide) ?_
  refine lv_goto (tgt := 29) hx hb d_M_step_9 rfl ?_
  refine va_put (D := (dC, dI)) (ci := 6) (v := .int 1) (ty := .int) (C := "VotedTripleModel") (T := F_M) (N := 37) hx hb hw in_M ft_M tyok_M nm_M hown hK hP hD hS 0 rfl rfl 0 (by decide) (hw _ k_724) (fun _ h9 => h9) rfl (by decide +kernel) rfl rfl (Nat.le_of_ble_eq_true rfl) d_M_step_29 (fun H locs hP hD hS => ?_)
  have hP : va_P (dC, dI) classes [(h0, .inr (6, [.int 1, .int 0, .ref g2, .int 0, .int 0, .int 0, .int 0, .int 0, .ref g8, .ref g9, .ref g10, .ref g11, .ref g12, .ref g13, .ref g14, .ref g15, .ref g16, .ref g17, .ref g18, .ref g19, .ref g20, .ref g21, .ref g22, .ref g23, .int 0, .int 0, .int 0, .int 0, .ref g28, .int 0, .ref g30, .ref g31, .ref g32, .int 0, .int 0, .int 0, .ref g36]))] H := hP
  have hD : va_D A [(h0, .inr (6, [.int 1, .int 0, .ref g2, .int 0, .int 0, .int 0, .int 0, .int 0, .ref g8, .ref g9, .ref g10, .ref g11, .ref g12, .ref g13, .ref g14, .ref g15, .ref g16, .ref g17, .ref g18, .ref g19, .ref g20, .ref g21, .ref g22, .ref g23, .int 0, .int 0, .int 0, .int 0, .ref g28, .int 0, .ref g30, .ref g31, .ref g32, .int 0, .int 0, .int 0, .ref g36]))] := hD
  refine lv_aload_n hx hb d_M_step_32 rfl (lv_at hl 0 rfl) ?_
  refine va_get (D := (dC, dI)) (ci := 6) (v := .int 1) (C := "VotedTripleModel") (T := F_M) (N := 37) hx hb hw in_M hown hK hP 0 rfl rfl 0 (by decide) (hw _ k_724) (fun _ h9 => h9) rfl d_M_step_33 ?_
  refine lv_if_eq (tgt := 41) hx hb d_M_step_36 rfl (fun hc2 => by first | exact absurd hc2 (by decide) | exact absurd (by decide) hc2) (fun hc2 => ?_)
  refine lv_iconst (v := 0) hx hb d_M_step_39 (by decide) ?_
  have hP9 := hP.sub (ws' := [(h0, .inr (6, [.int 1, .int 0, .ref g2, .int 0, .int 0, .int 0, .int 0, .int 0, .ref g8, .ref g9, .ref g10, .ref g11, .ref g12, .ref g13, .ref g14, .ref g15, .ref g16, .ref g17, .ref g18, .ref g19, .ref g20, .ref g21, .ref g22, .ref g23, .int 0, .int 0, .int 0, .int 0, .ref g28, .int 0, .ref g30, .ref g31, .ref g32, .int 0, .int 0, .int 0, .ref g36]))]) [0] rfl
  have hD9 := hD.sub (ws' := [(h0, .inr (6, [.int 1, .int 0, .ref g2, .int 0, .int 0, .int 0, .int 0, .int 0, .ref g8, .ref g9, .ref g10, .ref g11, .ref g12, .ref g13, .ref g14, .ref g15, .ref g16, .ref g17, .ref g18, .ref g19, .ref g20, .ref g21, .ref g22, .ref g23, .int 0, .int 0, .int 0, .int 0, .ref g28, .int 0, .ref g30, .ref g31, .ref g32, .int 0, .int 0, .int 0, .ref g36]))]) [0] (by decide) rfl
  have hK9 := hK.sub (tys' := []) [] rfl
  refine W.widen (k := 0) (n := 0) (Nat.le_of_ble_eq_true rfl) (Nat.le_of_ble_eq_true rfl) ?_
  exact W.iret (v := 0) hx hb hr (fun t ht hW => ⟨⟨_, (), rfl, rfl, by rw [ht]; exact hP9, va_K.moved hW.alike hK9, hD9⟩, hS.F ht⟩) hS.2.2 d_M_step_40

set_option maxHeartbeats 4000000 in
set_option maxRecDepth 100000 in
theorem c_M_input_0 (l : Launch) (dC : Nat → ClassId) (dI : Nat → Nat → Nat) (h0 g2 g8 g9 g10 g11 g12 g13 g14 g15 g16 g17 g18 g19 g20 g21 g22 g23 g28 g30 g31 g32 g36 : Nat) (x : Int32) (sz : Nat) : Met l y_M_input (tbw y_M_input b_M_input 2 (some .boolean)) ({ frames := 0, cells := 0, slots := 0, locals := 0 }) (va_Pc [.ref h0, .int x] (fun U => U.heap.size = sz ∧ va_P (dC, dI) classes [(h0, .inr (6, [.int 0, .int 0, .ref g2, .int 0, .int 0, .int 0, .int 0, .int 0, .ref g8, .ref g9, .ref g10, .ref g11, .ref g12, .ref g13, .ref g14, .ref g15, .ref g16, .ref g17, .ref g18, .ref g19, .ref g20, .ref g21, .ref g22, .ref g23, .int 0, .int 0, .int 0, .int 0, .ref g28, .int 0, .ref g30, .ref g31, .ref g32, .int 0, .int 0, .int 0, .ref g36]))] U.heap ∧ va_K (dC, dI) classes [] U ∧ va_D (fun _ => True) [(h0, .inr (6, [.int 0, .int 0, .ref g2, .int 0, .int 0, .int 0, .int 0, .int 0, .ref g8, .ref g9, .ref g10, .ref g11, .ref g12, .ref g13, .ref g14, .ref g15, .ref g16, .ref g17, .ref g18, .ref g19, .ref g20, .ref g21, .ref g22, .ref g23, .int 0, .int 0, .int 0, .int 0, .ref g28, .int 0, .ref g30, .ref g31, .ref g32, .int 0, .int 0, .int 0, .ref g36]))])) (va_Qi (fun (r : Int32) (u9 : Unit) => match u9 with | _ => r = 0) (fun (u9 : Unit) t => match u9 with | _ => va_P (dC, dI) classes [] t.heap ∧ va_K (dC, dI) classes [] t ∧ va_D (va_A [(h0, .inr (6, [.int 0, .int 0, .ref g2, .int 0, .int 0, .int 0, .int 0, .int 0, .ref g8, .ref g9, .ref g10, .ref g11, .ref g12, .ref g13, .ref g14, .ref g15, .ref g16, .ref g17, .ref g18, .ref g19, .ref g20, .ref g21, .ref g22, .ref g23, .int 0, .int 0, .int 0, .int 0, .ref g28, .int 0, .ref g30, .ref g31, .ref g32, .int 0, .int 0, .int 0, .ref g36]))] sz) []) (va_A [(h0, .inr (6, [.int 0, .int 0, .ref g2, .int 0, .int 0, .int 0, .int 0, .int 0, .ref g8, .ref g9, .ref g10, .ref g11, .ref g12, .ref g13, .ref g14, .ref g15, .ref g16, .ref g17, .ref g18, .ref g19, .ref g20, .ref g21, .ref g22, .ref g23, .int 0, .int 0, .int 0, .int 0, .ref g28, .int 0, .ref g30, .ref g31, .ref g32, .int 0, .int 0, .int 0, .ref g36]))] sz)) 0 0 (va_A [(h0, .inr (6, [.int 0, .int 0, .ref g2, .int 0, .int 0, .int 0, .int 0, .int 0, .ref g8, .ref g9, .ref g10, .ref g11, .ref g12, .ref g13, .ref g14, .ref g15, .ref g16, .ref g17, .ref g18, .ref g19, .ref g20, .ref g21, .ref g22, .ref g23, .int 0, .int 0, .int 0, .int 0, .ref g28, .int 0, .ref g30, .ref g31, .ref g32, .int 0, .int 0, .int 0, .ref g36]))] sz) := by
  refine Met.ofW (cc := b_M_input) (maxL := 2) (ret := (some .boolean)) (by decide) rfl ?_
  intro p e s m args below meth c s₁ B hml hv
  obtain ⟨rfl, hsz, hP, hK, hD0⟩ := hv
  have hx := B.exec
  have hb := B.bytes
  have hr := B.returns
  have hts := atoms_spec (ws := (tbw y_M_input b_M_input 2 (some .boolean))) B.pre
  have hw : ∀ z9 ∈ tb, z9.before ([.ref h0, .int x] : List Value).toArray s = true := fun z9 h => hts z9 (List.mem_cons_of_mem _ h)
  have hown : s.vm.findClass "VotedTripleModel" = some m.cls := findClass_of_methodNamed B.named
  have hlocks := B.notSynchronized
  subst hsz
  have hD := hD0.self (sz := s.heap.size)
  generalize hAe : va_A [(h0, .inr (6, [.int 0, .int 0, .ref g2, .int 0, .int 0, .int 0, .int 0, .int 0, .ref g8, .ref g9, .ref g10, .ref g11, .ref g12, .ref g13, .ref g14, .ref g15, .ref g16, .ref g17, .ref g18, .ref g19, .ref g20, .ref g21, .ref g22, .ref g23, .int 0, .int 0, .int 0, .int 0, .ref g28, .int 0, .ref g30, .ref g31, .ref g32, .int 0, .int 0, .int 0, .ref g36]))] s.heap.size = A at hD ⊢
  have hA : ∀ q : Nat, s.heap.size ≤ q → A q := fun q h => by rw [← hAe]; exact Or.inr h
  have hS : va_S A s.heap s.heap [] := va_S.rf
  have hl := lv_entry ([.ref h0, .int x]) (n := 2) (Nat.le_of_ble_eq_true rfl)
  rw [lg_entry_eq]
  generalize (lg_sl ([.ref h0, .int x]) ++ List.replicate (2 - (lg_sl ([.ref h0, .int x])).length) Slot.unset).toArray = ls at hl ⊢
  have hl : lv_has ls 2 [(0, .ref h0), (1, .int x)] := hl
  refine lv_aload_n hx hb d_M_input_0 rfl (lv_at hl 0 rfl) ?_
  refine lv_iconst (v := 0) hx hb d_M_input_1 (by decide) ?_
  refine va_put (D := (dC, dI)) (ci := 6) (v := .int 0) (ty := .int) (C := "VotedTripleModel") (T := F_M) (N := 37) hx hb hw in_M ft_M tyok_M nm_M hown hK hP hD hS 0 rfl rfl 0 (by decide) (hw _ k_724) (fun _ h9 => h9) rfl (by decide +kernel) rfl rfl (Nat.le_of_ble_eq_true rfl) d_M_input_2 (fun H locs hP hD hS => ?_)
  have hP : va_P (dC, dI) classes [(h0, .inr (6, [.int 0, .int 0, .ref g2, .int 0, .int 0, .int 0, .int 0, .int 0, .ref g8, .ref g9, .ref g10, .ref g11, .ref g12, .ref g13, .ref g14, .ref g15, .ref g16, .ref g17, .ref g18, .ref g19, .ref g20, .ref g21, .ref g22, .ref g23, .int 0, .int 0, .int 0, .int 0, .ref g28, .int 0, .ref g30, .ref g31, .ref g32, .int 0, .int 0, .int 0, .ref g36]))] H := hP
  have hD : va_D A [(h0, .inr (6, [.int 0, .int 0, .ref g2, .int 0, .int 0, .int 0, .int 0, .int 0, .ref g8, .ref g9, .ref g10, .ref g11, .ref g12, .ref g13, .ref g14, .ref g15, .ref g16, .ref g17, .ref g18, .ref g19, .ref g20, .ref g21, .ref g22, .ref g23, .int 0, .int 0, .int 0, .int 0, .ref g28, .int 0, .ref g30, .ref g31, .ref g32, .int 0, .int 0, .int 0, .ref g36]))] := hD
  refine lv_aload_n hx hb d_M_input_5 rfl (lv_at hl 0 rfl) ?_
  refine va_get (D := (dC, dI)) (ci := 6) (v := .int 0) (C := "VotedTripleModel") (T := F_M) (N := 37) hx hb hw in_M hown hK hP 0 rfl rfl 3 (by decide) (hw _ k_727) (fun _ h9 => h9) rfl d_M_input_6 ?_
  refine lv_if_eq (tgt := 21) hx hb d_M_input_9 rfl (fun hc1 => ?_) (fun hc1 => by first | exact absurd (by decide) hc1 | exact absurd hc1 (by decide))
  refine lv_iconst (v := 0) hx hb d_M_input_21 (by decide) ?_
  have hP9 := hP.sub (ws' := []) [] rfl
  have hD9 := hD.sub (ws' := []) [] (by decide) rfl
  have hK9 := hK.sub (tys' := []) [] rfl
  refine W.widen (k := 0) (n := 0) (Nat.le_of_ble_eq_true rfl) (Nat.le_of_ble_eq_true rfl) ?_
  exact W.zret (v := 0) (ty := .boolean) hx hb hr rfl (fun t ht hW => ⟨⟨_, (), rfl, rfl, by rw [ht]; exact hP9, va_K.moved hW.alike hK9, hD9⟩, hS.F ht⟩) hS.2.2 d_M_input_22

set_option maxHeartbeats 4000000 in
set_option maxRecDepth 100000 in
theorem c_M_output_0 (l : Launch) (dC : Nat → ClassId) (dI : Nat → Nat → Nat) (h0 g2 g8 g9 g10 g11 g12 g13 g14 g15 g16 g17 g18 g19 g20 g21 g22 g23 g28 g30 g31 g32 g36 : Nat) (x : Int32) (sz : Nat) : Met l y_M_output (tbw y_M_output b_M_output 3 (some .int)) ({ frames := 0, cells := 0, slots := 0, locals := 0 }) (va_Pc [.ref h0, .int x] (fun U => U.heap.size = sz ∧ va_P (dC, dI) classes [(h0, .inr (6, [.int 0, .int 0, .ref g2, .int 0, .int 0, .int 0, .int 0, .int 0, .ref g8, .ref g9, .ref g10, .ref g11, .ref g12, .ref g13, .ref g14, .ref g15, .ref g16, .ref g17, .ref g18, .ref g19, .ref g20, .ref g21, .ref g22, .ref g23, .int 0, .int 0, .int 0, .int 0, .ref g28, .int 0, .ref g30, .ref g31, .ref g32, .int 0, .int 0, .int 0, .ref g36]))] U.heap ∧ va_K (dC, dI) classes [] U ∧ va_D (fun _ => True) [(h0, .inr (6, [.int 0, .int 0, .ref g2, .int 0, .int 0, .int 0, .int 0, .int 0, .ref g8, .ref g9, .ref g10, .ref g11, .ref g12, .ref g13, .ref g14, .ref g15, .ref g16, .ref g17, .ref g18, .ref g19, .ref g20, .ref g21, .ref g22, .ref g23, .int 0, .int 0, .int 0, .int 0, .ref g28, .int 0, .ref g30, .ref g31, .ref g32, .int 0, .int 0, .int 0, .ref g36]))])) (va_Qi (fun (r : Int32) (u9 : Unit) => match u9 with | _ => r = 0) (fun (u9 : Unit) t => match u9 with | _ => va_P (dC, dI) classes [(h0, .inr (6, [.int 1, .int 0, .ref g2, .int 0, .int 0, .int 0, .int 0, .int 0, .ref g8, .ref g9, .ref g10, .ref g11, .ref g12, .ref g13, .ref g14, .ref g15, .ref g16, .ref g17, .ref g18, .ref g19, .ref g20, .ref g21, .ref g22, .ref g23, .int 0, .int 0, .int 0, .int 0, .ref g28, .int 0, .ref g30, .ref g31, .ref g32, .int 0, .int 0, .int 0, .ref g36]))] t.heap ∧ va_K (dC, dI) classes [] t ∧ va_D (va_A [(h0, .inr (6, [.int 0, .int 0, .ref g2, .int 0, .int 0, .int 0, .int 0, .int 0, .ref g8, .ref g9, .ref g10, .ref g11, .ref g12, .ref g13, .ref g14, .ref g15, .ref g16, .ref g17, .ref g18, .ref g19, .ref g20, .ref g21, .ref g22, .ref g23, .int 0, .int 0, .int 0, .int 0, .ref g28, .int 0, .ref g30, .ref g31, .ref g32, .int 0, .int 0, .int 0, .ref g36]))] sz) [(h0, .inr (6, [.int 1, .int 0, .ref g2, .int 0, .int 0, .int 0, .int 0, .int 0, .ref g8, .ref g9, .ref g10, .ref g11, .ref g12, .ref g13, .ref g14, .ref g15, .ref g16, .ref g17, .ref g18, .ref g19, .ref g20, .ref g21, .ref g22, .ref g23, .int 0, .int 0, .int 0, .int 0, .ref g28, .int 0, .ref g30, .ref g31, .ref g32, .int 0, .int 0, .int 0, .ref g36]))]) (va_A [(h0, .inr (6, [.int 0, .int 0, .ref g2, .int 0, .int 0, .int 0, .int 0, .int 0, .ref g8, .ref g9, .ref g10, .ref g11, .ref g12, .ref g13, .ref g14, .ref g15, .ref g16, .ref g17, .ref g18, .ref g19, .ref g20, .ref g21, .ref g22, .ref g23, .int 0, .int 0, .int 0, .int 0, .ref g28, .int 0, .ref g30, .ref g31, .ref g32, .int 0, .int 0, .int 0, .ref g36]))] sz)) 0 0 (va_A [(h0, .inr (6, [.int 0, .int 0, .ref g2, .int 0, .int 0, .int 0, .int 0, .int 0, .ref g8, .ref g9, .ref g10, .ref g11, .ref g12, .ref g13, .ref g14, .ref g15, .ref g16, .ref g17, .ref g18, .ref g19, .ref g20, .ref g21, .ref g22, .ref g23, .int 0, .int 0, .int 0, .int 0, .ref g28, .int 0, .ref g30, .ref g31, .ref g32, .int 0, .int 0, .int 0, .ref g36]))] sz) := by
  refine Met.ofW (cc := b_M_output) (maxL := 3) (ret := (some .int)) (by decide) rfl ?_
  intro p e s m args below meth c s₁ B hml hv
  obtain ⟨rfl, hsz, hP, hK, hD0⟩ := hv
  have hx := B.exec
  have hb := B.bytes
  have hr := B.returns
  have hts := atoms_spec (ws := (tbw y_M_output b_M_output 3 (some .int))) B.pre
  have hw : ∀ z9 ∈ tb, z9.before ([.ref h0, .int x] : List Value).toArray s = true := fun z9 h => hts z9 (List.mem_cons_of_mem _ h)
  have hown : s.vm.findClass "VotedTripleModel" = some m.cls := findClass_of_methodNamed B.named
  have hlocks := B.notSynchronized
  subst hsz
  have hD := hD0.self (sz := s.heap.size)
  generalize hAe : va_A [(h0, .inr (6, [.int 0, .int 0, .ref g2, .int 0, .int 0, .int 0, .int 0, .int 0, .ref g8, .ref g9, .ref g10, .ref g11, .ref g12, .ref g13, .ref g14, .ref g15, .ref g16, .ref g17, .ref g18, .ref g19, .ref g20, .ref g21, .ref g22, .ref g23, .int 0, .int 0, .int 0, .int 0, .ref g28, .int 0, .ref g30, .ref g31, .ref g32, .int 0, .int 0, .int 0, .ref g36]))] s.heap.size = A at hD ⊢
  have hA : ∀ q : Nat, s.heap.size ≤ q → A q := fun q h => by rw [← hAe]; exact Or.inr h
  have hS : va_S A s.heap s.heap [] := va_S.rf
  have hl := lv_entry ([.ref h0, .int x]) (n := 3) (Nat.le_of_ble_eq_true rfl)
  rw [lg_entry_eq]
  generalize (lg_sl ([.ref h0, .int x]) ++ List.replicate (3 - (lg_sl ([.ref h0, .int x])).length) Slot.unset).toArray = ls at hl ⊢
  have hl : lv_has ls 3 [(0, .ref h0), (1, .int x)] := hl
  refine lv_aload_n hx hb d_M_output_0 rfl (lv_at hl 0 rfl) ?_
  refine va_get (D := (dC, dI)) (ci := 6) (v := .int 0) (C := "VotedTripleModel") (T := F_M) (N := 37) hx hb hw in_M hown hK hP 0 rfl rfl 3 (by decide) (hw _ k_727) (fun _ h9 => h9) rfl d_M_output_1 ?_
  refine lv_if_eq (tgt := 30) hx hb d_M_output_4 rfl (fun hc1 => ?_) (fun hc1 => by first | exact absurd (by decide) hc1 | exact absurd hc1 (by decide))
  refine lv_iconst (v := 0) hx hb d_M_output_30 (by decide) ?_
  refine lv_istore_n hx hb d_M_output_31 rfl hl (by decide) rfl (fun ls hl => ?_)
  have hl : lv_has ls 3 [(2, .int 0), (0, .ref h0), (1, .int x)] := hl
  refine lv_aload_n hx hb d_M_output_32 rfl (lv_at hl 1 rfl) ?_
  refine lv_iload_n hx hb d_M_output_33 rfl (lv_at hl 0 rfl) ?_
  refine lv_if_eq (tgt := 41) hx hb d_M_output_34 rfl (fun hc2 => ?_) (fun hc2 => by first | exact absurd (by decide) hc2 | exact absurd hc2 (by decide))
  refine lv_iconst (v := 1) hx hb d_M_output_41 (by decide) ?_
  refine va_put (D := (dC, dI)) (ci := 6) (v := .int 1) (ty := .int) (C := "VotedTripleModel") (T := F_M) (N := 37) hx hb hw in_M ft_M tyok_M nm_M hown hK hP hD hS 0 rfl rfl 0 (by decide) (hw _ k_724) (fun _ h9 => h9) rfl (by decide +kernel) rfl rfl (Nat.le_of_ble_eq_true rfl) d_M_output_42 (fun H locs hP hD hS => ?_)
  have hP : va_P (dC, dI) classes [(h0, .inr (6, [.int 1, .int 0, .ref g2, .int 0, .int 0, .int 0, .int 0, .int 0, .ref g8, .ref g9, .ref g10, .ref g11, .ref g12, .ref g13, .ref g14, .ref g15, .ref g16, .ref g17, .ref g18, .ref g19, .ref g20, .ref g21, .ref g22, .ref g23, .int 0, .int 0, .int 0, .int 0, .ref g28, .int 0, .ref g30, .ref g31, .ref g32, .int 0, .int 0, .int 0, .ref g36]))] H := hP
  have hD : va_D A [(h0, .inr (6, [.int 1, .int 0, .ref g2, .int 0, .int 0, .int 0, .int 0, .int 0, .ref g8, .ref g9, .ref g10, .ref g11, .ref g12, .ref g13, .ref g14, .ref g15, .ref g16, .ref g17, .ref g18, .ref g19, .ref g20, .ref g21, .ref g22, .ref g23, .int 0, .int 0, .int 0, .int 0, .ref g28, .int 0, .ref g30, .ref g31, .ref g32, .int 0, .int 0, .int 0, .ref g36]))] := hD
  refine lv_iload_n hx hb d_M_output_45 rfl (lv_at hl 0 rfl) ?_
  refine lv_if_eq (tgt := 58) hx hb d_M_output_46 rfl (fun hc3 => ?_) (fun hc3 => by first | exact absurd (by decide) hc3 | exact absurd hc3 (by decide))
  refine lv_iconst (v := 0) hx hb d_M_output_58 (by decide) ?_
  have hP9 := hP.sub (ws' := [(h0, .inr (6, [.int 1, .int 0, .ref g2, .int 0, .int 0, .int 0, .int 0, .int 0, .ref g8, .ref g9, .ref g10, .ref g11, .ref g12, .ref g13, .ref g14, .ref g15, .ref g16, .ref g17, .ref g18, .ref g19, .ref g20, .ref g21, .ref g22, .ref g23, .int 0, .int 0, .int 0, .int 0, .ref g28, .int 0, .ref g30, .ref g31, .ref g32, .int 0, .int 0, .int 0, .ref g36]))]) [0] rfl
  have hD9 := hD.sub (ws' := [(h0, .inr (6, [.int 1, .int 0, .ref g2, .int 0, .int 0, .int 0, .int 0, .int 0, .ref g8, .ref g9, .ref g10, .ref g11, .ref g12, .ref g13, .ref g14, .ref g15, .ref g16, .ref g17, .ref g18, .ref g19, .ref g20, .ref g21, .ref g22, .ref g23, .int 0, .int 0, .int 0, .int 0, .ref g28, .int 0, .ref g30, .ref g31, .ref g32, .int 0, .int 0, .int 0, .ref g36]))]) [0] (by decide) rfl
  have hK9 := hK.sub (tys' := []) [] rfl
  refine W.widen (k := 0) (n := 0) (Nat.le_of_ble_eq_true rfl) (Nat.le_of_ble_eq_true rfl) ?_
  exact W.iret (v := 0) hx hb hr (fun t ht hW => ⟨⟨_, (), rfl, rfl, by rw [ht]; exact hP9, va_K.moved hW.alike hK9, hD9⟩, hS.F ht⟩) hS.2.2 d_M_output_59

set_option maxHeartbeats 4000000 in
set_option maxRecDepth 100000 in
theorem c_M_perfect_0 (l : Launch) (dC : Nat → ClassId) (dI : Nat → Nat → Nat) (h0 g2 g8 g9 g10 g11 g12 g13 g14 g15 g16 g17 g18 g19 g20 g21 g22 g23 g28 g30 g31 g32 g36 : Nat) (x : Int32) (sz : Nat) : Met l y_M_perfect (tbw y_M_perfect b_M_perfect 3 (some .int)) ({ frames := 0, cells := 0, slots := 0, locals := 0 }) (va_Pc [.ref h0, .int x] (fun U => U.heap.size = sz ∧ va_P (dC, dI) classes [(h0, .inr (6, [.int 0, .int 0, .ref g2, .int 0, .int 0, .int 0, .int 0, .int 0, .ref g8, .ref g9, .ref g10, .ref g11, .ref g12, .ref g13, .ref g14, .ref g15, .ref g16, .ref g17, .ref g18, .ref g19, .ref g20, .ref g21, .ref g22, .ref g23, .int 0, .int 0, .int 0, .int 0, .ref g28, .int 0, .ref g30, .ref g31, .ref g32, .int 0, .int 0, .int 0, .ref g36]))] U.heap ∧ va_K (dC, dI) classes [] U ∧ va_D (fun _ => True) [(h0, .inr (6, [.int 0, .int 0, .ref g2, .int 0, .int 0, .int 0, .int 0, .int 0, .ref g8, .ref g9, .ref g10, .ref g11, .ref g12, .ref g13, .ref g14, .ref g15, .ref g16, .ref g17, .ref g18, .ref g19, .ref g20, .ref g21, .ref g22, .ref g23, .int 0, .int 0, .int 0, .int 0, .ref g28, .int 0, .ref g30, .ref g31, .ref g32, .int 0, .int 0, .int 0, .ref g36]))])) (va_Qi (fun (r : Int32) (u9 : Unit) => match u9 with | _ => r = 0) (fun (u9 : Unit) t => match u9 with | _ => va_P (dC, dI) classes [(h0, .inr (6, [.int 1, .int 0, .ref g2, .int 0, .int 0, .int 0, .int 0, .int 0, .ref g8, .ref g9, .ref g10, .ref g11, .ref g12, .ref g13, .ref g14, .ref g15, .ref g16, .ref g17, .ref g18, .ref g19, .ref g20, .ref g21, .ref g22, .ref g23, .int 0, .int 0, .int 0, .int 0, .ref g28, .int 0, .ref g30, .ref g31, .ref g32, .int 0, .int 0, .int 0, .ref g36]))] t.heap ∧ va_K (dC, dI) classes [] t ∧ va_D (va_A [(h0, .inr (6, [.int 0, .int 0, .ref g2, .int 0, .int 0, .int 0, .int 0, .int 0, .ref g8, .ref g9, .ref g10, .ref g11, .ref g12, .ref g13, .ref g14, .ref g15, .ref g16, .ref g17, .ref g18, .ref g19, .ref g20, .ref g21, .ref g22, .ref g23, .int 0, .int 0, .int 0, .int 0, .ref g28, .int 0, .ref g30, .ref g31, .ref g32, .int 0, .int 0, .int 0, .ref g36]))] sz) [(h0, .inr (6, [.int 1, .int 0, .ref g2, .int 0, .int 0, .int 0, .int 0, .int 0, .ref g8, .ref g9, .ref g10, .ref g11, .ref g12, .ref g13, .ref g14, .ref g15, .ref g16, .ref g17, .ref g18, .ref g19, .ref g20, .ref g21, .ref g22, .ref g23, .int 0, .int 0, .int 0, .int 0, .ref g28, .int 0, .ref g30, .ref g31, .ref g32, .int 0, .int 0, .int 0, .ref g36]))]) (va_A [(h0, .inr (6, [.int 0, .int 0, .ref g2, .int 0, .int 0, .int 0, .int 0, .int 0, .ref g8, .ref g9, .ref g10, .ref g11, .ref g12, .ref g13, .ref g14, .ref g15, .ref g16, .ref g17, .ref g18, .ref g19, .ref g20, .ref g21, .ref g22, .ref g23, .int 0, .int 0, .int 0, .int 0, .ref g28, .int 0, .ref g30, .ref g31, .ref g32, .int 0, .int 0, .int 0, .ref g36]))] sz)) 0 0 (va_A [(h0, .inr (6, [.int 0, .int 0, .ref g2, .int 0, .int 0, .int 0, .int 0, .int 0, .ref g8, .ref g9, .ref g10, .ref g11, .ref g12, .ref g13, .ref g14, .ref g15, .ref g16, .ref g17, .ref g18, .ref g19, .ref g20, .ref g21, .ref g22, .ref g23, .int 0, .int 0, .int 0, .int 0, .ref g28, .int 0, .ref g30, .ref g31, .ref g32, .int 0, .int 0, .int 0, .ref g36]))] sz) := by
  refine Met.ofW (cc := b_M_perfect) (maxL := 3) (ret := (some .int)) (by decide) rfl ?_
  intro p e s m args below meth c s₁ B hml hv
  obtain ⟨rfl, hsz, hP, hK, hD0⟩ := hv
  have hx := B.exec
  have hb := B.bytes
  have hr := B.returns
  have hts := atoms_spec (ws := (tbw y_M_perfect b_M_perfect 3 (some .int))) B.pre
  have hw : ∀ z9 ∈ tb, z9.before ([.ref h0, .int x] : List Value).toArray s = true := fun z9 h => hts z9 (List.mem_cons_of_mem _ h)
  have hown : s.vm.findClass "VotedTripleModel" = some m.cls := findClass_of_methodNamed B.named
  have hlocks := B.notSynchronized
  subst hsz
  have hD := hD0.self (sz := s.heap.size)
  generalize hAe : va_A [(h0, .inr (6, [.int 0, .int 0, .ref g2, .int 0, .int 0, .int 0, .int 0, .int 0, .ref g8, .ref g9, .ref g10, .ref g11, .ref g12, .ref g13, .ref g14, .ref g15, .ref g16, .ref g17, .ref g18, .ref g19, .ref g20, .ref g21, .ref g22, .ref g23, .int 0, .int 0, .int 0, .int 0, .ref g28, .int 0, .ref g30, .ref g31, .ref g32, .int 0, .int 0, .int 0, .ref g36]))] s.heap.size = A at hD ⊢
  have hA : ∀ q : Nat, s.heap.size ≤ q → A q := fun q h => by rw [← hAe]; exact Or.inr h
  have hS : va_S A s.heap s.heap [] := va_S.rf
  have hl := lv_entry ([.ref h0, .int x]) (n := 3) (Nat.le_of_ble_eq_true rfl)
  rw [lg_entry_eq]
  generalize (lg_sl ([.ref h0, .int x]) ++ List.replicate (3 - (lg_sl ([.ref h0, .int x])).length) Slot.unset).toArray = ls at hl ⊢
  have hl : lv_has ls 3 [(0, .ref h0), (1, .int x)] := hl
  refine lv_aload_n hx hb d_M_perfect_0 rfl (lv_at hl 0 rfl) ?_
  refine va_get (D := (dC, dI)) (ci := 6) (v := .int 0) (C := "VotedTripleModel") (T := F_M) (N := 37) hx hb hw in_M hown hK hP 0 rfl rfl 3 (by decide) (hw _ k_727) (fun _ h9 => h9) rfl d_M_perfect_1 ?_
  refine lv_if_eq (tgt := 30) hx hb d_M_perfect_4 rfl (fun hc1 => ?_) (fun hc1 => by first | exact absurd (by decide) hc1 | exact absurd hc1 (by decide))
  refine lv_iconst (v := 0) hx hb d_M_perfect_30 (by decide) ?_
  refine lv_istore_n hx hb d_M_perfect_31 rfl hl (by decide) rfl (fun ls hl => ?_)
  have hl : lv_has ls 3 [(2, .int 0), (0, .ref h0), (1, .int x)] := hl
  refine lv_aload_n hx hb d_M_perfect_32 rfl (lv_at hl 1 rfl) ?_
  refine lv_iload_n hx hb d_M_perfect_33 rfl (lv_at hl 0 rfl) ?_
  refine lv_if_eq (tgt := 41) hx hb d_M_perfect_34 rfl (fun hc2 => ?_) (fun hc2 => by first | exact absurd (by decide) hc2 | exact absurd hc2 (by decide))
  refine lv_iconst (v := 1) hx hb d_M_perfect_41 (by decide) ?_
  refine va_put (D := (dC, dI)) (ci := 6) (v := .int 1) (ty := .int) (C := "VotedTripleModel") (T := F_M) (N := 37) hx hb hw in_M ft_M tyok_M nm_M hown hK hP hD hS 0 rfl rfl 0 (by decide) (hw _ k_724) (fun _ h9 => h9) rfl (by decide +kernel) rfl rfl (Nat.le_of_ble_eq_true rfl) d_M_perfect_42 (fun H locs hP hD hS => ?_)
  have hP : va_P (dC, dI) classes [(h0, .inr (6, [.int 1, .int 0, .ref g2, .int 0, .int 0, .int 0, .int 0, .int 0, .ref g8, .ref g9, .ref g10, .ref g11, .ref g12, .ref g13, .ref g14, .ref g15, .ref g16, .ref g17, .ref g18, .ref g19, .ref g20, .ref g21, .ref g22, .ref g23, .int 0, .int 0, .int 0, .int 0, .ref g28, .int 0, .ref g30, .ref g31, .ref g32, .int 0, .int 0, .int 0, .ref g36]))] H := hP
  have hD : va_D A [(h0, .inr (6, [.int 1, .int 0, .ref g2, .int 0, .int 0, .int 0, .int 0, .int 0, .ref g8, .ref g9, .ref g10, .ref g11, .ref g12, .ref g13, .ref g14, .ref g15, .ref g16, .ref g17, .ref g18, .ref g19, .ref g20, .ref g21, .ref g22, .ref g23, .int 0, .int 0, .int 0, .int 0, .ref g28, .int 0, .ref g30, .ref g31, .ref g32, .int 0, .int 0, .int 0, .ref g36]))] := hD
  refine lv_iload_n hx hb d_M_perfect_45 rfl (lv_at hl 0 rfl) ?_
  refine lv_if_eq (tgt := 58) hx hb d_M_perfect_46 rfl (fun hc3 => ?_) (fun hc3 => by first | exact absurd (by decide) hc3 | exact absurd hc3 (by decide))
  refine lv_iconst (v := 0) hx hb d_M_perfect_58 (by decide) ?_
  have hP9 := hP.sub (ws' := [(h0, .inr (6, [.int 1, .int 0, .ref g2, .int 0, .int 0, .int 0, .int 0, .int 0, .ref g8, .ref g9, .ref g10, .ref g11, .ref g12, .ref g13, .ref g14, .ref g15, .ref g16, .ref g17, .ref g18, .ref g19, .ref g20, .ref g21, .ref g22, .ref g23, .int 0, .int 0, .int 0, .int 0, .ref g28, .int 0, .ref g30, .ref g31, .ref g32, .int 0, .int 0, .int 0, .ref g36]))]) [0] rfl
  have hD9 := hD.sub (ws' := [(h0, .inr (6, [.int 1, .int 0, .ref g2, .int 0, .int 0, .int 0, .int 0, .int 0, .ref g8, .ref g9, .ref g10, .ref g11, .ref g12, .ref g13, .ref g14, .ref g15, .ref g16, .ref g17, .ref g18, .ref g19, .ref g20, .ref g21, .ref g22, .ref g23, .int 0, .int 0, .int 0, .int 0, .ref g28, .int 0, .ref g30, .ref g31, .ref g32, .int 0, .int 0, .int 0, .ref g36]))]) [0] (by decide) rfl
  have hK9 := hK.sub (tys' := []) [] rfl
  refine W.widen (k := 0) (n := 0) (Nat.le_of_ble_eq_true rfl) (Nat.le_of_ble_eq_true rfl) ?_
  exact W.iret (v := 0) hx hb hr (fun t ht hW => ⟨⟨_, (), rfl, rfl, by rw [ht]; exact hP9, va_K.moved hW.alike hK9, hD9⟩, hS.F ht⟩) hS.2.2 d_M_perfect_59

set_option maxHeartbeats 4000000 in
set_option maxRecDepth 100000 in
theorem c_M_freeze_0 (l : Launch) (dC : Nat → ClassId) (dI : Nat → Nat → Nat) (h0 g2 g8 g9 g10 g11 g12 g13 g14 g15 g16 g17 g18 g19 g20 g21 g22 g23 g28 g30 g31 g32 g36 : Nat) (x y : Int32) (sz : Nat) : Met l y_M_freeze (tbw y_M_freeze b_M_freeze 3 (some .boolean)) ({ frames := 0, cells := 0, slots := 0, locals := 0 }) (va_Pc [.ref h0, .int x, .int y] (fun U => U.heap.size = sz ∧ va_P (dC, dI) classes [(h0, .inr (6, [.int 0, .int 0, .ref g2, .int 0, .int 0, .int 0, .int 0, .int 0, .ref g8, .ref g9, .ref g10, .ref g11, .ref g12, .ref g13, .ref g14, .ref g15, .ref g16, .ref g17, .ref g18, .ref g19, .ref g20, .ref g21, .ref g22, .ref g23, .int 0, .int 0, .int 0, .int 0, .ref g28, .int 0, .ref g30, .ref g31, .ref g32, .int 0, .int 0, .int 0, .ref g36]))] U.heap ∧ va_K (dC, dI) classes [] U ∧ va_D (fun _ => True) [(h0, .inr (6, [.int 0, .int 0, .ref g2, .int 0, .int 0, .int 0, .int 0, .int 0, .ref g8, .ref g9, .ref g10, .ref g11, .ref g12, .ref g13, .ref g14, .ref g15, .ref g16, .ref g17, .ref g18, .ref g19, .ref g20, .ref g21, .ref g22, .ref g23, .int 0, .int 0, .int 0, .int 0, .ref g28, .int 0, .ref g30, .ref g31, .ref g32, .int 0, .int 0, .int 0, .ref g36]))])) (va_Qi (fun (r : Int32) (u9 : Unit) => match u9 with | _ => r = 0) (fun (u9 : Unit) t => match u9 with | _ => va_P (dC, dI) classes [] t.heap ∧ va_K (dC, dI) classes [] t ∧ va_D (va_A [(h0, .inr (6, [.int 0, .int 0, .ref g2, .int 0, .int 0, .int 0, .int 0, .int 0, .ref g8, .ref g9, .ref g10, .ref g11, .ref g12, .ref g13, .ref g14, .ref g15, .ref g16, .ref g17, .ref g18, .ref g19, .ref g20, .ref g21, .ref g22, .ref g23, .int 0, .int 0, .int 0, .int 0, .ref g28, .int 0, .ref g30, .ref g31, .ref g32, .int 0, .int 0, .int 0, .ref g36]))] sz) []) (va_A [(h0, .inr (6, [.int 0, .int 0, .ref g2, .int 0, .int 0, .int 0, .int 0, .int 0, .ref g8, .ref g9, .ref g10, .ref g11, .ref g12, .ref g13, .ref g14, .ref g15, .ref g16, .ref g17, .ref g18, .ref g19, .ref g20, .ref g21, .ref g22, .ref g23, .int 0, .int 0, .int 0, .int 0, .ref g28, .int 0, .ref g30, .ref g31, .ref g32, .int 0, .int 0, .int 0, .ref g36]))] sz)) 0 0 (va_A [(h0, .inr (6, [.int 0, .int 0, .ref g2, .int 0, .int 0, .int 0, .int 0, .int 0, .ref g8, .ref g9, .ref g10, .ref g11, .ref g12, .ref g13, .ref g14, .ref g15, .ref g16, .ref g17, .ref g18, .ref g19, .ref g20, .ref g21, .ref g22, .ref g23, .int 0, .int 0, .int 0, .int 0, .ref g28, .int 0, .ref g30, .ref g31, .ref g32, .int 0, .int 0, .int 0, .ref g36]))] sz) := by
  refine Met.ofW (cc := b_M_freeze) (maxL := 3) (ret := (some .boolean)) (by decide) rfl ?_
  intro p e s m args below meth c s₁ B hml hv
  obtain ⟨rfl, hsz, hP, hK, hD0⟩ := hv
  have hx := B.exec
  have hb := B.bytes
  have hr := B.returns
  have hts := atoms_spec (ws := (tbw y_M_freeze b_M_freeze 3 (some .boolean))) B.pre
  have hw : ∀ z9 ∈ tb, z9.before ([.ref h0, .int x, .int y] : List Value).toArray s = true := fun z9 h => hts z9 (List.mem_cons_of_mem _ h)
  have hown : s.vm.findClass "VotedTripleModel" = some m.cls := findClass_of_methodNamed B.named
  have hlocks := B.notSynchronized
  subst hsz
  have hD := hD0.self (sz := s.heap.size)
  generalize hAe : va_A [(h0, .inr (6, [.int 0, .int 0, .ref g2, .int 0, .int 0, .int 0, .int 0, .int 0, .ref g8, .ref g9, .ref g10, .ref g11, .ref g12, .ref g13, .ref g14, .ref g15, .ref g16, .ref g17, .ref g18, .ref g19, .ref g20, .ref g21, .ref g22, .ref g23, .int 0, .int 0, .int 0, .int 0, .ref g28, .int 0, .ref g30, .ref g31, .ref g32, .int 0, .int 0, .int 0, .ref g36]))] s.heap.size = A at hD ⊢
  have hA : ∀ q : Nat, s.heap.size ≤ q → A q := fun q h => by rw [← hAe]; exact Or.inr h
  have hS : va_S A s.heap s.heap [] := va_S.rf
  have hl := lv_entry ([.ref h0, .int x, .int y]) (n := 3) (Nat.le_of_ble_eq_true rfl)
  rw [lg_entry_eq]
  generalize (lg_sl ([.ref h0, .int x, .int y]) ++ List.replicate (3 - (lg_sl ([.ref h0, .int x, .int y])).length) Slot.unset).toArray = ls at hl ⊢
  have hl : lv_has ls 3 [(0, .ref h0), (1, .int x), (2, .int y)] := hl
  refine lv_aload_n hx hb d_M_freeze_0 rfl (lv_at hl 0 rfl) ?_
  refine lv_iconst (v := 0) hx hb d_M_freeze_1 (by decide) ?_
  refine va_put (D := (dC, dI)) (ci := 6) (v := .int 0) (ty := .int) (C := "VotedTripleModel") (T := F_M) (N := 37) hx hb hw in_M ft_M tyok_M nm_M hown hK hP hD hS 0 rfl rfl 0 (by decide) (hw _ k_724) (fun _ h9 => h9) rfl (by decide +kernel) rfl rfl (Nat.le_of_ble_eq_true rfl) d_M_freeze_2 (fun H locs hP hD hS => ?_)
  have hP : va_P (dC, dI) classes [(h0, .inr (6, [.int 0, .int 0, .ref g2, .int 0, .int 0, .int 0, .int 0, .int 0, .ref g8, .ref g9, .ref g10, .ref g11, .ref g12, .ref g13, .ref g14, .ref g15, .ref g16, .ref g17, .ref g18, .ref g19, .ref g20, .ref g21, .ref g22, .ref g23, .int 0, .int 0, .int 0, .int 0, .ref g28, .int 0, .ref g30, .ref g31, .ref g32, .int 0, .int 0, .int 0, .ref g36]))] H := hP
  have hD : va_D A [(h0, .inr (6, [.int 0, .int 0, .ref g2, .int 0, .int 0, .int 0, .int 0, .int 0, .ref g8, .ref g9, .ref g10, .ref g11, .ref g12, .ref g13, .ref g14, .ref g15, .ref g16, .ref g17, .ref g18, .ref g19, .ref g20, .ref g21, .ref g22, .ref g23, .int 0, .int 0, .int 0, .int 0, .ref g28, .int 0, .ref g30, .ref g31, .ref g32, .int 0, .int 0, .int 0, .ref g36]))] := hD
  refine lv_aload_n hx hb d_M_freeze_5 rfl (lv_at hl 0 rfl) ?_
  refine va_get (D := (dC, dI)) (ci := 6) (v := .int 0) (C := "VotedTripleModel") (T := F_M) (N := 37) hx hb hw in_M hown hK hP 0 rfl rfl 3 (by decide) (hw _ k_727) (fun _ h9 => h9) rfl d_M_freeze_6 ?_
  refine lv_if_eq (tgt := 19) hx hb d_M_freeze_9 rfl (fun hc1 => ?_) (fun hc1 => by first | exact absurd (by decide) hc1 | exact absurd hc1 (by decide))
  refine lv_iconst (v := 0) hx hb d_M_freeze_19 (by decide) ?_
  have hP9 := hP.sub (ws' := []) [] rfl
  have hD9 := hD.sub (ws' := []) [] (by decide) rfl
  have hK9 := hK.sub (tys' := []) [] rfl
  refine W.widen (k := 0) (n := 0) (Nat.le_of_ble_eq_true rfl) (Nat.le_of_ble_eq_true rfl) ?_
  exact W.zret (v := 0) (ty := .boolean) hx hb hr rfl (fun t ht hW => ⟨⟨_, (), rfl, rfl, by rw [ht]; exact hP9, va_K.moved hW.alike hK9, hD9⟩, hS.F ht⟩) hS.2.2 d_M_freeze_20

set_option maxHeartbeats 4000000 in
set_option maxRecDepth 100000 in
theorem c_M_skip_0 (l : Launch) (dC : Nat → ClassId) (dI : Nat → Nat → Nat) (h0 g2 g8 g9 g10 g11 g12 g13 g14 g15 g16 g17 g18 g19 g20 g21 g22 g23 g28 g30 g31 g32 g36 : Nat) (x : Int32) (sz : Nat) : Met l y_M_skip (tbw y_M_skip b_M_skip 2 (some .boolean)) ({ frames := 0, cells := 0, slots := 0, locals := 0 }) (va_Pc [.ref h0, .int x] (fun U => U.heap.size = sz ∧ va_P (dC, dI) classes [(h0, .inr (6, [.int 0, .int 0, .ref g2, .int 0, .int 0, .int 0, .int 0, .int 0, .ref g8, .ref g9, .ref g10, .ref g11, .ref g12, .ref g13, .ref g14, .ref g15, .ref g16, .ref g17, .ref g18, .ref g19, .ref g20, .ref g21, .ref g22, .ref g23, .int 0, .int 0, .int 0, .int 0, .ref g28, .int 0, .ref g30, .ref g31, .ref g32, .int 0, .int 0, .int 0, .ref g36]))] U.heap ∧ va_K (dC, dI) classes [] U ∧ va_D (fun _ => True) [(h0, .inr (6, [.int 0, .int 0, .ref g2, .int 0, .int 0, .int 0, .int 0, .int 0, .ref g8, .ref g9, .ref g10, .ref g11, .ref g12, .ref g13, .ref g14, .ref g15, .ref g16, .ref g17, .ref g18, .ref g19, .ref g20, .ref g21, .ref g22, .ref g23, .int 0, .int 0, .int 0, .int 0, .ref g28, .int 0, .ref g30, .ref g31, .ref g32, .int 0, .int 0, .int 0, .ref g36]))])) (va_Qi (fun (r : Int32) (u9 : Unit) => match u9 with | _ => r = 0) (fun (u9 : Unit) t => match u9 with | _ => va_P (dC, dI) classes [] t.heap ∧ va_K (dC, dI) classes [] t ∧ va_D (va_A [(h0, .inr (6, [.int 0, .int 0, .ref g2, .int 0, .int 0, .int 0, .int 0, .int 0, .ref g8, .ref g9, .ref g10, .ref g11, .ref g12, .ref g13, .ref g14, .ref g15, .ref g16, .ref g17, .ref g18, .ref g19, .ref g20, .ref g21, .ref g22, .ref g23, .int 0, .int 0, .int 0, .int 0, .ref g28, .int 0, .ref g30, .ref g31, .ref g32, .int 0, .int 0, .int 0, .ref g36]))] sz) []) (va_A [(h0, .inr (6, [.int 0, .int 0, .ref g2, .int 0, .int 0, .int 0, .int 0, .int 0, .ref g8, .ref g9, .ref g10, .ref g11, .ref g12, .ref g13, .ref g14, .ref g15, .ref g16, .ref g17, .ref g18, .ref g19, .ref g20, .ref g21, .ref g22, .ref g23, .int 0, .int 0, .int 0, .int 0, .ref g28, .int 0, .ref g30, .ref g31, .ref g32, .int 0, .int 0, .int 0, .ref g36]))] sz)) 0 0 (va_A [(h0, .inr (6, [.int 0, .int 0, .ref g2, .int 0, .int 0, .int 0, .int 0, .int 0, .ref g8, .ref g9, .ref g10, .ref g11, .ref g12, .ref g13, .ref g14, .ref g15, .ref g16, .ref g17, .ref g18, .ref g19, .ref g20, .ref g21, .ref g22, .ref g23, .int 0, .int 0, .int 0, .int 0, .ref g28, .int 0, .ref g30, .ref g31, .ref g32, .int 0, .int 0, .int 0, .ref g36]))] sz) := by
  refine Met.ofW (cc := b_M_skip) (maxL := 2) (ret := (some .boolean)) (by decide) rfl ?_
  intro p e s m args below meth c s₁ B hml hv
  obtain ⟨rfl, hsz, hP, hK, hD0⟩ := hv
  have hx := B.exec
  have hb := B.bytes
  have hr := B.returns
  have hts := atoms_spec (ws := (tbw y_M_skip b_M_skip 2 (some .boolean))) B.pre
  have hw : ∀ z9 ∈ tb, z9.before ([.ref h0, .int x] : List Value).toArray s = true := fun z9 h => hts z9 (List.mem_cons_of_mem _ h)
  have hown : s.vm.findClass "VotedTripleModel" = some m.cls := findClass_of_methodNamed B.named
  have hlocks := B.notSynchronized
  subst hsz
  have hD := hD0.self (sz := s.heap.size)
  generalize hAe : va_A [(h0, .inr (6, [.int 0, .int 0, .ref g2, .int 0, .int 0, .int 0, .int 0, .int 0, .ref g8, .ref g9, .ref g10, .ref g11, .ref g12, .ref g13, .ref g14, .ref g15, .ref g16, .ref g17, .ref g18, .ref g19, .ref g20, .ref g21, .ref g22, .ref g23, .int 0, .int 0, .int 0, .int 0, .ref g28, .int 0, .ref g30, .ref g31, .ref g32, .int 0, .int 0, .int 0, .ref g36]))] s.heap.size = A at hD ⊢
  have hA : ∀ q : Nat, s.heap.size ≤ q → A q := fun q h => by rw [← hAe]; exact Or.inr h
  have hS : va_S A s.heap s.heap [] := va_S.rf
  have hl := lv_entry ([.ref h0, .int x]) (n := 2) (Nat.le_of_ble_eq_true rfl)
  rw [lg_entry_eq]
  generalize (lg_sl ([.ref h0, .int x]) ++ List.replicate (2 - (lg_sl ([.ref h0, .int x])).length) Slot.unset).toArray = ls at hl ⊢
  have hl : lv_has ls 2 [(0, .ref h0), (1, .int x)] := hl
  refine lv_aload_n hx hb d_M_skip_0 rfl (lv_at hl 0 rfl) ?_
  refine lv_iconst (v := 0) hx hb d_M_skip_1 (by decide) ?_
  refine va_put (D := (dC, dI)) (ci := 6) (v := .int 0) (ty := .int) (C := "VotedTripleModel") (T := F_M) (N := 37) hx hb hw in_M ft_M tyok_M nm_M hown hK hP hD hS 0 rfl rfl 0 (by decide) (hw _ k_724) (fun _ h9 => h9) rfl (by decide +kernel) rfl rfl (Nat.le_of_ble_eq_true rfl) d_M_skip_2 (fun H locs hP hD hS => ?_)
  have hP : va_P (dC, dI) classes [(h0, .inr (6, [.int 0, .int 0, .ref g2, .int 0, .int 0, .int 0, .int 0, .int 0, .ref g8, .ref g9, .ref g10, .ref g11, .ref g12, .ref g13, .ref g14, .ref g15, .ref g16, .ref g17, .ref g18, .ref g19, .ref g20, .ref g21, .ref g22, .ref g23, .int 0, .int 0, .int 0, .int 0, .ref g28, .int 0, .ref g30, .ref g31, .ref g32, .int 0, .int 0, .int 0, .ref g36]))] H := hP
  have hD : va_D A [(h0, .inr (6, [.int 0, .int 0, .ref g2, .int 0, .int 0, .int 0, .int 0, .int 0, .ref g8, .ref g9, .ref g10, .ref g11, .ref g12, .ref g13, .ref g14, .ref g15, .ref g16, .ref g17, .ref g18, .ref g19, .ref g20, .ref g21, .ref g22, .ref g23, .int 0, .int 0, .int 0, .int 0, .ref g28, .int 0, .ref g30, .ref g31, .ref g32, .int 0, .int 0, .int 0, .ref g36]))] := hD
  refine lv_aload_n hx hb d_M_skip_5 rfl (lv_at hl 0 rfl) ?_
  refine va_get (D := (dC, dI)) (ci := 6) (v := .int 0) (C := "VotedTripleModel") (T := F_M) (N := 37) hx hb hw in_M hown hK hP 0 rfl rfl 3 (by decide) (hw _ k_727) (fun _ h9 => h9) rfl d_M_skip_6 ?_
  refine lv_if_eq (tgt := 19) hx hb d_M_skip_9 rfl (fun hc1 => ?_) (fun hc1 => by first | exact absurd (by decide) hc1 | exact absurd hc1 (by decide))
  refine lv_iconst (v := 0) hx hb d_M_skip_19 (by decide) ?_
  have hP9 := hP.sub (ws' := []) [] rfl
  have hD9 := hD.sub (ws' := []) [] (by decide) rfl
  have hK9 := hK.sub (tys' := []) [] rfl
  refine W.widen (k := 0) (n := 0) (Nat.le_of_ble_eq_true rfl) (Nat.le_of_ble_eq_true rfl) ?_
  exact W.zret (v := 0) (ty := .boolean) hx hb hr rfl (fun t ht hW => ⟨⟨_, (), rfl, rfl, by rw [ht]; exact hP9, va_K.moved hW.alike hK9, hD9⟩, hS.F ht⟩) hS.2.2 d_M_skip_20

set_option maxHeartbeats 4000000 in
set_option maxRecDepth 100000 in
theorem c_M_swap_0 (l : Launch) (dC : Nat → ClassId) (dI : Nat → Nat → Nat) (h0 g2 g8 g9 g10 g11 g12 g13 g14 g15 g16 g17 g18 g19 g20 g21 g22 g23 g28 g30 g31 g32 g36 : Nat) (x : Int32) (sz : Nat) : Met l y_M_swap (tbw y_M_swap b_M_swap 3 (some .boolean)) ({ frames := 0, cells := 0, slots := 0, locals := 0 }) (va_Pc [.ref h0, .int x] (fun U => U.heap.size = sz ∧ va_P (dC, dI) classes [(h0, .inr (6, [.int 0, .int 0, .ref g2, .int 0, .int 0, .int 0, .int 0, .int 0, .ref g8, .ref g9, .ref g10, .ref g11, .ref g12, .ref g13, .ref g14, .ref g15, .ref g16, .ref g17, .ref g18, .ref g19, .ref g20, .ref g21, .ref g22, .ref g23, .int 0, .int 0, .int 0, .int 0, .ref g28, .int 0, .ref g30, .ref g31, .ref g32, .int 0, .int 0, .int 0, .ref g36]))] U.heap ∧ va_K (dC, dI) classes [] U ∧ va_D (fun _ => True) [(h0, .inr (6, [.int 0, .int 0, .ref g2, .int 0, .int 0, .int 0, .int 0, .int 0, .ref g8, .ref g9, .ref g10, .ref g11, .ref g12, .ref g13, .ref g14, .ref g15, .ref g16, .ref g17, .ref g18, .ref g19, .ref g20, .ref g21, .ref g22, .ref g23, .int 0, .int 0, .int 0, .int 0, .ref g28, .int 0, .ref g30, .ref g31, .ref g32, .int 0, .int 0, .int 0, .ref g36]))])) (va_Qi (fun (r : Int32) (u9 : Unit) => match u9 with | _ => r = 0) (fun (u9 : Unit) t => match u9 with | _ => va_P (dC, dI) classes [] t.heap ∧ va_K (dC, dI) classes [] t ∧ va_D (va_A [(h0, .inr (6, [.int 0, .int 0, .ref g2, .int 0, .int 0, .int 0, .int 0, .int 0, .ref g8, .ref g9, .ref g10, .ref g11, .ref g12, .ref g13, .ref g14, .ref g15, .ref g16, .ref g17, .ref g18, .ref g19, .ref g20, .ref g21, .ref g22, .ref g23, .int 0, .int 0, .int 0, .int 0, .ref g28, .int 0, .ref g30, .ref g31, .ref g32, .int 0, .int 0, .int 0, .ref g36]))] sz) []) (va_A [(h0, .inr (6, [.int 0, .int 0, .ref g2, .int 0, .int 0, .int 0, .int 0, .int 0, .ref g8, .ref g9, .ref g10, .ref g11, .ref g12, .ref g13, .ref g14, .ref g15, .ref g16, .ref g17, .ref g18, .ref g19, .ref g20, .ref g21, .ref g22, .ref g23, .int 0, .int 0, .int 0, .int 0, .ref g28, .int 0, .ref g30, .ref g31, .ref g32, .int 0, .int 0, .int 0, .ref g36]))] sz)) 0 0 (va_A [(h0, .inr (6, [.int 0, .int 0, .ref g2, .int 0, .int 0, .int 0, .int 0, .int 0, .ref g8, .ref g9, .ref g10, .ref g11, .ref g12, .ref g13, .ref g14, .ref g15, .ref g16, .ref g17, .ref g18, .ref g19, .ref g20, .ref g21, .ref g22, .ref g23, .int 0, .int 0, .int 0, .int 0, .ref g28, .int 0, .ref g30, .ref g31, .ref g32, .int 0, .int 0, .int 0, .ref g36]))] sz) := by
  refine Met.ofW (cc := b_M_swap) (maxL := 3) (ret := (some .boolean)) (by decide) rfl ?_
  intro p e s m args below meth c s₁ B hml hv
  obtain ⟨rfl, hsz, hP, hK, hD0⟩ := hv
  have hx := B.exec
  have hb := B.bytes
  have hr := B.returns
  have hts := atoms_spec (ws := (tbw y_M_swap b_M_swap 3 (some .boolean))) B.pre
  have hw : ∀ z9 ∈ tb, z9.before ([.ref h0, .int x] : List Value).toArray s = true := fun z9 h => hts z9 (List.mem_cons_of_mem _ h)
  have hown : s.vm.findClass "VotedTripleModel" = some m.cls := findClass_of_methodNamed B.named
  have hlocks := B.notSynchronized
  subst hsz
  have hD := hD0.self (sz := s.heap.size)
  generalize hAe : va_A [(h0, .inr (6, [.int 0, .int 0, .ref g2, .int 0, .int 0, .int 0, .int 0, .int 0, .ref g8, .ref g9, .ref g10, .ref g11, .ref g12, .ref g13, .ref g14, .ref g15, .ref g16, .ref g17, .ref g18, .ref g19, .ref g20, .ref g21, .ref g22, .ref g23, .int 0, .int 0, .int 0, .int 0, .ref g28, .int 0, .ref g30, .ref g31, .ref g32, .int 0, .int 0, .int 0, .ref g36]))] s.heap.size = A at hD ⊢
  have hA : ∀ q : Nat, s.heap.size ≤ q → A q := fun q h => by rw [← hAe]; exact Or.inr h
  have hS : va_S A s.heap s.heap [] := va_S.rf
  have hl := lv_entry ([.ref h0, .int x]) (n := 3) (Nat.le_of_ble_eq_true rfl)
  rw [lg_entry_eq]
  generalize (lg_sl ([.ref h0, .int x]) ++ List.replicate (3 - (lg_sl ([.ref h0, .int x])).length) Slot.unset).toArray = ls at hl ⊢
  have hl : lv_has ls 3 [(0, .ref h0), (1, .int x)] := hl
  refine lv_aload_n hx hb d_M_swap_0 rfl (lv_at hl 0 rfl) ?_
  refine lv_iconst (v := 0) hx hb d_M_swap_1 (by decide) ?_
  refine va_put (D := (dC, dI)) (ci := 6) (v := .int 0) (ty := .int) (C := "VotedTripleModel") (T := F_M) (N := 37) hx hb hw in_M ft_M tyok_M nm_M hown hK hP hD hS 0 rfl rfl 0 (by decide) (hw _ k_724) (fun _ h9 => h9) rfl (by decide +kernel) rfl rfl (Nat.le_of_ble_eq_true rfl) d_M_swap_2 (fun H locs hP hD hS => ?_)
  have hP : va_P (dC, dI) classes [(h0, .inr (6, [.int 0, .int 0, .ref g2, .int 0, .int 0, .int 0, .int 0, .int 0, .ref g8, .ref g9, .ref g10, .ref g11, .ref g12, .ref g13, .ref g14, .ref g15, .ref g16, .ref g17, .ref g18, .ref g19, .ref g20, .ref g21, .ref g22, .ref g23, .int 0, .int 0, .int 0, .int 0, .ref g28, .int 0, .ref g30, .ref g31, .ref g32, .int 0, .int 0, .int 0, .ref g36]))] H := hP
  have hD : va_D A [(h0, .inr (6, [.int 0, .int 0, .ref g2, .int 0, .int 0, .int 0, .int 0, .int 0, .ref g8, .ref g9, .ref g10, .ref g11, .ref g12, .ref g13, .ref g14, .ref g15, .ref g16, .ref g17, .ref g18, .ref g19, .ref g20, .ref g21, .ref g22, .ref g23, .int 0, .int 0, .int 0, .int 0, .ref g28, .int 0, .ref g30, .ref g31, .ref g32, .int 0, .int 0, .int 0, .ref g36]))] := hD
  refine lv_aload_n hx hb d_M_swap_5 rfl (lv_at hl 0 rfl) ?_
  refine va_get (D := (dC, dI)) (ci := 6) (v := .int 0) (C := "VotedTripleModel") (T := F_M) (N := 37) hx hb hw in_M hown hK hP 0 rfl rfl 3 (by decide) (hw _ k_727) (fun _ h9 => h9) rfl d_M_swap_6 ?_
  refine lv_if_eq (tgt := 26) hx hb d_M_swap_9 rfl (fun hc1 => ?_) (fun hc1 => by first | exact absurd (by decide) hc1 | exact absurd hc1 (by decide))
  refine lv_iconst (v := 0) hx hb d_M_swap_26 (by decide) ?_
  have hP9 := hP.sub (ws' := []) [] rfl
  have hD9 := hD.sub (ws' := []) [] (by decide) rfl
  have hK9 := hK.sub (tys' := []) [] rfl
  refine W.widen (k := 0) (n := 0) (Nat.le_of_ble_eq_true rfl) (Nat.le_of_ble_eq_true rfl) ?_
  exact W.zret (v := 0) (ty := .boolean) hx hb hr rfl (fun t ht hW => ⟨⟨_, (), rfl, rfl, by rw [ht]; exact hP9, va_K.moved hW.alike hK9, hD9⟩, hS.F ht⟩) hS.2.2 d_M_swap_27

set_option maxHeartbeats 4000000 in
set_option maxRecDepth 100000 in
theorem c_M_module_0 (l : Launch) (dC : Nat → ClassId) (dI : Nat → Nat → Nat) (h0 g2 g8 g9 g10 g11 g12 g13 g14 g15 g16 g17 g18 g19 g20 g21 g22 g23 g28 g30 g31 g32 g36 : Nat) (x y : Int32) (sz : Nat) : Met l y_M_module (tbw y_M_module b_M_module 3 (some .int)) ({ frames := 0, cells := 0, slots := 0, locals := 0 }) (va_Pc [.ref h0, .int x, .int y] (fun U => U.heap.size = sz ∧ va_P (dC, dI) classes [(h0, .inr (6, [.int 0, .int 0, .ref g2, .int 0, .int 0, .int 0, .int 0, .int 0, .ref g8, .ref g9, .ref g10, .ref g11, .ref g12, .ref g13, .ref g14, .ref g15, .ref g16, .ref g17, .ref g18, .ref g19, .ref g20, .ref g21, .ref g22, .ref g23, .int 0, .int 0, .int 0, .int 0, .ref g28, .int 0, .ref g30, .ref g31, .ref g32, .int 0, .int 0, .int 0, .ref g36]))] U.heap ∧ va_K (dC, dI) classes [] U ∧ va_D (fun _ => True) [(h0, .inr (6, [.int 0, .int 0, .ref g2, .int 0, .int 0, .int 0, .int 0, .int 0, .ref g8, .ref g9, .ref g10, .ref g11, .ref g12, .ref g13, .ref g14, .ref g15, .ref g16, .ref g17, .ref g18, .ref g19, .ref g20, .ref g21, .ref g22, .ref g23, .int 0, .int 0, .int 0, .int 0, .ref g28, .int 0, .ref g30, .ref g31, .ref g32, .int 0, .int 0, .int 0, .ref g36]))])) (va_Qi (fun (r : Int32) (u9 : Unit) => match u9 with | _ => r = (-1)) (fun (u9 : Unit) t => match u9 with | _ => va_P (dC, dI) classes [] t.heap ∧ va_K (dC, dI) classes [] t ∧ va_D (va_A [(h0, .inr (6, [.int 0, .int 0, .ref g2, .int 0, .int 0, .int 0, .int 0, .int 0, .ref g8, .ref g9, .ref g10, .ref g11, .ref g12, .ref g13, .ref g14, .ref g15, .ref g16, .ref g17, .ref g18, .ref g19, .ref g20, .ref g21, .ref g22, .ref g23, .int 0, .int 0, .int 0, .int 0, .ref g28, .int 0, .ref g30, .ref g31, .ref g32, .int 0, .int 0, .int 0, .ref g36]))] sz) []) (va_A [(h0, .inr (6, [.int 0, .int 0, .ref g2, .int 0, .int 0, .int 0, .int 0, .int 0, .ref g8, .ref g9, .ref g10, .ref g11, .ref g12, .ref g13, .ref g14, .ref g15, .ref g16, .ref g17, .ref g18, .ref g19, .ref g20, .ref g21, .ref g22, .ref g23, .int 0, .int 0, .int 0, .int 0, .ref g28, .int 0, .ref g30, .ref g31, .ref g32, .int 0, .int 0, .int 0, .ref g36]))] sz)) 0 0 (va_A [(h0, .inr (6, [.int 0, .int 0, .ref g2, .int 0, .int 0, .int 0, .int 0, .int 0, .ref g8, .ref g9, .ref g10, .ref g11, .ref g12, .ref g13, .ref g14, .ref g15, .ref g16, .ref g17, .ref g18, .ref g19, .ref g20, .ref g21, .ref g22, .ref g23, .int 0, .int 0, .int 0, .int 0, .ref g28, .int 0, .ref g30, .ref g31, .ref g32, .int 0, .int 0, .int 0, .ref g36]))] sz) := by
  refine Met.ofW (cc := b_M_module) (maxL := 3) (ret := (some .int)) (by decide) rfl ?_
  intro p e s m args below meth c s₁ B hml hv
  obtain ⟨rfl, hsz, hP, hK, hD0⟩ := hv
  have hx := B.exec
  have hb := B.bytes
  have hr := B.returns
  have hts := atoms_spec (ws := (tbw y_M_module b_M_module 3 (some .int))) B.pre
  have hw : ∀ z9 ∈ tb, z9.before ([.ref h0, .int x, .int y] : List Value).toArray s = true := fun z9 h => hts z9 (List.mem_cons_of_mem _ h)
  have hown : s.vm.findClass "VotedTripleModel" = some m.cls := findClass_of_methodNamed B.named
  have hlocks := B.notSynchronized
  subst hsz
  have hD := hD0.self (sz := s.heap.size)
  generalize hAe : va_A [(h0, .inr (6, [.int 0, .int 0, .ref g2, .int 0, .int 0, .int 0, .int 0, .int 0, .ref g8, .ref g9, .ref g10, .ref g11, .ref g12, .ref g13, .ref g14, .ref g15, .ref g16, .ref g17, .ref g18, .ref g19, .ref g20, .ref g21, .ref g22, .ref g23, .int 0, .int 0, .int 0, .int 0, .ref g28, .int 0, .ref g30, .ref g31, .ref g32, .int 0, .int 0, .int 0, .ref g36]))] s.heap.size = A at hD ⊢
  have hA : ∀ q : Nat, s.heap.size ≤ q → A q := fun q h => by rw [← hAe]; exact Or.inr h
  have hS : va_S A s.heap s.heap [] := va_S.rf
  have hl := lv_entry ([.ref h0, .int x, .int y]) (n := 3) (Nat.le_of_ble_eq_true rfl)
  rw [lg_entry_eq]
  generalize (lg_sl ([.ref h0, .int x, .int y]) ++ List.replicate (3 - (lg_sl ([.ref h0, .int x, .int y])).length) Slot.unset).toArray = ls at hl ⊢
  have hl : lv_has ls 3 [(0, .ref h0), (1, .int x), (2, .int y)] := hl
  refine lv_aload_n hx hb d_M_module_0 rfl (lv_at hl 0 rfl) ?_
  refine lv_iconst (v := 0) hx hb d_M_module_1 (by decide) ?_
  refine va_put (D := (dC, dI)) (ci := 6) (v := .int 0) (ty := .int) (C := "VotedTripleModel") (T := F_M) (N := 37) hx hb hw in_M ft_M tyok_M nm_M hown hK hP hD hS 0 rfl rfl 0 (by decide) (hw _ k_724) (fun _ h9 => h9) rfl (by decide +kernel) rfl rfl (Nat.le_of_ble_eq_true rfl) d_M_module_2 (fun H locs hP hD hS => ?_)
  have hP : va_P (dC, dI) classes [(h0, .inr (6, [.int 0, .int 0, .ref g2, .int 0, .int 0, .int 0, .int 0, .int 0, .ref g8, .ref g9, .ref g10, .ref g11, .ref g12, .ref g13, .ref g14, .ref g15, .ref g16, .ref g17, .ref g18, .ref g19, .ref g20, .ref g21, .ref g22, .ref g23, .int 0, .int 0, .int 0, .int 0, .ref g28, .int 0, .ref g30, .ref g31, .ref g32, .int 0, .int 0, .int 0, .ref g36]))] H := hP
  have hD : va_D A [(h0, .inr (6, [.int 0, .int 0, .ref g2, .int 0, .int 0, .int 0, .int 0, .int 0, .ref g8, .ref g9, .ref g10, .ref g11, .ref g12, .ref g13, .ref g14, .ref g15, .ref g16, .ref g17, .ref g18, .ref g19, .ref g20, .ref g21, .ref g22, .ref g23, .int 0, .int 0, .int 0, .int 0, .ref g28, .int 0, .ref g30, .ref g31, .ref g32, .int 0, .int 0, .int 0, .ref g36]))] := hD
  refine lv_aload_n hx hb d_M_module_5 rfl (lv_at hl 0 rfl) ?_
  refine va_get (D := (dC, dI)) (ci := 6) (v := .int 0) (C := "VotedTripleModel") (T := F_M) (N := 37) hx hb hw in_M hown hK hP 0 rfl rfl 3 (by decide) (hw _ k_727) (fun _ h9 => h9) rfl d_M_module_6 ?_
  refine lv_if_eq (tgt := 28) hx hb d_M_module_9 rfl (fun hc1 => ?_) (fun hc1 => by first | exact absurd (by decide) hc1 | exact absurd hc1 (by decide))
  refine lv_iconst (v := (-1)) hx hb d_M_module_28 (by decide) ?_
  have hP9 := hP.sub (ws' := []) [] rfl
  have hD9 := hD.sub (ws' := []) [] (by decide) rfl
  have hK9 := hK.sub (tys' := []) [] rfl
  refine W.widen (k := 0) (n := 0) (Nat.le_of_ble_eq_true rfl) (Nat.le_of_ble_eq_true rfl) ?_
  exact W.iret (v := (-1)) hx hb hr (fun t ht hW => ⟨⟨_, (), rfl, rfl, by rw [ht]; exact hP9, va_K.moved hW.alike hK9, hD9⟩, hS.F ht⟩) hS.2.2 d_M_module_29

set_option maxHeartbeats 4000000 in
set_option maxRecDepth 100000 in
theorem c_M_register_0 (l : Launch) (dC : Nat → ClassId) (dI : Nat → Nat → Nat) (h0 g2 g8 g9 g10 g11 g12 g13 g14 g15 g16 g17 g18 g19 g20 g21 g22 g23 g28 g30 g31 g32 g36 : Nat) (x y : Int32) (sz : Nat) : Met l y_M_register (tbw y_M_register b_M_register 3 (some .int)) ({ frames := 0, cells := 0, slots := 0, locals := 0 }) (va_Pc [.ref h0, .int x, .int y] (fun U => U.heap.size = sz ∧ va_P (dC, dI) classes [(h0, .inr (6, [.int 0, .int 0, .ref g2, .int 0, .int 0, .int 0, .int 0, .int 0, .ref g8, .ref g9, .ref g10, .ref g11, .ref g12, .ref g13, .ref g14, .ref g15, .ref g16, .ref g17, .ref g18, .ref g19, .ref g20, .ref g21, .ref g22, .ref g23, .int 0, .int 0, .int 0, .int 0, .ref g28, .int 0, .ref g30, .ref g31, .ref g32, .int 0, .int 0, .int 0, .ref g36]))] U.heap ∧ va_K (dC, dI) classes [] U ∧ va_D (fun _ => True) [(h0, .inr (6, [.int 0, .int 0, .ref g2, .int 0, .int 0, .int 0, .int 0, .int 0, .ref g8, .ref g9, .ref g10, .ref g11, .ref g12, .ref g13, .ref g14, .ref g15, .ref g16, .ref g17, .ref g18, .ref g19, .ref g20, .ref g21, .ref g22, .ref g23, .int 0, .int 0, .int 0, .int 0, .ref g28, .int 0, .ref g30, .ref g31, .ref g32, .int 0, .int 0, .int 0, .ref g36]))])) (va_Qi (fun (r : Int32) (u9 : Unit) => match u9 with | _ => r = (-1)) (fun (u9 : Unit) t => match u9 with | _ => va_P (dC, dI) classes [] t.heap ∧ va_K (dC, dI) classes [] t ∧ va_D (va_A [(h0, .inr (6, [.int 0, .int 0, .ref g2, .int 0, .int 0, .int 0, .int 0, .int 0, .ref g8, .ref g9, .ref g10, .ref g11, .ref g12, .ref g13, .ref g14, .ref g15, .ref g16, .ref g17, .ref g18, .ref g19, .ref g20, .ref g21, .ref g22, .ref g23, .int 0, .int 0, .int 0, .int 0, .ref g28, .int 0, .ref g30, .ref g31, .ref g32, .int 0, .int 0, .int 0, .ref g36]))] sz) []) (va_A [(h0, .inr (6, [.int 0, .int 0, .ref g2, .int 0, .int 0, .int 0, .int 0, .int 0, .ref g8, .ref g9, .ref g10, .ref g11, .ref g12, .ref g13, .ref g14, .ref g15, .ref g16, .ref g17, .ref g18, .ref g19, .ref g20, .ref g21, .ref g22, .ref g23, .int 0, .int 0, .int 0, .int 0, .ref g28, .int 0, .ref g30, .ref g31, .ref g32, .int 0, .int 0, .int 0, .ref g36]))] sz)) 0 0 (va_A [(h0, .inr (6, [.int 0, .int 0, .ref g2, .int 0, .int 0, .int 0, .int 0, .int 0, .ref g8, .ref g9, .ref g10, .ref g11, .ref g12, .ref g13, .ref g14, .ref g15, .ref g16, .ref g17, .ref g18, .ref g19, .ref g20, .ref g21, .ref g22, .ref g23, .int 0, .int 0, .int 0, .int 0, .ref g28, .int 0, .ref g30, .ref g31, .ref g32, .int 0, .int 0, .int 0, .ref g36]))] sz) := by
  refine Met.ofW (cc := b_M_register) (maxL := 3) (ret := (some .int)) (by decide) rfl ?_
  intro p e s m args below meth c s₁ B hml hv
  obtain ⟨rfl, hsz, hP, hK, hD0⟩ := hv
  have hx := B.exec
  have hb := B.bytes
  have hr := B.returns
  have hts := atoms_spec (ws := (tbw y_M_register b_M_register 3 (some .int))) B.pre
  have hw : ∀ z9 ∈ tb, z9.before ([.ref h0, .int x, .int y] : List Value).toArray s = true := fun z9 h => hts z9 (List.mem_cons_of_mem _ h)
  have hown : s.vm.findClass "VotedTripleModel" = some m.cls := findClass_of_methodNamed B.named
  have hlocks := B.notSynchronized
  subst hsz
  have hD := hD0.self (sz := s.heap.size)
  generalize hAe : va_A [(h0, .inr (6, [.int 0, .int 0, .ref g2, .int 0, .int 0, .int 0, .int 0, .int 0, .ref g8, .ref g9, .ref g10, .ref g11, .ref g12, .ref g13, .ref g14, .ref g15, .ref g16, .ref g17, .ref g18, .ref g19, .ref g20, .ref g21, .ref g22, .ref g23, .int 0, .int 0, .int 0, .int 0, .ref g28, .int 0, .ref g30, .ref g31, .ref g32, .int 0, .int 0, .int 0, .ref g36]))] s.heap.size = A at hD ⊢
  have hA : ∀ q : Nat, s.heap.size ≤ q → A q := fun q h => by rw [← hAe]; exact Or.inr h
  have hS : va_S A s.heap s.heap [] := va_S.rf
  have hl := lv_entry ([.ref h0, .int x, .int y]) (n := 3) (Nat.le_of_ble_eq_true rfl)
  rw [lg_entry_eq]
  generalize (lg_sl ([.ref h0, .int x, .int y]) ++ List.replicate (3 - (lg_sl ([.ref h0, .int x, .int y])).length) Slot.unset).toArray = ls at hl ⊢
  have hl : lv_has ls 3 [(0, .ref h0), (1, .int x), (2, .int y)] := hl
  refine lv_aload_n hx hb d_M_register_0 rfl (lv_at hl 0 rfl) ?_
  refine lv_iconst (v := 0) hx hb d_M_register_1 (by decide) ?_
  refine va_put (D := (dC, dI)) (ci := 6) (v := .int 0) (ty := .int) (C := "VotedTripleModel") (T := F_M) (N := 37) hx hb hw in_M ft_M tyok_M nm_M hown hK hP hD hS 0 rfl rfl 0 (by decide) (hw _ k_724) (fun _ h9 => h9) rfl (by decide +kernel) rfl rfl (Nat.le_of_ble_eq_true rfl) d_M_register_2 (fun H locs hP hD hS => ?_)
  have hP : va_P (dC, dI) classes [(h0, .inr (6, [.int 0, .int 0, .ref g2, .int 0, .int 0, .int 0, .int 0, .int 0, .ref g8, .ref g9, .ref g10, .ref g11, .ref g12, .ref g13, .ref g14, .ref g15, .ref g16, .ref g17, .ref g18, .ref g19, .ref g20, .ref g21, .ref g22, .ref g23, .int 0, .int 0, .int 0, .int 0, .ref g28, .int 0, .ref g30, .ref g31, .ref g32, .int 0, .int 0, .int 0, .ref g36]))] H := hP
  have hD : va_D A [(h0, .inr (6, [.int 0, .int 0, .ref g2, .int 0, .int 0, .int 0, .int 0, .int 0, .ref g8, .ref g9, .ref g10, .ref g11, .ref g12, .ref g13, .ref g14, .ref g15, .ref g16, .ref g17, .ref g18, .ref g19, .ref g20, .ref g21, .ref g22, .ref g23, .int 0, .int 0, .int 0, .int 0, .ref g28, .int 0, .ref g30, .ref g31, .ref g32, .int 0, .int 0, .int 0, .ref g36]))] := hD
  refine lv_aload_n hx hb d_M_register_5 rfl (lv_at hl 0 rfl) ?_
  refine va_get (D := (dC, dI)) (ci := 6) (v := .int 0) (C := "VotedTripleModel") (T := F_M) (N := 37) hx hb hw in_M hown hK hP 0 rfl rfl 3 (by decide) (hw _ k_727) (fun _ h9 => h9) rfl d_M_register_6 ?_
  refine lv_if_eq (tgt := 29) hx hb d_M_register_9 rfl (fun hc1 => ?_) (fun hc1 => by first | exact absurd (by decide) hc1 | exact absurd hc1 (by decide))
  refine lv_iconst (v := (-1)) hx hb d_M_register_29 (by decide) ?_
  refine lv_goto (tgt := 44) hx hb d_M_register_30 rfl ?_
  have hP9 := hP.sub (ws' := []) [] rfl
  have hD9 := hD.sub (ws' := []) [] (by decide) rfl
  have hK9 := hK.sub (tys' := []) [] rfl
  refine W.widen (k := 0) (n := 0) (Nat.le_of_ble_eq_true rfl) (Nat.le_of_ble_eq_true rfl) ?_
  exact W.iret (v := (-1)) hx hb hr (fun t ht hW => ⟨⟨_, (), rfl, rfl, by rw [ht]; exact hP9, va_K.moved hW.alike hK9, hD9⟩, hS.F ht⟩) hS.2.2 d_M_register_44

set_option maxHeartbeats 4000000 in
set_option maxRecDepth 100000 in
theorem c_M_code_0 (l : Launch) (dC : Nat → ClassId) (dI : Nat → Nat → Nat) (h0 g2 g8 g9 g10 g11 g12 g13 g14 g15 g16 g17 g18 g19 g20 g21 g22 g23 g28 g30 g31 g32 g36 : Nat) (x y : Int32) (sz : Nat) : Met l y_M_code (tbw y_M_code b_M_code 3 (some .int)) ({ frames := 0, cells := 0, slots := 0, locals := 0 }) (va_Pc [.ref h0, .int x, .int y] (fun U => U.heap.size = sz ∧ va_P (dC, dI) classes [(h0, .inr (6, [.int 0, .int 0, .ref g2, .int 0, .int 0, .int 0, .int 0, .int 0, .ref g8, .ref g9, .ref g10, .ref g11, .ref g12, .ref g13, .ref g14, .ref g15, .ref g16, .ref g17, .ref g18, .ref g19, .ref g20, .ref g21, .ref g22, .ref g23, .int 0, .int 0, .int 0, .int 0, .ref g28, .int 0, .ref g30, .ref g31, .ref g32, .int 0, .int 0, .int 0, .ref g36]))] U.heap ∧ va_K (dC, dI) classes [] U ∧ va_D (fun _ => True) [(h0, .inr (6, [.int 0, .int 0, .ref g2, .int 0, .int 0, .int 0, .int 0, .int 0, .ref g8, .ref g9, .ref g10, .ref g11, .ref g12, .ref g13, .ref g14, .ref g15, .ref g16, .ref g17, .ref g18, .ref g19, .ref g20, .ref g21, .ref g22, .ref g23, .int 0, .int 0, .int 0, .int 0, .ref g28, .int 0, .ref g30, .ref g31, .ref g32, .int 0, .int 0, .int 0, .ref g36]))])) (va_Qi (fun (r : Int32) (u9 : Unit) => match u9 with | _ => r = (-1)) (fun (u9 : Unit) t => match u9 with | _ => va_P (dC, dI) classes [] t.heap ∧ va_K (dC, dI) classes [] t ∧ va_D (va_A [(h0, .inr (6, [.int 0, .int 0, .ref g2, .int 0, .int 0, .int 0, .int 0, .int 0, .ref g8, .ref g9, .ref g10, .ref g11, .ref g12, .ref g13, .ref g14, .ref g15, .ref g16, .ref g17, .ref g18, .ref g19, .ref g20, .ref g21, .ref g22, .ref g23, .int 0, .int 0, .int 0, .int 0, .ref g28, .int 0, .ref g30, .ref g31, .ref g32, .int 0, .int 0, .int 0, .ref g36]))] sz) []) (va_A [(h0, .inr (6, [.int 0, .int 0, .ref g2, .int 0, .int 0, .int 0, .int 0, .int 0, .ref g8, .ref g9, .ref g10, .ref g11, .ref g12, .ref g13, .ref g14, .ref g15, .ref g16, .ref g17, .ref g18, .ref g19, .ref g20, .ref g21, .ref g22, .ref g23, .int 0, .int 0, .int 0, .int 0, .ref g28, .int 0, .ref g30, .ref g31, .ref g32, .int 0, .int 0, .int 0, .ref g36]))] sz)) 0 0 (va_A [(h0, .inr (6, [.int 0, .int 0, .ref g2, .int 0, .int 0, .int 0, .int 0, .int 0, .ref g8, .ref g9, .ref g10, .ref g11, .ref g12, .ref g13, .ref g14, .ref g15, .ref g16, .ref g17, .ref g18, .ref g19, .ref g20, .ref g21, .ref g22, .ref g23, .int 0, .int 0, .int 0, .int 0, .ref g28, .int 0, .ref g30, .ref g31, .ref g32, .int 0, .int 0, .int 0, .ref g36]))] sz) := by
  refine Met.ofW (cc := b_M_code) (maxL := 3) (ret := (some .int)) (by decide) rfl ?_
  intro p e s m args below meth c s₁ B hml hv
  obtain ⟨rfl, hsz, hP, hK, hD0⟩ := hv
  have hx := B.exec
  have hb := B.bytes
  have hr := B.returns
  have hts := atoms_spec (ws := (tbw y_M_code b_M_code 3 (some .int))) B.pre
  have hw : ∀ z9 ∈ tb, z9.before ([.ref h0, .int x, .int y] : List Value).toArray s = true := fun z9 h => hts z9 (List.mem_cons_of_mem _ h)
  have hown : s.vm.findClass "VotedTripleModel" = some m.cls := findClass_of_methodNamed B.named
  have hlocks := B.notSynchronized
  subst hsz
  have hD := hD0.self (sz := s.heap.size)
  generalize hAe : va_A [(h0, .inr (6, [.int 0, .int 0, .ref g2, .int 0, .int 0, .int 0, .int 0, .int 0, .ref g8, .ref g9, .ref g10, .ref g11, .ref g12, .ref g13, .ref g14, .ref g15, .ref g16, .ref g17, .ref g18, .ref g19, .ref g20, .ref g21, .ref g22, .ref g23, .int 0, .int 0, .int 0, .int 0, .ref g28, .int 0, .ref g30, .ref g31, .ref g32, .int 0, .int 0, .int 0, .ref g36]))] s.heap.size = A at hD ⊢
  have hA : ∀ q : Nat, s.heap.size ≤ q → A q := fun q h => by rw [← hAe]; exact Or.inr h
  have hS : va_S A s.heap s.heap [] := va_S.rf
  have hl := lv_entry ([.ref h0, .int x, .int y]) (n := 3) (Nat.le_of_ble_eq_true rfl)
  rw [lg_entry_eq]
  generalize (lg_sl ([.ref h0, .int x, .int y]) ++ List.replicate (3 - (lg_sl ([.ref h0, .int x, .int y])).length) Slot.unset).toArray = ls at hl ⊢
  have hl : lv_has ls 3 [(0, .ref h0), (1, .int x), (2, .int y)] := hl
  refine lv_aload_n hx hb d_M_code_0 rfl (lv_at hl 0 rfl) ?_
  refine lv_iconst (v := 0) hx hb d_M_code_1 (by decide) ?_
  refine va_put (D := (dC, dI)) (ci := 6) (v := .int 0) (ty := .int) (C := "VotedTripleModel") (T := F_M) (N := 37) hx hb hw in_M ft_M tyok_M nm_M hown hK hP hD hS 0 rfl rfl 0 (by decide) (hw _ k_724) (fun _ h9 => h9) rfl (by decide +kernel) rfl rfl (Nat.le_of_ble_eq_true rfl) d_M_code_2 (fun H locs hP hD hS => ?_)
  have hP : va_P (dC, dI) classes [(h0, .inr (6, [.int 0, .int 0, .ref g2, .int 0, .int 0, .int 0, .int 0, .int 0, .ref g8, .ref g9, .ref g10, .ref g11, .ref g12, .ref g13, .ref g14, .ref g15, .ref g16, .ref g17, .ref g18, .ref g19, .ref g20, .ref g21, .ref g22, .ref g23, .int 0, .int 0, .int 0, .int 0, .ref g28, .int 0, .ref g30, .ref g31, .ref g32, .int 0, .int 0, .int 0, .ref g36]))] H := hP
  have hD : va_D A [(h0, .inr (6, [.int 0, .int 0, .ref g2, .int 0, .int 0, .int 0, .int 0, .int 0, .ref g8, .ref g9, .ref g10, .ref g11, .ref g12, .ref g13, .ref g14, .ref g15, .ref g16, .ref g17, .ref g18, .ref g19, .ref g20, .ref g21, .ref g22, .ref g23, .int 0, .int 0, .int 0, .int 0, .ref g28, .int 0, .ref g30, .ref g31, .ref g32, .int 0, .int 0, .int 0, .ref g36]))] := hD
  refine lv_aload_n hx hb d_M_code_5 rfl (lv_at hl 0 rfl) ?_
  refine va_get (D := (dC, dI)) (ci := 6) (v := .int 0) (C := "VotedTripleModel") (T := F_M) (N := 37) hx hb hw in_M hown hK hP 0 rfl rfl 3 (by decide) (hw _ k_727) (fun _ h9 => h9) rfl d_M_code_6 ?_
  refine lv_if_eq (tgt := 29) hx hb d_M_code_9 rfl (fun hc1 => ?_) (fun hc1 => by first | exact absurd (by decide) hc1 | exact absurd hc1 (by decide))
  refine lv_iconst (v := (-1)) hx hb d_M_code_29 (by decide) ?_
  refine lv_goto (tgt := 44) hx hb d_M_code_30 rfl ?_
  have hP9 := hP.sub (ws' := []) [] rfl
  have hD9 := hD.sub (ws' := []) [] (by decide) rfl
  have hK9 := hK.sub (tys' := []) [] rfl
  refine W.widen (k := 0) (n := 0) (Nat.le_of_ble_eq_true rfl) (Nat.le_of_ble_eq_true rfl) ?_
  exact W.iret (v := (-1)) hx hb hr (fun t ht hW => ⟨⟨_, (), rfl, rfl, by rw [ht]; exact hP9, va_K.moved hW.alike hK9, hD9⟩, hS.F ht⟩) hS.2.2 d_M_code_44

set_option maxHeartbeats 4000000 in
set_option maxRecDepth 100000 in
theorem c_M_flip_0 (l : Launch) (dC : Nat → ClassId) (dI : Nat → Nat → Nat) (h0 g2 g8 g9 g10 g11 g12 g13 g14 g15 g16 g17 g18 g19 g20 g21 g22 g23 g28 g30 g31 g32 g36 : Nat) (x y z u : Int32) (sz : Nat) : Met l y_M_flip (tbw y_M_flip b_M_flip 6 none) ({ frames := 0, cells := 0, slots := 0, locals := 0 }) (va_Pc [.ref h0, .int x, .int y, .int z, .int u] (fun U => U.heap.size = sz ∧ va_P (dC, dI) classes [(h0, .inr (6, [.int 0, .int 0, .ref g2, .int 0, .int 0, .int 0, .int 0, .int 0, .ref g8, .ref g9, .ref g10, .ref g11, .ref g12, .ref g13, .ref g14, .ref g15, .ref g16, .ref g17, .ref g18, .ref g19, .ref g20, .ref g21, .ref g22, .ref g23, .int 0, .int 0, .int 0, .int 0, .ref g28, .int 0, .ref g30, .ref g31, .ref g32, .int 0, .int 0, .int 0, .ref g36]))] U.heap ∧ va_K (dC, dI) classes [] U ∧ va_D (fun _ => True) [(h0, .inr (6, [.int 0, .int 0, .ref g2, .int 0, .int 0, .int 0, .int 0, .int 0, .ref g8, .ref g9, .ref g10, .ref g11, .ref g12, .ref g13, .ref g14, .ref g15, .ref g16, .ref g17, .ref g18, .ref g19, .ref g20, .ref g21, .ref g22, .ref g23, .int 0, .int 0, .int 0, .int 0, .ref g28, .int 0, .ref g30, .ref g31, .ref g32, .int 0, .int 0, .int 0, .ref g36]))])) (va_Qv (fun (u9 : Unit) => match u9 with | _ => True) (fun (u9 : Unit) t => match u9 with | _ => va_P (dC, dI) classes [(h0, .inr (6, [.int 1, .int 0, .ref g2, .int 0, .int 0, .int 0, .int 0, .int 0, .ref g8, .ref g9, .ref g10, .ref g11, .ref g12, .ref g13, .ref g14, .ref g15, .ref g16, .ref g17, .ref g18, .ref g19, .ref g20, .ref g21, .ref g22, .ref g23, .int 0, .int 0, .int 0, .int 0, .ref g28, .int 0, .ref g30, .ref g31, .ref g32, .int 0, .int 0, .int 0, .ref g36]))] t.heap ∧ va_K (dC, dI) classes [] t ∧ va_D (va_A [(h0, .inr (6, [.int 0, .int 0, .ref g2, .int 0, .int 0, .int 0, .int 0, .int 0, .ref g8, .ref g9, .ref g10, .ref g11, .ref g12, .ref g13, .ref g14, .ref g15, .ref g16, .ref g17, .ref g18, .ref g19, .ref g20, .ref g21, .ref g22, .ref g23, .int 0, .int 0, .int 0, .int 0, .ref g28, .int 0, .ref g30, .ref g31, .ref g32, .int 0, .int 0, .int 0, .ref g36]))] sz) [(h0, .inr (6, [.int 1, .int 0, .ref g2, .int 0, .int 0, .int 0, .int 0, .int 0, .ref g8, .ref g9, .ref g10, .ref g11, .ref g12, .ref g13, .ref g14, .ref g15, .ref g16, .ref g17, .ref g18, .ref g19, .ref g20, .ref g21, .ref g22, .ref g23, .int 0, .int 0, .int 0, .int 0, .ref g28, .int 0, .ref g30, .ref g31, .ref g32, .int 0, .int 0, .int 0, .ref g36]))]) (va_A [(h0, .inr (6, [.int 0, .int 0, .ref g2, .int 0, .int 0, .int 0, .int 0, .int 0, .ref g8, .ref g9, .ref g10, .ref g11, .ref g12, .ref g13, .ref g14, .ref g15, .ref g16, .ref g17, .ref g18, .ref g19, .ref g20, .ref g21, .ref g22, .ref g23, .int 0, .int 0, .int 0, .int 0, .ref g28, .int 0, .ref g30, .ref g31, .ref g32, .int 0, .int 0, .int 0, .ref g36]))] sz)) 0 0 (va_A [(h0, .inr (6, [.int 0, .int 0, .ref g2, .int 0, .int 0, .int 0, .int 0, .int 0, .ref g8, .ref g9, .ref g10, .ref g11, .ref g12, .ref g13, .ref g14, .ref g15, .ref g16, .ref g17, .ref g18, .ref g19, .ref g20, .ref g21, .ref g22, .ref g23, .int 0, .int 0, .int 0, .int 0, .ref g28, .int 0, .ref g30, .ref g31, .ref g32, .int 0, .int 0, .int 0, .ref g36]))] sz) := by
  refine Met.ofW (cc := b_M_flip) (maxL := 6) (ret := none) (by decide) rfl ?_
  intro p e s m args below meth c s₁ B hml hv
  obtain ⟨rfl, hsz, hP, hK, hD0⟩ := hv
  have hx := B.exec
  have hb := B.bytes
  have hr := B.returns
  have hts := atoms_spec (ws := (tbw y_M_flip b_M_flip 6 none)) B.pre
  have hw : ∀ z9 ∈ tb, z9.before ([.ref h0, .int x, .int y, .int z, .int u] : List Value).toArray s = true := fun z9 h => hts z9 (List.mem_cons_of_mem _ h)
  have hown : s.vm.findClass "VotedTripleModel" = some m.cls := findClass_of_methodNamed B.named
  have hlocks := B.notSynchronized
  subst hsz
  have hD := hD0.self (sz := s.heap.size)
  generalize hAe : va_A [(h0, .inr (6, [.int 0, .int 0, .ref g2, .int 0, .int 0, .int 0, .int 0, .int 0, .ref g8, .ref g9, .ref g10, .ref g11, .ref g12, .ref g13, .ref g14, .ref g15, .ref g16, .ref g17, .ref g18, .ref g19, .ref g20, .ref g21, .ref g22, .ref g23, .int 0, .int 0, .int 0, .int 0, .ref g28, .int 0, .ref g30, .ref g31, .ref g32, .int 0, .int 0, .int 0, .ref g36]))] s.heap.size = A at hD ⊢
  have hA : ∀ q : Nat, s.heap.size ≤ q → A q := fun q h => by rw [← hAe]; exact Or.inr h
  have hS : va_S A s.heap s.heap [] := va_S.rf
  have hl := lv_entry ([.ref h0, .int x, .int y, .int z, .int u]) (n := 6) (Nat.le_of_ble_eq_true rfl)
  rw [lg_entry_eq]
  generalize (lg_sl ([.ref h0, .int x, .int y, .int z, .int u]) ++ List.replicate (6 - (lg_sl ([.ref h0, .int x, .int y, .int z, .int u])).length) Slot.unset).toArray = ls at hl ⊢
  have hl : lv_has ls 6 [(0, .ref h0), (1, .int x), (2, .int y), (3, .int z), (4, .int u)] := hl
  refine lv_aload_n hx hb d_M_flip_0 rfl (lv_at hl 0 rfl) ?_
  refine va_get (D := (dC, dI)) (ci := 6) (v := .int 0) (C := "VotedTripleModel") (T := F_M) (N := 37) hx hb hw in_M hown hK hP 0 rfl rfl 3 (by decide) (hw _ k_727) (fun _ h9 => h9) rfl d_M_flip_1 ?_
  refine lv_if_eq (tgt := 78) hx hb d_M_flip_4 rfl (fun hc1 => ?_) (fun hc1 => by first | exact absurd (by decide) hc1 | exact absurd hc1 (by decide))
  refine lv_iconst (v := 0) hx hb d_M_flip_78 (by decide) ?_
  refine lv_istore hx hb d_M_flip_79 hl (by decide) rfl (fun ls hl => ?_)
  have hl : lv_has ls 6 [(5, .int 0), (0, .ref h0), (1, .int x), (2, .int y), (3, .int z), (4, .int u)] := hl
  refine lv_aload_n hx hb d_M_flip_81 rfl (lv_at hl 1 rfl) ?_
  refine lv_iload hx hb d_M_flip_82 (lv_at hl 0 rfl) ?_
  refine lv_if_eq (tgt := 91) hx hb d_M_flip_84 rfl (fun hc2 => ?_) (fun hc2 => by first | exact absurd (by decide) hc2 | exact absurd hc2 (by decide))
  refine lv_iconst (v := 1) hx hb d_M_flip_91 (by decide) ?_
  refine va_put (D := (dC, dI)) (ci := 6) (v := .int 1) (ty := .int) (C := "VotedTripleModel") (T := F_M) (N := 37) hx hb hw in_M ft_M tyok_M nm_M hown hK hP hD hS 0 rfl rfl 0 (by decide) (hw _ k_724) (fun _ h9 => h9) rfl (by decide +kernel) rfl rfl (Nat.le_of_ble_eq_true rfl) d_M_flip_92 (fun H locs hP hD hS => ?_)
  have hP : va_P (dC, dI) classes [(h0, .inr (6, [.int 1, .int 0, .ref g2, .int 0, .int 0, .int 0, .int 0, .int 0, .ref g8, .ref g9, .ref g10, .ref g11, .ref g12, .ref g13, .ref g14, .ref g15, .ref g16, .ref g17, .ref g18, .ref g19, .ref g20, .ref g21, .ref g22, .ref g23, .int 0, .int 0, .int 0, .int 0, .ref g28, .int 0, .ref g30, .ref g31, .ref g32, .int 0, .int 0, .int 0, .ref g36]))] H := hP
  have hD : va_D A [(h0, .inr (6, [.int 1, .int 0, .ref g2, .int 0, .int 0, .int 0, .int 0, .int 0, .ref g8, .ref g9, .ref g10, .ref g11, .ref g12, .ref g13, .ref g14, .ref g15, .ref g16, .ref g17, .ref g18, .ref g19, .ref g20, .ref g21, .ref g22, .ref g23, .int 0, .int 0, .int 0, .int 0, .ref g28, .int 0, .ref g30, .ref g31, .ref g32, .int 0, .int 0, .int 0, .ref g36]))] := hD
  refine lv_iload hx hb d_M_flip_95 (lv_at hl 0 rfl) ?_
  refine lv_if_ne (tgt := 101) hx hb d_M_flip_97 rfl (fun hc3 => by first | exact absurd hc3 (by decide) | exact absurd (by decide) hc3) (fun hc3 => ?_)
  have hP9 := hP.sub (ws' := [(h0, .inr (6, [.int 1, .int 0, .ref g2, .int 0, .int 0, .int 0, .int 0, .int 0, .ref g8, .ref g9, .ref g10, .ref g11, .ref g12, .ref g13, .ref g14, .ref g15, .ref g16, .ref g17, .ref g18, .ref g19, .ref g20, .ref g21, .ref g22, .ref g23, .int 0, .int 0, .int 0, .int 0, .ref g28, .int 0, .ref g30, .ref g31, .ref g32, .int 0, .int 0, .int 0, .ref g36]))]) [0] rfl
  have hD9 := hD.sub (ws' := [(h0, .inr (6, [.int 1, .int 0, .ref g2, .int 0, .int 0, .int 0, .int 0, .int 0, .ref g8, .ref g9, .ref g10, .ref g11, .ref g12, .ref g13, .ref g14, .ref g15, .ref g16, .ref g17, .ref g18, .ref g19, .ref g20, .ref g21, .ref g22, .ref g23, .int 0, .int 0, .int 0, .int 0, .ref g28, .int 0, .ref g30, .ref g31, .ref g32, .int 0, .int 0, .int 0, .ref g36]))]) [0] (by decide) rfl
  have hK9 := hK.sub (tys' := []) [] rfl
  refine W.widen (k := 0) (n := 0) (Nat.le_of_ble_eq_true rfl) (Nat.le_of_ble_eq_true rfl) ?_
  exact W.vret hx hb hr (fun t ht hW => ⟨⟨(), rfl, trivial, by rw [ht]; exact hP9, va_K.moved hW.alike hK9, hD9⟩, hS.F ht⟩) hS.2.2 d_M_flip_100

set_option maxHeartbeats 4000000 in
set_option maxRecDepth 100000 in
theorem c_M_state_0 (l : Launch) (dC : Nat → ClassId) (dI : Nat → Nat → Nat) (h0 g2 g8 g9 g10 g11 g12 g13 g14 g15 g16 g17 g18 g19 g20 g21 g22 g23 g28 g30 g31 g32 g36 : Nat) (x : Int32) (sz : Nat) : Met l y_M_state (tbw y_M_state b_M_state 2 (some .int)) ({ frames := 0, cells := 0, slots := 0, locals := 0 }) (va_Pc [.ref h0, .int x] (fun U => U.heap.size = sz ∧ va_P (dC, dI) classes [(h0, .inr (6, [.int 0, .int 0, .ref g2, .int 0, .int 0, .int 0, .int 0, .int 0, .ref g8, .ref g9, .ref g10, .ref g11, .ref g12, .ref g13, .ref g14, .ref g15, .ref g16, .ref g17, .ref g18, .ref g19, .ref g20, .ref g21, .ref g22, .ref g23, .int 0, .int 0, .int 0, .int 0, .ref g28, .int 0, .ref g30, .ref g31, .ref g32, .int 0, .int 0, .int 0, .ref g36]))] U.heap ∧ va_K (dC, dI) classes [] U ∧ va_D (fun _ => True) [(h0, .inr (6, [.int 0, .int 0, .ref g2, .int 0, .int 0, .int 0, .int 0, .int 0, .ref g8, .ref g9, .ref g10, .ref g11, .ref g12, .ref g13, .ref g14, .ref g15, .ref g16, .ref g17, .ref g18, .ref g19, .ref g20, .ref g21, .ref g22, .ref g23, .int 0, .int 0, .int 0, .int 0, .ref g28, .int 0, .ref g30, .ref g31, .ref g32, .int 0, .int 0, .int 0, .ref g36]))])) (va_Qi (fun (r : Int32) (u9 : Unit) => match u9 with | _ => r = stF x) (fun (u9 : Unit) t => match u9 with | _ => va_P (dC, dI) classes [] t.heap ∧ va_K (dC, dI) classes [] t ∧ va_D (va_A [(h0, .inr (6, [.int 0, .int 0, .ref g2, .int 0, .int 0, .int 0, .int 0, .int 0, .ref g8, .ref g9, .ref g10, .ref g11, .ref g12, .ref g13, .ref g14, .ref g15, .ref g16, .ref g17, .ref g18, .ref g19, .ref g20, .ref g21, .ref g22, .ref g23, .int 0, .int 0, .int 0, .int 0, .ref g28, .int 0, .ref g30, .ref g31, .ref g32, .int 0, .int 0, .int 0, .ref g36]))] sz) []) (va_A [(h0, .inr (6, [.int 0, .int 0, .ref g2, .int 0, .int 0, .int 0, .int 0, .int 0, .ref g8, .ref g9, .ref g10, .ref g11, .ref g12, .ref g13, .ref g14, .ref g15, .ref g16, .ref g17, .ref g18, .ref g19, .ref g20, .ref g21, .ref g22, .ref g23, .int 0, .int 0, .int 0, .int 0, .ref g28, .int 0, .ref g30, .ref g31, .ref g32, .int 0, .int 0, .int 0, .ref g36]))] sz)) 0 0 (va_A [(h0, .inr (6, [.int 0, .int 0, .ref g2, .int 0, .int 0, .int 0, .int 0, .int 0, .ref g8, .ref g9, .ref g10, .ref g11, .ref g12, .ref g13, .ref g14, .ref g15, .ref g16, .ref g17, .ref g18, .ref g19, .ref g20, .ref g21, .ref g22, .ref g23, .int 0, .int 0, .int 0, .int 0, .ref g28, .int 0, .ref g30, .ref g31, .ref g32, .int 0, .int 0, .int 0, .ref g36]))] sz) := by
  refine Met.ofW (cc := b_M_state) (maxL := 2) (ret := (some .int)) (by decide) rfl ?_
  intro p e s m args below meth c s₁ B hml hv
  obtain ⟨rfl, hsz, hP, hK, hD0⟩ := hv
  have hx := B.exec
  have hb := B.bytes
  have hr := B.returns
  have hts := atoms_spec (ws := (tbw y_M_state b_M_state 2 (some .int))) B.pre
  have hw : ∀ z9 ∈ tb, z9.before ([.ref h0, .int x] : List Value).toArray s = true := fun z9 h => hts z9 (List.mem_cons_of_mem _ h)
  have hown : s.vm.findClass "VotedTripleModel" = some m.cls := findClass_of_methodNamed B.named
  have hlocks := B.notSynchronized
  subst hsz
  have hD := hD0.self (sz := s.heap.size)
  generalize hAe : va_A [(h0, .inr (6, [.int 0, .int 0, .ref g2, .int 0, .int 0, .int 0, .int 0, .int 0, .ref g8, .ref g9, .ref g10, .ref g11, .ref g12, .ref g13, .ref g14, .ref g15, .ref g16, .ref g17, .ref g18, .ref g19, .ref g20, .ref g21, .ref g22, .ref g23, .int 0, .int 0, .int 0, .int 0, .ref g28, .int 0, .ref g30, .ref g31, .ref g32, .int 0, .int 0, .int 0, .ref g36]))] s.heap.size = A at hD ⊢
  have hA : ∀ q : Nat, s.heap.size ≤ q → A q := fun q h => by rw [← hAe]; exact Or.inr h
  have hS : va_S A s.heap s.heap [] := va_S.rf
  have hl := lv_entry ([.ref h0, .int x]) (n := 2) (Nat.le_of_ble_eq_true rfl)
  rw [lg_entry_eq]
  generalize (lg_sl ([.ref h0, .int x]) ++ List.replicate (2 - (lg_sl ([.ref h0, .int x])).length) Slot.unset).toArray = ls at hl ⊢
  have hl : lv_has ls 2 [(0, .ref h0), (1, .int x)] := hl
  refine lv_aload_n hx hb d_M_state_0 rfl (lv_at hl 0 rfl) ?_
  refine lv_iconst (v := 0) hx hb d_M_state_1 (by decide) ?_
  refine va_put (D := (dC, dI)) (ci := 6) (v := .int 0) (ty := .int) (C := "VotedTripleModel") (T := F_M) (N := 37) hx hb hw in_M ft_M tyok_M nm_M hown hK hP hD hS 0 rfl rfl 0 (by decide) (hw _ k_724) (fun _ h9 => h9) rfl (by decide +kernel) rfl rfl (Nat.le_of_ble_eq_true rfl) d_M_state_2 (fun H locs hP hD hS => ?_)
  have hP : va_P (dC, dI) classes [(h0, .inr (6, [.int 0, .int 0, .ref g2, .int 0, .int 0, .int 0, .int 0, .int 0, .ref g8, .ref g9, .ref g10, .ref g11, .ref g12, .ref g13, .ref g14, .ref g15, .ref g16, .ref g17, .ref g18, .ref g19, .ref g20, .ref g21, .ref g22, .ref g23, .int 0, .int 0, .int 0, .int 0, .ref g28, .int 0, .ref g30, .ref g31, .ref g32, .int 0, .int 0, .int 0, .ref g36]))] H := hP
  have hD : va_D A [(h0, .inr (6, [.int 0, .int 0, .ref g2, .int 0, .int 0, .int 0, .int 0, .int 0, .ref g8, .ref g9, .ref g10, .ref g11, .ref g12, .ref g13, .ref g14, .ref g15, .ref g16, .ref g17, .ref g18, .ref g19, .ref g20, .ref g21, .ref g22, .ref g23, .int 0, .int 0, .int 0, .int 0, .ref g28, .int 0, .ref g30, .ref g31, .ref g32, .int 0, .int 0, .int 0, .ref g36]))] := hD
  refine lv_iload_n hx hb d_M_state_5 rfl (lv_at hl 1 rfl) ?_
  rcases sw6 (x) with hs1 | hs1 | hs1 | hs1 | hs1 | hs1 | hs1 | hs1
  · refine lv_tableIn (off := 42) (tgt := 48) hx hb d_M_state_6 (by rw [hs1]; decide) (by rw [hs1]; decide) (by rw [hs1]; decide) rfl ?_
    refine lv_aload_n hx hb d_M_state_48 rfl (lv_at hl 0 rfl) ?_
    refine va_get (D := (dC, dI)) (ci := 6) (v := .int 0) (C := "VotedTripleModel") (T := F_M) (N := 37) hx hb hw in_M hown hK hP 0 rfl rfl 3 (by decide) (hw _ k_727) (fun _ h9 => h9) rfl d_M_state_49 ?_
    refine lv_if_ne (tgt := 59) hx hb d_M_state_52 rfl (fun hc2 => by first | exact absurd hc2 (by decide) | exact absurd (by decide) hc2) (fun hc2 => ?_)
    refine lv_iconst (v := (-1)) hx hb d_M_state_55 (by decide) ?_
    refine lv_goto (tgt := 74) hx hb d_M_state_56 rfl ?_
    have hP9 := hP.sub (ws' := []) [] rfl
    have hD9 := hD.sub (ws' := []) [] (by decide) rfl
    have hK9 := hK.sub (tys' := []) [] rfl
    refine W.widen (k := 0) (n := 0) (Nat.le_of_ble_eq_true rfl) (Nat.le_of_ble_eq_true rfl) ?_
    exact W.iret (v := (-1)) hx hb hr (fun t ht hW => ⟨⟨_, (), rfl, (by rw [hs1]; decide), by rw [ht]; exact hP9, va_K.moved hW.alike hK9, hD9⟩, hS.F ht⟩) hS.2.2 d_M_state_74
  · refine lv_tableIn (off := 69) (tgt := 75) hx hb d_M_state_6 (by rw [hs1]; decide) (by rw [hs1]; decide) (by rw [hs1]; decide) rfl ?_
    refine lv_aload_n hx hb d_M_state_75 rfl (lv_at hl 0 rfl) ?_
    refine va_get (D := (dC, dI)) (ci := 6) (v := .int 0) (C := "VotedTripleModel") (T := F_M) (N := 37) hx hb hw in_M hown hK hP 0 rfl rfl 6 (by decide) (hw _ k_730) (fun _ h9 => h9) rfl d_M_state_76 ?_
    have hP9 := hP.sub (ws' := []) [] rfl
    have hD9 := hD.sub (ws' := []) [] (by decide) rfl
    have hK9 := hK.sub (tys' := []) [] rfl
    refine W.widen (k := 0) (n := 0) (Nat.le_of_ble_eq_true rfl) (Nat.le_of_ble_eq_true rfl) ?_
    exact W.iret (v := 0) hx hb hr (fun t ht hW => ⟨⟨_, (), rfl, (by rw [hs1]; decide), by rw [ht]; exact hP9, va_K.moved hW.alike hK9, hD9⟩, hS.F ht⟩) hS.2.2 d_M_state_79
  · refine lv_tableIn (off := 74) (tgt := 80) hx hb d_M_state_6 (by rw [hs1]; decide) (by rw [hs1]; decide) (by rw [hs1]; decide) rfl ?_
    refine lv_aload_n hx hb d_M_state_80 rfl (lv_at hl 0 rfl) ?_
    refine va_get (D := (dC, dI)) (ci := 6) (v := .int 0) (C := "VotedTripleModel") (T := F_M) (N := 37) hx hb hw in_M hown hK hP 0 rfl rfl 7 (by decide) (hw _ k_731) (fun _ h9 => h9) rfl d_M_state_81 ?_
    have hP9 := hP.sub (ws' := []) [] rfl
    have hD9 := hD.sub (ws' := []) [] (by decide) rfl
    have hK9 := hK.sub (tys' := []) [] rfl
    refine W.widen (k := 0) (n := 0) (Nat.le_of_ble_eq_true rfl) (Nat.le_of_ble_eq_true rfl) ?_
    exact W.iret (v := 0) hx hb hr (fun t ht hW => ⟨⟨_, (), rfl, (by rw [hs1]; decide), by rw [ht]; exact hP9, va_K.moved hW.alike hK9, hD9⟩, hS.F ht⟩) hS.2.2 d_M_state_84
  · refine lv_tableIn (off := 79) (tgt := 85) hx hb d_M_state_6 (by rw [hs1]; decide) (by rw [hs1]; decide) (by rw [hs1]; decide) rfl ?_
    refine lv_aload_n hx hb d_M_state_85 rfl (lv_at hl 0 rfl) ?_
    refine va_get (D := (dC, dI)) (ci := 6) (v := .int 0) (C := "VotedTripleModel") (T := F_M) (N := 37) hx hb hw in_M hown hK hP 0 rfl rfl 29 (by decide) (hw _ k_752) (fun _ h9 => h9) rfl d_M_state_86 ?_
    have hP9 := hP.sub (ws' := []) [] rfl
    have hD9 := hD.sub (ws' := []) [] (by decide) rfl
    have hK9 := hK.sub (tys' := []) [] rfl
    refine W.widen (k := 0) (n := 0) (Nat.le_of_ble_eq_true rfl) (Nat.le_of_ble_eq_true rfl) ?_
    exact W.iret (v := 0) hx hb hr (fun t ht hW => ⟨⟨_, (), rfl, (by rw [hs1]; decide), by rw [ht]; exact hP9, va_K.moved hW.alike hK9, hD9⟩, hS.F ht⟩) hS.2.2 d_M_state_89
  · refine lv_tableIn (off := 84) (tgt := 90) hx hb d_M_state_6 (by rw [hs1]; decide) (by rw [hs1]; decide) (by rw [hs1]; decide) rfl ?_
    refine lv_aload_n hx hb d_M_state_90 rfl (lv_at hl 0 rfl) ?_
    refine va_get (D := (dC, dI)) (ci := 6) (v := .int 0) (C := "VotedTripleModel") (T := F_M) (N := 37) hx hb hw in_M hown hK hP 0 rfl rfl 35 (by decide) (hw _ k_758) (fun _ h9 => h9) rfl d_M_state_91 ?_
    have hP9 := hP.sub (ws' := []) [] rfl
    have hD9 := hD.sub (ws' := []) [] (by decide) rfl
    have hK9 := hK.sub (tys' := []) [] rfl
    refine W.widen (k := 0) (n := 0) (Nat.le_of_ble_eq_true rfl) (Nat.le_of_ble_eq_true rfl) ?_
    exact W.iret (v := 0) hx hb hr (fun t ht hW => ⟨⟨_, (), rfl, (by rw [hs1]; decide), by rw [ht]; exact hP9, va_K.moved hW.alike hK9, hD9⟩, hS.F ht⟩) hS.2.2 d_M_state_94
  · refine lv_tableIn (off := 89) (tgt := 95) hx hb d_M_state_6 (by rw [hs1]; decide) (by rw [hs1]; decide) (by rw [hs1]; decide) rfl ?_
    refine lv_aload_n hx hb d_M_state_95 rfl (lv_at hl 0 rfl) ?_
    refine va_get (D := (dC, dI)) (ci := 6) (v := .int 0) (C := "VotedTripleModel") (T := F_M) (N := 37) hx hb hw in_M hown hK hP 0 rfl rfl 26 (by decide) (hw _ k_749) (fun _ h9 => h9) rfl d_M_state_96 ?_
    refine lv_aload_n hx hb d_M_state_99 rfl (lv_at hl 0 rfl) ?_
    refine va_get (D := (dC, dI)) (ci := 6) (v := .int 0) (C := "VotedTripleModel") (T := F_M) (N := 37) hx hb hw in_M hown hK hP 0 rfl rfl 27 (by decide) (hw _ k_750) (fun _ h9 => h9) rfl d_M_state_100 ?_
    refine lv_isub hx hb d_M_state_103 ?_
    have hP9 := hP.sub (ws' := []) [] rfl
    have hD9 := hD.sub (ws' := []) [] (by decide) rfl
    have hK9 := hK.sub (tys' := []) [] rfl
    refine W.widen (k := 0) (n := 0) (Nat.le_of_ble_eq_true rfl) (Nat.le_of_ble_eq_true rfl) ?_
    exact W.iret (v := (0 - 0)) hx hb hr (fun t ht hW => ⟨⟨_, (), rfl, (by rw [hs1]; decide), by rw [ht]; exact hP9, va_K.moved hW.alike hK9, hD9⟩, hS.F ht⟩) hS.2.2 d_M_state_104
  · refine lv_tableIn (off := 99) (tgt := 105) hx hb d_M_state_6 (by rw [hs1]; decide) (by rw [hs1]; decide) (by rw [hs1]; decide) rfl ?_
    refine lv_aload_n hx hb d_M_state_105 rfl (lv_at hl 0 rfl) ?_
    refine va_get (D := (dC, dI)) (ci := 6) (v := .int 0) (C := "VotedTripleModel") (T := F_M) (N := 37) hx hb hw in_M hown hK hP 0 rfl rfl 5 (by decide) (hw _ k_729) (fun _ h9 => h9) rfl d_M_state_106 ?_
    refine lv_if_eq (tgt := 116) hx hb d_M_state_109 rfl (fun hc3 => ?_) (fun hc3 => by first | exact absurd (by decide) hc3 | exact absurd hc3 (by decide))
    refine lv_iconst (v := 0) hx hb d_M_state_116 (by decide) ?_
    have hP9 := hP.sub (ws' := []) [] rfl
    have hD9 := hD.sub (ws' := []) [] (by decide) rfl
    have hK9 := hK.sub (tys' := []) [] rfl
    refine W.widen (k := 0) (n := 0) (Nat.le_of_ble_eq_true rfl) (Nat.le_of_ble_eq_true rfl) ?_
    exact W.iret (v := 0) hx hb hr (fun t ht hW => ⟨⟨_, (), rfl, (by rw [hs1]; decide), by rw [ht]; exact hP9, va_K.moved hW.alike hK9, hD9⟩, hS.F ht⟩) hS.2.2 d_M_state_117
  · refine lv_tableOut (tgt := 118) hx hb d_M_state_6 hs1 rfl ?_
    refine lv_iconst (v := (-1)) hx hb d_M_state_118 (by decide) ?_
    have hP9 := hP.sub (ws' := []) [] rfl
    have hD9 := hD.sub (ws' := []) [] (by decide) rfl
    have hK9 := hK.sub (tys' := []) [] rfl
    refine W.widen (k := 0) (n := 0) (Nat.le_of_ble_eq_true rfl) (Nat.le_of_ble_eq_true rfl) ?_
    exact W.iret (v := (-1)) hx hb hr (fun t ht hW => ⟨⟨_, (), rfl, (by rw [stF_out hs1]), by rw [ht]; exact hP9, va_K.moved hW.alike hK9, hD9⟩, hS.F ht⟩) hS.2.2 d_M_state_119

set_option maxHeartbeats 4000000 in
set_option maxRecDepth 100000 in
theorem c_M_allow_0 (l : Launch) (dC : Nat → ClassId) (dI : Nat → Nat → Nat) (h0 g2 g8 g9 g10 g11 g12 g13 g14 g15 g16 g17 g18 g19 g20 g21 g22 g23 g28 g30 g31 g32 g36 : Nat) (v : Int32) (hv : narrow .boolean (.int v) = .int v ∧ fits .boolean (.int v) = true) (sz : Nat) : Met l y_M_allow (tbw y_M_allow b_M_allow 2 none) ({ frames := 0, cells := 0, slots := 0, locals := 0 }) (va_Pc [.ref h0, .int v] (fun U => U.heap.size = sz ∧ va_P (dC, dI) classes [(h0, .inr (6, [.int 0, .int 0, .ref g2, .int 0, .int 0, .int 0, .int 0, .int 0, .ref g8, .ref g9, .ref g10, .ref g11, .ref g12, .ref g13, .ref g14, .ref g15, .ref g16, .ref g17, .ref g18, .ref g19, .ref g20, .ref g21, .ref g22, .ref g23, .int 0, .int 0, .int 0, .int 0, .ref g28, .int 0, .ref g30, .ref g31, .ref g32, .int 0, .int 0, .int 0, .ref g36]))] U.heap ∧ va_K (dC, dI) classes [] U ∧ va_D (fun _ => True) [(h0, .inr (6, [.int 0, .int 0, .ref g2, .int 0, .int 0, .int 0, .int 0, .int 0, .ref g8, .ref g9, .ref g10, .ref g11, .ref g12, .ref g13, .ref g14, .ref g15, .ref g16, .ref g17, .ref g18, .ref g19, .ref g20, .ref g21, .ref g22, .ref g23, .int 0, .int 0, .int 0, .int 0, .ref g28, .int 0, .ref g30, .ref g31, .ref g32, .int 0, .int 0, .int 0, .ref g36]))])) (va_Qv (fun (u9 : Unit) => match u9 with | _ => True) (fun (u9 : Unit) t => match u9 with | _ => va_P (dC, dI) classes [] t.heap ∧ va_K (dC, dI) classes [] t ∧ va_D (va_A [(h0, .inr (6, [.int 0, .int 0, .ref g2, .int 0, .int 0, .int 0, .int 0, .int 0, .ref g8, .ref g9, .ref g10, .ref g11, .ref g12, .ref g13, .ref g14, .ref g15, .ref g16, .ref g17, .ref g18, .ref g19, .ref g20, .ref g21, .ref g22, .ref g23, .int 0, .int 0, .int 0, .int 0, .ref g28, .int 0, .ref g30, .ref g31, .ref g32, .int 0, .int 0, .int 0, .ref g36]))] sz) []) (va_A [(h0, .inr (6, [.int 0, .int 0, .ref g2, .int 0, .int 0, .int 0, .int 0, .int 0, .ref g8, .ref g9, .ref g10, .ref g11, .ref g12, .ref g13, .ref g14, .ref g15, .ref g16, .ref g17, .ref g18, .ref g19, .ref g20, .ref g21, .ref g22, .ref g23, .int 0, .int 0, .int 0, .int 0, .ref g28, .int 0, .ref g30, .ref g31, .ref g32, .int 0, .int 0, .int 0, .ref g36]))] sz)) 0 0 (va_A [(h0, .inr (6, [.int 0, .int 0, .ref g2, .int 0, .int 0, .int 0, .int 0, .int 0, .ref g8, .ref g9, .ref g10, .ref g11, .ref g12, .ref g13, .ref g14, .ref g15, .ref g16, .ref g17, .ref g18, .ref g19, .ref g20, .ref g21, .ref g22, .ref g23, .int 0, .int 0, .int 0, .int 0, .ref g28, .int 0, .ref g30, .ref g31, .ref g32, .int 0, .int 0, .int 0, .ref g36]))] sz) := by
  refine Met.ofW (cc := b_M_allow) (maxL := 2) (ret := none) (by decide) rfl ?_
  intro p e s m args below meth c s₁ B hml hv
  obtain ⟨rfl, hsz, hP, hK, hD0⟩ := hv
  have hx := B.exec
  have hb := B.bytes
  have hr := B.returns
  have hts := atoms_spec (ws := (tbw y_M_allow b_M_allow 2 none)) B.pre
  have hw : ∀ z9 ∈ tb, z9.before ([.ref h0, .int v] : List Value).toArray s = true := fun z9 h => hts z9 (List.mem_cons_of_mem _ h)
  have hown : s.vm.findClass "VotedTripleModel" = some m.cls := findClass_of_methodNamed B.named
  have hlocks := B.notSynchronized
  subst hsz
  have hD := hD0.self (sz := s.heap.size)
  generalize hAe : va_A [(h0, .inr (6, [.int 0, .int 0, .ref g2, .int 0, .int 0, .int 0, .int 0, .int 0, .ref g8, .ref g9, .ref g10, .ref g11, .ref g12, .ref g13, .ref g14, .ref g15, .ref g16, .ref g17, .ref g18, .ref g19, .ref g20, .ref g21, .ref g22, .ref g23, .int 0, .int 0, .int 0, .int 0, .ref g28, .int 0, .ref g30, .ref g31, .ref g32, .int 0, .int 0, .int 0, .ref g36]))] s.heap.size = A at hD ⊢
  have hA : ∀ q : Nat, s.heap.size ≤ q → A q := fun q h => by rw [← hAe]; exact Or.inr h
  have hS : va_S A s.heap s.heap [] := va_S.rf
  have hl := lv_entry ([.ref h0, .int v]) (n := 2) (Nat.le_of_ble_eq_true rfl)
  rw [lg_entry_eq]
  generalize (lg_sl ([.ref h0, .int v]) ++ List.replicate (2 - (lg_sl ([.ref h0, .int v])).length) Slot.unset).toArray = ls at hl ⊢
  have hl : lv_has ls 2 [(0, .ref h0), (1, .int v)] := hl
  refine lv_aload_n hx hb d_M_allow_0 rfl (lv_at hl 0 rfl) ?_
  refine lv_iconst (v := 0) hx hb d_M_allow_1 (by decide) ?_
  refine va_put (D := (dC, dI)) (ci := 6) (v := .int 0) (ty := .int) (C := "VotedTripleModel") (T := F_M) (N := 37) hx hb hw in_M ft_M tyok_M nm_M hown hK hP hD hS 0 rfl rfl 0 (by decide) (hw _ k_724) (fun _ h9 => h9) rfl (by decide +kernel) rfl rfl (Nat.le_of_ble_eq_true rfl) d_M_allow_2 (fun H locs hP hD hS => ?_)
  have hP : va_P (dC, dI) classes [(h0, .inr (6, [.int 0, .int 0, .ref g2, .int 0, .int 0, .int 0, .int 0, .int 0, .ref g8, .ref g9, .ref g10, .ref g11, .ref g12, .ref g13, .ref g14, .ref g15, .ref g16, .ref g17, .ref g18, .ref g19, .ref g20, .ref g21, .ref g22, .ref g23, .int 0, .int 0, .int 0, .int 0, .ref g28, .int 0, .ref g30, .ref g31, .ref g32, .int 0, .int 0, .int 0, .ref g36]))] H := hP
  have hD : va_D A [(h0, .inr (6, [.int 0, .int 0, .ref g2, .int 0, .int 0, .int 0, .int 0, .int 0, .ref g8, .ref g9, .ref g10, .ref g11, .ref g12, .ref g13, .ref g14, .ref g15, .ref g16, .ref g17, .ref g18, .ref g19, .ref g20, .ref g21, .ref g22, .ref g23, .int 0, .int 0, .int 0, .int 0, .ref g28, .int 0, .ref g30, .ref g31, .ref g32, .int 0, .int 0, .int 0, .ref g36]))] := hD
  refine lv_aload_n hx hb d_M_allow_5 rfl (lv_at hl 0 rfl) ?_
  refine lv_iload_n hx hb d_M_allow_6 rfl (lv_at hl 1 rfl) ?_
  refine va_put (D := (dC, dI)) (ci := 6) (v := .int v) (ty := .boolean) (C := "VotedTripleModel") (T := F_M) (N := 37) hx hb hw in_M ft_M tyok_M nm_M hown hK hP hD hS 0 rfl rfl 5 (by decide) (hw _ k_729) (fun _ h9 => h9) rfl (by decide +kernel) hv.1 hv.2 (Nat.le_of_ble_eq_true rfl) d_M_allow_7 (fun H locs hP hD hS => ?_)
  have hP : va_P (dC, dI) classes [(h0, .inr (6, [.int 0, .int 0, .ref g2, .int 0, .int 0, .int v, .int 0, .int 0, .ref g8, .ref g9, .ref g10, .ref g11, .ref g12, .ref g13, .ref g14, .ref g15, .ref g16, .ref g17, .ref g18, .ref g19, .ref g20, .ref g21, .ref g22, .ref g23, .int 0, .int 0, .int 0, .int 0, .ref g28, .int 0, .ref g30, .ref g31, .ref g32, .int 0, .int 0, .int 0, .ref g36]))] H := hP
  have hD : va_D A [(h0, .inr (6, [.int 0, .int 0, .ref g2, .int 0, .int 0, .int v, .int 0, .int 0, .ref g8, .ref g9, .ref g10, .ref g11, .ref g12, .ref g13, .ref g14, .ref g15, .ref g16, .ref g17, .ref g18, .ref g19, .ref g20, .ref g21, .ref g22, .ref g23, .int 0, .int 0, .int 0, .int 0, .ref g28, .int 0, .ref g30, .ref g31, .ref g32, .int 0, .int 0, .int 0, .ref g36]))] := hD
  have hP9 := hP.sub (ws' := []) [] rfl
  have hD9 := hD.sub (ws' := []) [] (by decide) rfl
  have hK9 := hK.sub (tys' := []) [] rfl
  refine W.widen (k := 0) (n := 0) (Nat.le_of_ble_eq_true rfl) (Nat.le_of_ble_eq_true rfl) ?_
  exact W.vret hx hb hr (fun t ht hW => ⟨⟨(), rfl, trivial, by rw [ht]; exact hP9, va_K.moved hW.alike hK9, hD9⟩, hS.F ht⟩) hS.2.2 d_M_allow_10

set_option maxHeartbeats 4000000 in
set_option maxRecDepth 100000 in
theorem c_M_thrown (l : Launch) (dC : Nat → ClassId) (dI : Nat → Nat → Nat) (h0 g2 g8 g9 g10 g11 g12 g13 g14 g15 g16 g17 g18 g19 g20 g21 g22 g23 g28 g30 g31 g32 g36 : Nat) (th : Int32) : Met l y_M_thrown (tbw y_M_thrown b_M_thrown 1 (some .int)) ({ frames := 0, cells := 0, slots := 0, locals := 0 }) (va_Pc [.ref h0] (fun U => va_P (dC, dI) classes [(h0, .inr (6, [.int th, .int 0, .ref g2, .int 0, .int 0, .int 0, .int 0, .int 0, .ref g8, .ref g9, .ref g10, .ref g11, .ref g12, .ref g13, .ref g14, .ref g15, .ref g16, .ref g17, .ref g18, .ref g19, .ref g20, .ref g21, .ref g22, .ref g23, .int 0, .int 0, .int 0, .int 0, .ref g28, .int 0, .ref g30, .ref g31, .ref g32, .int 0, .int 0, .int 0, .ref g36]))] U.heap ∧ va_K (dC, dI) classes [] U)) (vp_Si (fun r => r = th)) 0 0 (fun _ => False) := by
  refine Met.ofW (cc := b_M_thrown) (maxL := 1) (ret := (some .int)) (by decide) rfl ?_
  intro p e s m args below meth c s₁ B hml hv
  obtain ⟨rfl, hP, hK⟩ := hv
  have hx := B.exec
  have hb := B.bytes
  have hr := B.returns
  have hts := atoms_spec (ws := (tbw y_M_thrown b_M_thrown 1 (some .int))) B.pre
  have hw : ∀ z9 ∈ tb, z9.before ([.ref h0] : List Value).toArray s = true := fun z9 h => hts z9 (List.mem_cons_of_mem _ h)
  have hown : s.vm.findClass "VotedTripleModel" = some m.cls := findClass_of_methodNamed B.named
  have hlocks := B.notSynchronized
  have hl := lv_entry ([.ref h0]) (n := 1) (Nat.le_of_ble_eq_true rfl)
  rw [lg_entry_eq]
  generalize (lg_sl ([.ref h0]) ++ List.replicate (1 - (lg_sl ([.ref h0])).length) Slot.unset).toArray = ls at hl ⊢
  have hl : lv_has ls 1 [(0, .ref h0)] := hl
  refine lv_aload_n hx hb d_M_thrown_0 rfl (lv_at hl 0 rfl) ?_
  refine va_get (D := (dC, dI)) (ci := 6) (v := .int th) (C := "VotedTripleModel") (T := F_M) (N := 37) hx hb hw in_M hown hK hP 0 rfl rfl 0 (by decide) (hw _ k_724) (fun _ h9 => h9) rfl d_M_thrown_1 ?_
  exact W.iret (v := th) hx hb hr (fun t ht _ => ⟨_, rfl, rfl, ht⟩) (fun _ h => by cases h) d_M_thrown_4
