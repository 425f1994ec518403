set_option maxHeartbeats 4000000 in
set_option maxRecDepth 100000 in
theorem c_T_hasModule (l : Launch) (dC : Nat → ClassId) (dI : Nat → Nat → Nat) (h0 : Nat) (p9 : Nat) (a9 : Nat) (e9 : Nat) (n9 : Nat) (o9 : Nat) (uT : Nat → Int32) (x : Int32) : Met l y_T_hasModule (tbw y_T_hasModule b_T_hasModule 2 (some .boolean)) ({ frames := 0, cells := 0, slots := 0, locals := 0 }) (va_Pc [.ref h0, .int x] (fun U => va_P (dC, dI) classes [(h0, .inr (0, oT uT p9 a9 e9 n9 o9))] U.heap ∧ va_K (dC, dI) classes [] U)) (vp_Si (fun r => r = bI (hmB uT x))) 0 0 (fun _ => False) := by
  refine Met.ofW (cc := b_T_hasModule) (maxL := 2) (ret := (some .boolean)) (by decide) rfl ?_
  intro p e s m args below meth c s₁ B hml hv
  obtain ⟨rfl, hP, hK⟩ := hv
  have hx := B.exec
  have hb := B.bytes
  have hr := B.returns
  have hts := atoms_spec (ws := (tbw y_T_hasModule b_T_hasModule 2 (some .boolean))) B.pre
  have hw : ∀ z9 ∈ tb, z9.before ([.ref h0, .int x] : List Value).toArray s = true := fun z9 h => hts z9 (List.mem_cons_of_mem _ h)
  have hown : s.vm.findClass "VotedTriple" = some m.cls := findClass_of_methodNamed B.named
  have hlocks := B.notSynchronized
  replace hl := lv_entry ([.ref h0, .int x]) (n := 2) (Nat.le_of_ble_eq_true rfl)
  rw [lg_entry_eq]
  generalize (lg_sl ([.ref h0, .int x]) ++ List.replicate (2 - (lg_sl ([.ref h0, .int x])).length) Slot.unset).toArray = ls at hl ⊢
  replace hl : lv_has ls 2 [(0, .ref h0), (1, .int x)] := hl
  refine lv_aload_n hx hb d_T_hasModule_0 rfl (lv_at hl 0 rfl) ?_
  refine va_get (D := (dC, dI)) (ci := 0) (v := .int (uT 5)) (C := "VotedTriple") (T := F_T) (N := 11) hx hb hw in_T hown hK hP 0 rfl rfl 5 (by decide) (hw _ k_199) (fun _ h9 => h9) rfl d_T_hasModule_1 ?_
  refine lv_if_eq (tgt := 20) hx hb d_T_hasModule_4 rfl (fun hc1 => ?_) (fun hc1 => ?_)
  · --  (uT 5) = 0
    refine lv_iconst (v := 0) hx hb d_T_hasModule_20 (by decide) ?_
    exact W.zret (v := 0) (ty := .boolean) hx hb hr rfl (fun t ht _ => ⟨_, rfl, (by simp [bI, hmB, in3, hc1]), ht⟩) (fun _ h => by cases h) d_T_hasModule_21
  · --  ¬ (uT 5) = 0
    refine lv_iload_n hx hb d_T_hasModule_7 rfl (lv_at hl 1 rfl) ?_
    refine lv_if_lt (tgt := 20) hx hb d_T_hasModule_8 rfl (fun hc2 => ?_) (fun hc2 => ?_)
    · --  x < 0
      refine lv_iconst (v := 0) hx hb d_T_hasModule_20 (by decide) ?_
      exact W.zret (v := 0) (ty := .boolean) hx hb hr rfl (fun t ht _ => ⟨_, rfl, (by simp [bI, hmB, in3, hc1, hc2]), ht⟩) (fun _ h => by cases h) d_T_hasModule_21
    · --  ¬ x < 0
      refine lv_iload_n hx hb d_T_hasModule_11 rfl (lv_at hl 1 rfl) ?_
      refine lv_iconst (v := 3) hx hb d_T_hasModule_12 (by decide) ?_
      refine lv_icmp_ge (tgt := 20) hx hb d_T_hasModule_13 rfl (fun hc3 => ?_) (fun hc3 => ?_)
      · --  3 ≤ x
        refine lv_iconst (v := 0) hx hb d_T_hasModule_20 (by decide) ?_
        exact W.zret (v := 0) (ty := .boolean) hx hb hr rfl (fun t ht _ => ⟨_, rfl, (by simp [bI, hmB, in3, hc1, hc2, hc3]), ht⟩) (fun _ h => by cases h) d_T_hasModule_21
      · --  ¬ 3 ≤ x
        refine lv_iconst (v := 1) hx hb d_T_hasModule_16 (by decide) ?_
        refine lv_goto (tgt := 21) hx hb d_T_hasModule_17 rfl ?_
        exact W.zret (v := 1) (ty := .boolean) hx hb hr rfl (fun t ht _ => ⟨_, rfl, (by simp [bI, hmB, in3, hc1, hc2, hc3]), ht⟩) (fun _ h => by cases h) d_T_hasModule_21

set_option maxHeartbeats 4000000 in
set_option maxRecDepth 100000 in
theorem c_T_isBelow (l : Launch) (dC : Nat → ClassId) (dI : Nat → Nat → Nat)  (x : Int32) (y : Int32) : Met l y_T_isBelow (tbw y_T_isBelow b_T_isBelow 2 (some .boolean)) ({ frames := 0, cells := 0, slots := 0, locals := 0 }) (va_Pc [.int x, .int y] (fun _ => True)) (vp_Si (fun r => r = bI (!decide (x < 0) && !decide (y ≤ x)))) 0 0 (fun _ => False) := by
  refine Met.ofW (cc := b_T_isBelow) (maxL := 2) (ret := (some .boolean)) (by decide) rfl ?_
  intro p e s m args below meth c s₁ B hml hv
  obtain ⟨rfl, -⟩ := hv
  have hx := B.exec
  have hb := B.bytes
  have hr := B.returns
  have hts := atoms_spec (ws := (tbw y_T_isBelow b_T_isBelow 2 (some .boolean))) B.pre
  have hw : ∀ z9 ∈ tb, z9.before ([.int x, .int y] : List Value).toArray s = true := fun z9 h => hts z9 (List.mem_cons_of_mem _ h)
  have hown : s.vm.findClass "VotedTriple" = some m.cls := findClass_of_methodNamed B.named
  have hlocks := B.notSynchronized
  replace hl := lv_entry ([.int x, .int y]) (n := 2) (Nat.le_of_ble_eq_true rfl)
  rw [lg_entry_eq]
  generalize (lg_sl ([.int x, .int y]) ++ List.replicate (2 - (lg_sl ([.int x, .int y])).length) Slot.unset).toArray = ls at hl ⊢
  replace hl : lv_has ls 2 [(0, .int x), (1, .int y)] := hl
  refine lv_iload_n hx hb d_T_isBelow_0 rfl (lv_at hl 0 rfl) ?_
  refine lv_if_lt (tgt := 13) hx hb d_T_isBelow_1 rfl (fun hc1 => ?_) (fun hc1 => ?_)
  · --  x < 0
    refine lv_iconst (v := 0) hx hb d_T_isBelow_13 (by decide) ?_
    exact W.zret (v := 0) (ty := .boolean) hx hb hr rfl (fun t ht _ => ⟨_, rfl, (by simp [bI, hc1]), ht⟩) (fun _ h => by cases h) d_T_isBelow_14
  · --  ¬ x < 0
    refine lv_iload_n hx hb d_T_isBelow_4 rfl (lv_at hl 0 rfl) ?_
    refine lv_iload_n hx hb d_T_isBelow_5 rfl (lv_at hl 1 rfl) ?_
    refine lv_icmp_ge (tgt := 13) hx hb d_T_isBelow_6 rfl (fun hc2 => ?_) (fun hc2 => ?_)
    · --  y ≤ x
      refine lv_iconst (v := 0) hx hb d_T_isBelow_13 (by decide) ?_
      exact W.zret (v := 0) (ty := .boolean) hx hb hr rfl (fun t ht _ => ⟨_, rfl, (by simp [bI, hc1, hc2]), ht⟩) (fun _ h => by cases h) d_T_isBelow_14
    · --  ¬ y ≤ x
      refine lv_iconst (v := 1) hx hb d_T_isBelow_9 (by decide) ?_
      refine lv_goto (tgt := 14) hx hb d_T_isBelow_10 rfl ?_
      exact W.zret (v := 1) (ty := .boolean) hx hb hr rfl (fun t ht _ => ⟨_, rfl, (by simp [bI, hc1, hc2]), ht⟩) (fun _ h => by cases h) d_T_isBelow_14

set_option maxHeartbeats 4000000 in
set_option maxRecDepth 100000 in
theorem c_T_canGoOnWith (l : Launch) (dC : Nat → ClassId) (dI : Nat → Nat → Nat) (h0 : Nat) (p9 : Nat) (a9 : Nat) (e9 : Nat) (n9 : Nat) (o9 : Nat) (uT : Nat → Int32) (x : Int32) : Met l y_T_canGoOnWith (tbw y_T_canGoOnWith b_T_canGoOnWith 2 (some .boolean)) ({ frames := 0, cells := 0, slots := 0, locals := 0 }) (va_Pc [.ref h0, .int x] (fun U => va_P (dC, dI) classes [(h0, .inr (0, oT uT p9 a9 e9 n9 o9))] U.heap ∧ va_K (dC, dI) classes [] U)) (vp_Si (fun r => r = bI (cgB uT x))) 0 0 (fun _ => False) := by
  refine Met.ofW (cc := b_T_canGoOnWith) (maxL := 2) (ret := (some .boolean)) (by decide) rfl ?_
  intro p e s m args below meth c s₁ B hml hv
  obtain ⟨rfl, hP, hK⟩ := hv
  have hx := B.exec
  have hb := B.bytes
  have hr := B.returns
  have hts := atoms_spec (ws := (tbw y_T_canGoOnWith b_T_canGoOnWith 2 (some .boolean))) B.pre
  have hw : ∀ z9 ∈ tb, z9.before ([.ref h0, .int x] : List Value).toArray s = true := fun z9 h => hts z9 (List.mem_cons_of_mem _ h)
  have hown : s.vm.findClass "VotedTriple" = some m.cls := findClass_of_methodNamed B.named
  have hlocks := B.notSynchronized
  replace hl := lv_entry ([.ref h0, .int x]) (n := 2) (Nat.le_of_ble_eq_true rfl)
  rw [lg_entry_eq]
  generalize (lg_sl ([.ref h0, .int x]) ++ List.replicate (2 - (lg_sl ([.ref h0, .int x])).length) Slot.unset).toArray = ls at hl ⊢
  replace hl : lv_has ls 2 [(0, .ref h0), (1, .int x)] := hl
  refine lv_iload_n hx hb d_T_canGoOnWith_0 rfl (lv_at hl 1 rfl) ?_
  refine lv_iconst (v := 1) hx hb d_T_canGoOnWith_1 (by decide) ?_
  refine lv_icmp_gt (tgt := 17) hx hb d_T_canGoOnWith_2 rfl (fun hc1 => ?_) (fun hc1 => ?_)
  · --  1 < x
    refine lv_iconst (v := 1) hx hb d_T_canGoOnWith_17 (by decide) ?_
    refine lv_goto (tgt := 22) hx hb d_T_canGoOnWith_18 rfl ?_
    exact W.zret (v := 1) (ty := .boolean) hx hb hr rfl (fun t ht _ => ⟨_, rfl, (by simp [bI, cgB, hc1]), ht⟩) (fun _ h => by cases h) d_T_canGoOnWith_22
  · --  ¬ 1 < x
    refine lv_iload_n hx hb d_T_canGoOnWith_5 rfl (lv_at hl 1 rfl) ?_
    refine lv_iconst (v := 1) hx hb d_T_canGoOnWith_6 (by decide) ?_
    refine lv_icmp_ne (tgt := 21) hx hb d_T_canGoOnWith_7 rfl (fun hc2 => ?_) (fun hc2 => ?_)
    · --  ¬ x = 1
      refine lv_iconst (v := 0) hx hb d_T_canGoOnWith_21 (by decide) ?_
      exact W.zret (v := 0) (ty := .boolean) hx hb hr rfl (fun t ht _ => ⟨_, rfl, (by simp [bI, cgB, hc1, hc2]), ht⟩) (fun _ h => by cases h) d_T_canGoOnWith_22
    · --  x = 1
      refine lv_aload_n hx hb d_T_canGoOnWith_10 rfl (lv_at hl 0 rfl) ?_
      refine va_get (D := (dC, dI)) (ci := 0) (v := .int (uT 7)) (C := "VotedTriple") (T := F_T) (N := 11) hx hb hw in_T hown hK hP 0 rfl rfl 7 (by decide) (hw _ k_201) (fun _ h9 => h9) rfl d_T_canGoOnWith_11 ?_
      refine lv_if_eq (tgt := 21) hx hb d_T_canGoOnWith_14 rfl (fun hc3 => ?_) (fun hc3 => ?_)
      · --  (uT 7) = 0
        refine lv_iconst (v := 0) hx hb d_T_canGoOnWith_21 (by decide) ?_
        exact W.zret (v := 0) (ty := .boolean) hx hb hr rfl (fun t ht _ => ⟨_, rfl, (by simp [bI, cgB, hc1, hc2, hc3]), ht⟩) (fun _ h => by cases h) d_T_canGoOnWith_22
      · --  ¬ (uT 7) = 0
        refine lv_iconst (v := 1) hx hb d_T_canGoOnWith_17 (by decide) ?_
        refine lv_goto (tgt := 22) hx hb d_T_canGoOnWith_18 rfl ?_
        exact W.zret (v := 1) (ty := .boolean) hx hb hr rfl (fun t ht _ => ⟨_, rfl, (by simp [bI, cgB, hc1, hc2, hc3]), ht⟩) (fun _ h => by cases h) d_T_canGoOnWith_22

set_option maxHeartbeats 4000000 in
set_option maxRecDepth 100000 in
theorem c_T_countInStep (l : Launch) (dC : Nat → ClassId) (dI : Nat → Nat → Nat) (h0 : Nat) (p9 : Nat) (a9 : Nat) (e9 : Nat) (n9 : Nat) (o9 : Nat) (ca : ClassId) (da : Nat → Nat) (ra : Nat → Nat) (ka : Nat → Nat) (uT : Nat → Int32) (F : Nat → Nat → Int32) : Met l y_T_countInStep (tbw y_T_countInStep b_T_countInStep 3 (some .int)) ({ frames := 0, cells := 0, slots := 0, locals := 0 }) (va_Pc [.ref h0] (fun U => va_P (dC, dI) classes [(h0, .inr (0, oT uT p9 a9 e9 n9 o9)), (a9, .inl (ca, 3, .inr (.inr (.inr (.inr (mo da)))))), (da 0, .inr (2, oD (F 0) (ra 0) (ka 0))), (da 1, .inr (2, oD (F 1) (ra 1) (ka 1))), (da 2, .inr (2, oD (F 2) (ra 2) (ka 2)))] U.heap ∧ va_K (dC, dI) classes [(ca, .object "VotedTriple$VotedModule")] U)) (vp_Si (fun r => (True) ∧ r = s_T_countInStep F)) 0 0 (fun _ => False) := by
  refine Met.ofW (cc := b_T_countInStep) (maxL := 3) (ret := (some .int)) (by decide) rfl ?_
  intro p e s m args below meth c s₁ B hml hv
  obtain ⟨rfl, hP, hK⟩ := hv
  have hx := B.exec
  have hb := B.bytes
  have hr := B.returns
  have hts := atoms_spec (ws := (tbw y_T_countInStep b_T_countInStep 3 (some .int))) B.pre
  have hw : ∀ z9 ∈ tb, z9.before ([.ref h0] : List Value).toArray s = true := fun z9 h => hts z9 (List.mem_cons_of_mem _ h)
  have hown : s.vm.findClass "VotedTriple" = some m.cls := findClass_of_methodNamed B.named
  have hlocks := B.notSynchronized
  replace hl := lv_entry ([.ref h0]) (n := 3) (Nat.le_of_ble_eq_true rfl)
  rw [lg_entry_eq]
  generalize (lg_sl ([.ref h0]) ++ List.replicate (3 - (lg_sl ([.ref h0])).length) Slot.unset).toArray = ls at hl ⊢
  replace hl : lv_has ls 3 [(0, .ref h0)] := hl
  generalize hSP : s_T_countInStep F = SP
  have cut4_3 : ∀ (w1 : Int32) (ls : Array Slot), SP = s_T_countInStep_cut4_3 w1 →  lv_has ls 3 [(0, .ref h0), (1, .int w1), (2, .int 3)] → W p l e (headSpec (tbw y_T_countInStep b_T_countInStep 3 (some .int)) ({ frames := 0, cells := 0, slots := 0, locals := 0 })).room s m ([.ref h0] : List Value).toArray below meth c s.heap [] 0 0 (MQ below (vp_Si (fun r => (True) ∧ r = SP)) ([.ref h0] : List Value).toArray s 0 0 (fun _ => False)) (F0 m 4 ls []) := by
    intro w1 ls hSq0 hl
    refine lv_iload_n hx hb d_T_countInStep_4 rfl (lv_at hl 2 rfl) ?_
    refine lv_iconst (v := 3) hx hb d_T_countInStep_5 (by decide) ?_
    refine lv_icmp_ge (tgt := 30) hx hb d_T_countInStep_6 rfl (fun hc1 => ?_) (fun hc1 => by first | exact absurd (by decide) hc1 | exact absurd hc1 (by decide))
    refine lv_iload_n hx hb d_T_countInStep_30 rfl (lv_at hl 1 rfl) ?_
    exact W.iret (v := w1) hx hb hr (fun t ht _ => ⟨_, rfl, ⟨trivial, (by rw [hSq0, s_T_countInStep_cut4_3]; all_goals rfl)⟩, ht⟩) (fun _ h => by cases h) d_T_countInStep_31
  have cut4_2 : ∀ (w1 : Int32) (ls : Array Slot), SP = s_T_countInStep_cut4_2 F w1 →  lv_has ls 3 [(0, .ref h0), (1, .int w1), (2, .int 2)] → W p l e (headSpec (tbw y_T_countInStep b_T_countInStep 3 (some .int)) ({ frames := 0, cells := 0, slots := 0, locals := 0 })).room s m ([.ref h0] : List Value).toArray below meth c s.heap [] 0 0 (MQ below (vp_Si (fun r => (True) ∧ r = SP)) ([.ref h0] : List Value).toArray s 0 0 (fun _ => False)) (F0 m 4 ls []) := by
    intro w1 ls hSq0 hl
    refine lv_iload_n hx hb d_T_countInStep_4 rfl (lv_at hl 2 rfl) ?_
    refine lv_iconst (v := 3) hx hb d_T_countInStep_5 (by decide) ?_
    refine lv_icmp_ge (tgt := 30) hx hb d_T_countInStep_6 rfl (fun hc2 => by first | exact absurd hc2 (by decide) | exact absurd (by decide) hc2) (fun hc2 => ?_)
    refine lv_aload_n hx hb d_T_countInStep_9 rfl (lv_at hl 0 rfl) ?_
    refine va_get (D := (dC, dI)) (ci := 0) (v := .ref a9) (C := "VotedTriple") (T := F_T) (N := 11) hx hb hw in_T hown hK hP 0 rfl rfl 1 (by decide) (hw _ k_195) (fun _ h9 => h9) rfl d_T_countInStep_10 ?_
    refine lv_iload_n hx hb d_T_countInStep_13 rfl (lv_at hl 2 rfl) ?_
    refine va_aldq hx hb hK hP 1 0 rfl rfl (by unfold vp_in; decide) d_T_countInStep_14 ?_
    refine W.eq (g2 := F0 m 15 ls [.ref (da 2)]) rfl ?_
    refine va_get (D := (dC, dI)) (ci := 2) (v := .int (F 2 8)) (C := "VotedTriple$VotedModule") (T := F_D) (N := 19) hx hb hw in_D hown hK hP 4 rfl rfl 8 (by decide) (hw _ k_143) (fun _ h9 => h9) rfl d_T_countInStep_15 ?_
    refine lv_if_ne (tgt := 24) hx hb d_T_countInStep_18 rfl (fun hc3 => ?_) (fun hc3 => ?_)
    · --  ¬ (F 2 8) = 0
      refine lv_iinc (k := 2) (v := 3) hx hb d_T_countInStep_24 hl rfl rfl (by decide) rfl (fun ls hl => ?_)
      replace hl : lv_has ls 3 [(2, .int 3), (0, .ref h0), (1, .int w1)] := hl
      refine lv_goto (tgt := 4) hx hb d_T_countInStep_27 rfl ?_
      have hSq : SP = s_T_countInStep_cut4_3 w1 := by rw [hSq0, s_T_countInStep_cut4_2]; try (rw [if_neg hc3]); all_goals rfl
      replace hl := lv_sub hl (l' := [(0, .ref h0), (1, .int w1), (2, .int 3)]) [1, 2, 0] rfl
      exact cut4_3 w1 _ hSq hl
    · --  (F 2 8) = 0
      refine lv_iinc (k := 1) (v := w1 + 1) hx hb d_T_countInStep_21 hl rfl rfl (by decide) rfl (fun ls hl => ?_)
      replace hl : lv_has ls 3 [(1, .int (w1 + 1)), (0, .ref h0), (2, .int 2)] := hl
      refine lv_iinc (k := 2) (v := 3) hx hb d_T_countInStep_24 hl rfl rfl (by decide) rfl (fun ls hl => ?_)
      replace hl : lv_has ls 3 [(2, .int 3), (1, .int (w1 + 1)), (0, .ref h0)] := hl
      refine lv_goto (tgt := 4) hx hb d_T_countInStep_27 rfl ?_
      have hSq : SP = s_T_countInStep_cut4_3 (w1 + 1) := by rw [hSq0, s_T_countInStep_cut4_2]; try (rw [if_pos hc3]); all_goals rfl
      replace hl := lv_sub hl (l' := [(0, .ref h0), (1, .int (w1 + 1)), (2, .int 3)]) [2, 1, 0] rfl
      exact cut4_3 (w1 + 1) _ hSq hl
  have cut4_1 : ∀ (w1 : Int32) (ls : Array Slot), SP = s_T_countInStep_cut4_1 F w1 →  lv_has ls 3 [(0, .ref h0), (1, .int w1), (2, .int 1)] → W p l e (headSpec (tbw y_T_countInStep b_T_countInStep 3 (some .int)) ({ frames := 0, cells := 0, slots := 0, locals := 0 })).room s m ([.ref h0] : List Value).toArray below meth c s.heap [] 0 0 (MQ below (vp_Si (fun r => (True) ∧ r = SP)) ([.ref h0] : List Value).toArray s 0 0 (fun _ => False)) (F0 m 4 ls []) := by
    intro w1 ls hSq0 hl
    clear cut4_3
    refine lv_iload_n hx hb d_T_countInStep_4 rfl (lv_at hl 2 rfl) ?_
    refine lv_iconst (v := 3) hx hb d_T_countInStep_5 (by decide) ?_
    refine lv_icmp_ge (tgt := 30) hx hb d_T_countInStep_6 rfl (fun hc4 => by first | exact absurd hc4 (by decide) | exact absurd (by decide) hc4) (fun hc4 => ?_)
    refine lv_aload_n hx hb d_T_countInStep_9 rfl (lv_at hl 0 rfl) ?_
    refine va_get (D := (dC, dI)) (ci := 0) (v := .ref a9) (C := "VotedTriple") (T := F_T) (N := 11) hx hb hw in_T hown hK hP 0 rfl rfl 1 (by decide) (hw _ k_195) (fun _ h9 => h9) rfl d_T_countInStep_10 ?_
    refine lv_iload_n hx hb d_T_countInStep_13 rfl (lv_at hl 2 rfl) ?_
    refine va_aldq hx hb hK hP 1 0 rfl rfl (by unfold vp_in; decide) d_T_countInStep_14 ?_
    refine W.eq (g2 := F0 m 15 ls [.ref (da 1)]) rfl ?_
    refine va_get (D := (dC, dI)) (ci := 2) (v := .int (F 1 8)) (C := "VotedTriple$VotedModule") (T := F_D) (N := 19) hx hb hw in_D hown hK hP 3 rfl rfl 8 (by decide) (hw _ k_143) (fun _ h9 => h9) rfl d_T_countInStep_15 ?_
    refine lv_if_ne (tgt := 24) hx hb d_T_countInStep_18 rfl (fun hc5 => ?_) (fun hc5 => ?_)
    · --  ¬ (F 1 8) = 0
      refine lv_iinc (k := 2) (v := 2) hx hb d_T_countInStep_24 hl rfl rfl (by decide) rfl (fun ls hl => ?_)
      replace hl : lv_has ls 3 [(2, .int 2), (0, .ref h0), (1, .int w1)] := hl
      refine lv_goto (tgt := 4) hx hb d_T_countInStep_27 rfl ?_
      have hSq : SP = s_T_countInStep_cut4_2 F w1 := by rw [hSq0, s_T_countInStep_cut4_1]; try (rw [if_neg hc5]); all_goals rfl
      replace hl := lv_sub hl (l' := [(0, .ref h0), (1, .int w1), (2, .int 2)]) [1, 2, 0] rfl
      exact cut4_2 w1 _ hSq hl
    · --  (F 1 8) = 0
      refine lv_iinc (k := 1) (v := w1 + 1) hx hb d_T_countInStep_21 hl rfl rfl (by decide) rfl (fun ls hl => ?_)
      replace hl : lv_has ls 3 [(1, .int (w1 + 1)), (0, .ref h0), (2, .int 1)] := hl
      refine lv_iinc (k := 2) (v := 2) hx hb d_T_countInStep_24 hl rfl rfl (by decide) rfl (fun ls hl => ?_)
      replace hl : lv_has ls 3 [(2, .int 2), (1, .int (w1 + 1)), (0, .ref h0)] := hl
      refine lv_goto (tgt := 4) hx hb d_T_countInStep_27 rfl ?_
      have hSq : SP = s_T_countInStep_cut4_2 F (w1 + 1) := by rw [hSq0, s_T_countInStep_cut4_1]; try (rw [if_pos hc5]); all_goals rfl
      replace hl := lv_sub hl (l' := [(0, .ref h0), (1, .int (w1 + 1)), (2, .int 2)]) [2, 1, 0] rfl
      exact cut4_2 (w1 + 1) _ hSq hl
  clear cut4_3 cut4_2
  refine lv_iconst (v := 0) hx hb d_T_countInStep_0 (by decide) ?_
  refine lv_istore_n hx hb d_T_countInStep_1 rfl hl (by decide) rfl (fun ls hl => ?_)
  replace hl : lv_has ls 3 [(1, .int 0), (0, .ref h0)] := hl
  refine lv_iconst (v := 0) hx hb d_T_countInStep_2 (by decide) ?_
  refine lv_istore_n hx hb d_T_countInStep_3 rfl hl (by decide) rfl (fun ls hl => ?_)
  replace hl : lv_has ls 3 [(2, .int 0), (1, .int 0), (0, .ref h0)] := hl
  refine lv_iload_n hx hb d_T_countInStep_4 rfl (lv_at hl 0 rfl) ?_
  refine lv_iconst (v := 3) hx hb d_T_countInStep_5 (by decide) ?_
  refine lv_icmp_ge (tgt := 30) hx hb d_T_countInStep_6 rfl (fun hc6 => by first | exact absurd hc6 (by decide) | exact absurd (by decide) hc6) (fun hc6 => ?_)
  refine lv_aload_n hx hb d_T_countInStep_9 rfl (lv_at hl 2 rfl) ?_
  refine va_get (D := (dC, dI)) (ci := 0) (v := .ref a9) (C := "VotedTriple") (T := F_T) (N := 11) hx hb hw in_T hown hK hP 0 rfl rfl 1 (by decide) (hw _ k_195) (fun _ h9 => h9) rfl d_T_countInStep_10 ?_
  refine lv_iload_n hx hb d_T_countInStep_13 rfl (lv_at hl 0 rfl) ?_
  refine va_aldq hx hb hK hP 1 0 rfl rfl (by unfold vp_in; decide) d_T_countInStep_14 ?_
  refine W.eq (g2 := F0 m 15 ls [.ref (da 0)]) rfl ?_
  refine va_get (D := (dC, dI)) (ci := 2) (v := .int (F 0 8)) (C := "VotedTriple$VotedModule") (T := F_D) (N := 19) hx hb hw in_D hown hK hP 2 rfl rfl 8 (by decide) (hw _ k_143) (fun _ h9 => h9) rfl d_T_countInStep_15 ?_
  refine lv_if_ne (tgt := 24) hx hb d_T_countInStep_18 rfl (fun hc7 => ?_) (fun hc7 => ?_)
  · --  ¬ (F 0 8) = 0
    refine lv_iinc (k := 0) (v := 1) hx hb d_T_countInStep_24 hl rfl rfl (by decide) rfl (fun ls hl => ?_)
    replace hl : lv_has ls 3 [(2, .int 1), (1, .int 0), (0, .ref h0)] := hl
    refine lv_goto (tgt := 4) hx hb d_T_countInStep_27 rfl ?_
    have hSq : SP = s_T_countInStep_cut4_1 F 0 := by rw [← hSP, s_T_countInStep]; try (rw [if_neg hc7]); all_goals rfl
    replace hl := lv_sub hl (l' := [(0, .ref h0), (1, .int 0), (2, .int 1)]) [2, 1, 0] rfl
    exact cut4_1 0 _ hSq hl
  · --  (F 0 8) = 0
    refine lv_iinc (k := 1) (v := 1) hx hb d_T_countInStep_21 hl rfl rfl (by decide) rfl (fun ls hl => ?_)
    replace hl : lv_has ls 3 [(1, .int 1), (2, .int 0), (0, .ref h0)] := hl
    refine lv_iinc (k := 1) (v := 1) hx hb d_T_countInStep_24 hl rfl rfl (by decide) rfl (fun ls hl => ?_)
    replace hl : lv_has ls 3 [(2, .int 1), (1, .int 1), (0, .ref h0)] := hl
    refine lv_goto (tgt := 4) hx hb d_T_countInStep_27 rfl ?_
    have hSq : SP = s_T_countInStep_cut4_1 F 1 := by rw [← hSP, s_T_countInStep]; try (rw [if_pos hc7]); all_goals rfl
    replace hl := lv_sub hl (l' := [(0, .ref h0), (1, .int 1), (2, .int 1)]) [2, 1, 0] rfl
    exact cut4_1 1 _ hSq hl

set_option maxHeartbeats 4000000 in
set_option maxRecDepth 100000 in
theorem c_T_currentMode (l : Launch) (dC : Nat → ClassId) (dI : Nat → Nat → Nat) (h0 : Nat) (p9 : Nat) (a9 : Nat) (e9 : Nat) (n9 : Nat) (o9 : Nat) (ca : ClassId) (da : Nat → Nat) (ra : Nat → Nat) (ka : Nat → Nat) (uT : Nat → Int32) (F : Nat → Nat → Int32) : Met l y_T_currentMode (tbw y_T_currentMode b_T_currentMode 1 (some .int)) ({ frames := 1, cells := 0, slots := 0, locals := 22 }) (va_Pc [.ref h0] (fun U => va_P (dC, dI) classes [(h0, .inr (0, oT uT p9 a9 e9 n9 o9)), (a9, .inl (ca, 3, .inr (.inr (.inr (.inr (mo da)))))), (da 0, .inr (2, oD (F 0) (ra 0) (ka 0))), (da 1, .inr (2, oD (F 1) (ra 1) (ka 1))), (da 2, .inr (2, oD (F 2) (ra 2) (ka 2)))] U.heap ∧ va_K (dC, dI) classes [(ca, .object "VotedTriple$VotedModule")] U)) (vp_Si (fun r => (True) ∧ r = s_T_currentMode uT F)) 0 0 (fun _ => False) := by
  refine Met.ofW (cc := b_T_currentMode) (maxL := 1) (ret := (some .int)) (by decide) rfl ?_
  intro p e s m args below meth c s₁ B hml hv
  obtain ⟨rfl, hP, hK⟩ := hv
  have hx := B.exec
  have hb := B.bytes
  have hr := B.returns
  have hts := atoms_spec (ws := (tbw y_T_currentMode b_T_currentMode 1 (some .int))) B.pre
  have hw : ∀ z9 ∈ tb, z9.before ([.ref h0] : List Value).toArray s = true := fun z9 h => hts z9 (List.mem_cons_of_mem _ h)
  have hown : s.vm.findClass "VotedTriple" = some m.cls := findClass_of_methodNamed B.named
  have hlocks := B.notSynchronized
  replace hl := lv_entry ([.ref h0]) (n := 1) (Nat.le_of_ble_eq_true rfl)
  rw [lg_entry_eq]
  generalize (lg_sl ([.ref h0]) ++ List.replicate (1 - (lg_sl ([.ref h0])).length) Slot.unset).toArray = ls at hl ⊢
  replace hl : lv_has ls 1 [(0, .ref h0)] := hl
  generalize hSP : s_T_currentMode uT F = SP
  refine lv_aload_n hx hb d_T_currentMode_0 rfl (lv_at hl 0 rfl) ?_
  refine va_get (D := (dC, dI)) (ci := 0) (v := .int (uT 5)) (C := "VotedTriple") (T := F_T) (N := 11) hx hb hw in_T hown hK hP 0 rfl rfl 5 (by decide) (hw _ k_199) (fun _ h9 => h9) rfl d_T_currentMode_1 ?_
  refine lv_if_ne (tgt := 9) hx hb d_T_currentMode_4 rfl (fun hc1 => ?_) (fun hc1 => ?_)
  · --  ¬ (uT 5) = 0
    refine lv_aload_n hx hb d_T_currentMode_9 rfl (lv_at hl 0 rfl) ?_
    refine va_get (D := (dC, dI)) (ci := 0) (v := .int (uT 6)) (C := "VotedTriple") (T := F_T) (N := 11) hx hb hw in_T hown hK hP 0 rfl rfl 6 (by decide) (hw _ k_200) (fun _ h9 => h9) rfl d_T_currentMode_10 ?_
    refine lv_if_eq (tgt := 20) hx hb d_T_currentMode_13 rfl (fun hc2 => ?_) (fun hc2 => ?_)
    · --  (uT 6) = 0
      refine lv_aload_n hx hb d_T_currentMode_20 rfl (lv_at hl 0 rfl) ?_
      replace hPc := hP.sub (ws' := [(h0, .inr (0, oT uT p9 a9 e9 n9 o9)), (a9, .inl (ca, 3, .inr (.inr (.inr (.inr (mo da)))))), (da 0, .inr (2, oD (F 0) (ra 0) (ka 0))), (da 1, .inr (2, oD (F 1) (ra 1) (ka 1))), (da 2, .inr (2, oD (F 2) (ra 2) (ka 2)))]) [0, 1, 2, 3, 4] rfl
      replace hKc := hK.sub (tys' := [(ca, .object "VotedTriple$VotedModule")]) [0] rfl
      refine vp_callSi (va_runV (C := "VotedTriple") (As := []) (rest := []) ⟨hx, hb, hml, hown, hw⟩ (c_T_countInStep l dC dI h0 p9 a9 e9 n9 o9 ca da ra ka uT F) (cwV 0 hw (gdV (k_351) (k_348) (k_350) (ks_1) (k_1)) rfl rfl rfl (by decide +kernel) ⟨Nat.le_of_ble_eq_true rfl, Nat.le_of_ble_eq_true rfl⟩) ⟨fun a U g mk q => ⟨q.1, q.2.1, va_K.moved (u := U) (U := U.calling g mk a) (Vm.Alike.refl U.vm) q.2.2⟩, va_recv hK hP rfl (q0 := 0) rfl, fun U hU hW => ⟨rfl, by rw [hU]; exact hPc, va_K.moved hW.alike hKc⟩⟩ rfl rfl hl.1 rfl (lv_room (Nat.le_of_ble_eq_true rfl)) d_T_currentMode_21 ⟨Nat.le_of_ble_eq_true rfl, Nat.le_of_ble_eq_true rfl⟩).run (fun r3 hr4 => ?_)
      obtain ⟨hr4, hr4E⟩ := hr4
      exact W.iret (v := r3) hx hb hr (fun t ht _ => ⟨_, rfl, ⟨trivial, (by rw [← hSP, s_T_currentMode]; try (rw [if_neg hc1]); try (rw [if_pos hc2]); try (rw [← hr4E, bnd_eq]); all_goals rfl)⟩, ht⟩) (fun _ h => by cases h) d_T_currentMode_24
    · --  ¬ (uT 6) = 0
      refine lv_iconst (v := 0) hx hb d_T_currentMode_16 (by decide) ?_
      refine lv_goto (tgt := 24) hx hb d_T_currentMode_17 rfl ?_
      exact W.iret (v := 0) hx hb hr (fun t ht _ => ⟨_, rfl, ⟨trivial, (by rw [← hSP, s_T_currentMode]; try (rw [if_neg hc1]); try (rw [if_neg hc2]); all_goals rfl)⟩, ht⟩) (fun _ h => by cases h) d_T_currentMode_24
  · --  (uT 5) = 0
    refine lv_iconst (v := (-1)) hx hb d_T_currentMode_7 (by decide) ?_
    exact W.iret (v := (-1)) hx hb hr (fun t ht _ => ⟨_, rfl, ⟨trivial, (by rw [← hSP, s_T_currentMode]; try (rw [if_pos hc1]); all_goals rfl)⟩, ht⟩) (fun _ h => by cases h) d_T_currentMode_8

set_option maxHeartbeats 4000000 in
set_option maxRecDepth 100000 in
theorem c_T_lowestTrusted (l : Launch) (dC : Nat → ClassId) (dI : Nat → Nat → Nat) (h0 : Nat) (p9 : Nat) (a9 : Nat) (e9 : Nat) (n9 : Nat) (o9 : Nat) (ca : ClassId) (da : Nat → Nat) (ra : Nat → Nat) (ka : Nat → Nat) (uT : Nat → Int32) (F : Nat → Nat → Int32) : Met l y_T_lowestTrusted (tbw y_T_lowestTrusted b_T_lowestTrusted 2 (some .int)) ({ frames := 1, cells := 0, slots := 0, locals := 20 }) (va_Pc [.ref h0] (fun U => va_P (dC, dI) classes [(h0, .inr (0, oT uT p9 a9 e9 n9 o9)), (a9, .inl (ca, 3, .inr (.inr (.inr (.inr (mo da)))))), (da 0, .inr (2, oD (F 0) (ra 0) (ka 0))), (da 1, .inr (2, oD (F 1) (ra 1) (ka 1))), (da 2, .inr (2, oD (F 2) (ra 2) (ka 2)))] U.heap ∧ va_K (dC, dI) classes [(ca, .object "VotedTriple$VotedModule")] U)) (vp_Si (fun r => ((r = -1 ∨ (r = 0 ∧ F 0 8 = 0) ∨ (r = 1 ∧ F 1 8 = 0) ∨ (r = 2 ∧ F 2 8 = 0))) ∧ r = s_T_lowestTrusted F)) 0 0 (fun _ => False) := by
  refine Met.ofW (cc := b_T_lowestTrusted) (maxL := 2) (ret := (some .int)) (by decide) rfl ?_
  intro p e s m args below meth c s₁ B hml hv
  obtain ⟨rfl, hP, hK⟩ := hv
  have hx := B.exec
  have hb := B.bytes
  have hr := B.returns
  have hts := atoms_spec (ws := (tbw y_T_lowestTrusted b_T_lowestTrusted 2 (some .int))) B.pre
  have hw : ∀ z9 ∈ tb, z9.before ([.ref h0] : List Value).toArray s = true := fun z9 h => hts z9 (List.mem_cons_of_mem _ h)
  have hown : s.vm.findClass "VotedTriple" = some m.cls := findClass_of_methodNamed B.named
  have hlocks := B.notSynchronized
  replace hl := lv_entry ([.ref h0]) (n := 2) (Nat.le_of_ble_eq_true rfl)
  rw [lg_entry_eq]
  generalize (lg_sl ([.ref h0]) ++ List.replicate (2 - (lg_sl ([.ref h0])).length) Slot.unset).toArray = ls at hl ⊢
  replace hl : lv_has ls 2 [(0, .ref h0)] := hl
  generalize hSP : s_T_lowestTrusted F = SP
  have cut2_3 : ∀  (ls : Array Slot), SP = s_T_lowestTrusted_cut2_3 →  lv_has ls 2 [(0, .ref h0), (1, .int 3)] → W p l e (headSpec (tbw y_T_lowestTrusted b_T_lowestTrusted 2 (some .int)) ({ frames := 1, cells := 0, slots := 0, locals := 20 })).room s m ([.ref h0] : List Value).toArray below meth c s.heap [] 0 0 (MQ below (vp_Si (fun r => ((r = -1 ∨ (r = 0 ∧ F 0 8 = 0) ∨ (r = 1 ∧ F 1 8 = 0) ∨ (r = 2 ∧ F 2 8 = 0))) ∧ r = SP)) ([.ref h0] : List Value).toArray s 0 0 (fun _ => False)) (F0 m 2 ls []) := by
    intro ls hSq0 hl
    refine lv_iload_n hx hb d_T_lowestTrusted_2 rfl (lv_at hl 1 rfl) ?_
    refine lv_iconst (v := 3) hx hb d_T_lowestTrusted_3 (by decide) ?_
    refine lv_icmp_ge (tgt := 27) hx hb d_T_lowestTrusted_4 rfl (fun hc1 => ?_) (fun hc1 => by first | exact absurd (by decide) hc1 | exact absurd hc1 (by decide))
    refine lv_iconst (v := (-1)) hx hb d_T_lowestTrusted_27 (by decide) ?_
    exact W.iret (v := (-1)) hx hb hr (fun t ht _ => ⟨_, rfl, ⟨(Or.inl rfl), (by rw [hSq0, s_T_lowestTrusted_cut2_3]; all_goals rfl)⟩, ht⟩) (fun _ h => by cases h) d_T_lowestTrusted_28
  have cut2_2 : ∀  (ls : Array Slot), SP = s_T_lowestTrusted_cut2_2 F →  lv_has ls 2 [(0, .ref h0), (1, .int 2)] → W p l e (headSpec (tbw y_T_lowestTrusted b_T_lowestTrusted 2 (some .int)) ({ frames := 1, cells := 0, slots := 0, locals := 20 })).room s m ([.ref h0] : List Value).toArray below meth c s.heap [] 0 0 (MQ below (vp_Si (fun r => ((r = -1 ∨ (r = 0 ∧ F 0 8 = 0) ∨ (r = 1 ∧ F 1 8 = 0) ∨ (r = 2 ∧ F 2 8 = 0))) ∧ r = SP)) ([.ref h0] : List Value).toArray s 0 0 (fun _ => False)) (F0 m 2 ls []) := by
    intro ls hSq0 hl
    refine lv_iload_n hx hb d_T_lowestTrusted_2 rfl (lv_at hl 1 rfl) ?_
    refine lv_iconst (v := 3) hx hb d_T_lowestTrusted_3 (by decide) ?_
    refine lv_icmp_ge (tgt := 27) hx hb d_T_lowestTrusted_4 rfl (fun hc2 => by first | exact absurd hc2 (by decide) | exact absurd (by decide) hc2) (fun hc2 => ?_)
    refine lv_aload_n hx hb d_T_lowestTrusted_7 rfl (lv_at hl 0 rfl) ?_
    refine va_get (D := (dC, dI)) (ci := 0) (v := .ref a9) (C := "VotedTriple") (T := F_T) (N := 11) hx hb hw in_T hown hK hP 0 rfl rfl 1 (by decide) (hw _ k_195) (fun _ h9 => h9) rfl d_T_lowestTrusted_8 ?_
    refine lv_iload_n hx hb d_T_lowestTrusted_11 rfl (lv_at hl 1 rfl) ?_
    refine va_aldq hx hb hK hP 1 0 rfl rfl (by unfold vp_in; decide) d_T_lowestTrusted_12 ?_
    refine W.eq (g2 := F0 m 13 ls [.ref (da 2)]) rfl ?_
    replace hPc := hP.sub (ws' := [(da 2, .inr (2, oD (F 2) (ra 2) (ka 2)))]) [4] rfl
    replace hKc := hK.sub (tys' := []) [] rfl
    refine vp_callSi (va_runV (C := "VotedTriple$VotedModule") (As := []) (rest := []) ⟨hx, hb, hml, hown, hw⟩ (c_D_isTrusted l dC dI (da 2) (ra 2) (ka 2) (F 2)) (cwV 0 hw (gdV (k_583) (k_580) (k_581) (k_582) (k_7)) rfl rfl rfl (by decide +kernel) ⟨Nat.le_of_ble_eq_true rfl, Nat.le_of_ble_eq_true rfl⟩) ⟨fun a U g mk q => ⟨q.1, q.2.1, va_K.moved (u := U) (U := U.calling g mk a) (Vm.Alike.refl U.vm) q.2.2⟩, va_recv hK hP rfl (q0 := 4) rfl, fun U hU hW => ⟨rfl, by rw [hU]; exact hPc, va_K.moved hW.alike hKc⟩⟩ rfl rfl hl.1 rfl (lv_room (Nat.le_of_ble_eq_true rfl)) d_T_lowestTrusted_13 ⟨Nat.le_of_ble_eq_true rfl, Nat.le_of_ble_eq_true rfl⟩).run (fun r3 hr4 => ?_)
    subst hr4
    refine lv_if_eq (tgt := 21) hx hb d_T_lowestTrusted_16 rfl (fun hc5 => ?_) (fun hc5 => ?_)
    · --  (bI (trB (F 2))) = 0
      refine lv_iinc (k := 1) (v := 3) hx hb d_T_lowestTrusted_21 hl rfl rfl (by decide) rfl (fun ls hl => ?_)
      replace hl : lv_has ls 2 [(1, .int 3), (0, .ref h0)] := hl
      refine lv_goto (tgt := 2) hx hb d_T_lowestTrusted_24 rfl ?_
      have hSq : SP = s_T_lowestTrusted_cut2_3 := by rw [hSq0, s_T_lowestTrusted_cut2_2]; try (rw [if_pos hc5]); all_goals rfl
      replace hl := lv_sub hl (l' := [(0, .ref h0), (1, .int 3)]) [1, 0] rfl
      exact cut2_3 _ hSq hl
    · --  ¬ (bI (trB (F 2))) = 0
      refine lv_iload_n hx hb d_T_lowestTrusted_19 rfl (lv_at hl 1 rfl) ?_
      exact W.iret (v := 2) hx hb hr (fun t ht _ => ⟨_, rfl, ⟨(Or.inr (Or.inr (Or.inr ⟨rfl, trB_0 hc5⟩))), (by rw [hSq0, s_T_lowestTrusted_cut2_2]; try (rw [if_neg hc5]); all_goals rfl)⟩, ht⟩) (fun _ h => by cases h) d_T_lowestTrusted_20
  have cut2_1 : ∀  (ls : Array Slot), SP = s_T_lowestTrusted_cut2_1 F →  lv_has ls 2 [(0, .ref h0), (1, .int 1)] → W p l e (headSpec (tbw y_T_lowestTrusted b_T_lowestTrusted 2 (some .int)) ({ frames := 1, cells := 0, slots := 0, locals := 20 })).room s m ([.ref h0] : List Value).toArray below meth c s.heap [] 0 0 (MQ below (vp_Si (fun r => ((r = -1 ∨ (r = 0 ∧ F 0 8 = 0) ∨ (r = 1 ∧ F 1 8 = 0) ∨ (r = 2 ∧ F 2 8 = 0))) ∧ r = SP)) ([.ref h0] : List Value).toArray s 0 0 (fun _ => False)) (F0 m 2 ls []) := by
    intro ls hSq0 hl
    clear cut2_3
    refine lv_iload_n hx hb d_T_lowestTrusted_2 rfl (lv_at hl 1 rfl) ?_
    refine lv_iconst (v := 3) hx hb d_T_lowestTrusted_3 (by decide) ?_
    refine lv_icmp_ge (tgt := 27) hx hb d_T_lowestTrusted_4 rfl (fun hc6 => by first | exact absurd hc6 (by decide) | exact absurd (by decide) hc6) (fun hc6 => ?_)
    refine lv_aload_n hx hb d_T_lowestTrusted_7 rfl (lv_at hl 0 rfl) ?_
    refine va_get (D := (dC, dI)) (ci := 0) (v := .ref a9) (C := "VotedTriple") (T := F_T) (N := 11) hx hb hw in_T hown hK hP 0 rfl rfl 1 (by decide) (hw _ k_195) (fun _ h9 => h9) rfl d_T_lowestTrusted_8 ?_
    refine lv_iload_n hx hb d_T_lowestTrusted_11 rfl (lv_at hl 1 rfl) ?_
    refine va_aldq hx hb hK hP 1 0 rfl rfl (by unfold vp_in; decide) d_T_lowestTrusted_12 ?_
    refine W.eq (g2 := F0 m 13 ls [.ref (da 1)]) rfl ?_
    replace hPc := hP.sub (ws' := [(da 1, .inr (2, oD (F 1) (ra 1) (ka 1)))]) [3] rfl
    replace hKc := hK.sub (tys' := []) [] rfl
    refine vp_callSi (va_runV (C := "VotedTriple$VotedModule") (As := []) (rest := []) ⟨hx, hb, hml, hown, hw⟩ (c_D_isTrusted l dC dI (da 1) (ra 1) (ka 1) (F 1)) (cwV 0 hw (gdV (k_583) (k_580) (k_581) (k_582) (k_7)) rfl rfl rfl (by decide +kernel) ⟨Nat.le_of_ble_eq_true rfl, Nat.le_of_ble_eq_true rfl⟩) ⟨fun a U g mk q => ⟨q.1, q.2.1, va_K.moved (u := U) (U := U.calling g mk a) (Vm.Alike.refl U.vm) q.2.2⟩, va_recv hK hP rfl (q0 := 3) rfl, fun U hU hW => ⟨rfl, by rw [hU]; exact hPc, va_K.moved hW.alike hKc⟩⟩ rfl rfl hl.1 rfl (lv_room (Nat.le_of_ble_eq_true rfl)) d_T_lowestTrusted_13 ⟨Nat.le_of_ble_eq_true rfl, Nat.le_of_ble_eq_true rfl⟩).run (fun r7 hr8 => ?_)
    subst hr8
    refine lv_if_eq (tgt := 21) hx hb d_T_lowestTrusted_16 rfl (fun hc9 => ?_) (fun hc9 => ?_)
    · --  (bI (trB (F 1))) = 0
      refine lv_iinc (k := 1) (v := 2) hx hb d_T_lowestTrusted_21 hl rfl rfl (by decide) rfl (fun ls hl => ?_)
      replace hl : lv_has ls 2 [(1, .int 2), (0, .ref h0)] := hl
      refine lv_goto (tgt := 2) hx hb d_T_lowestTrusted_24 rfl ?_
      have hSq : SP = s_T_lowestTrusted_cut2_2 F := by rw [hSq0, s_T_lowestTrusted_cut2_1]; try (rw [if_pos hc9]); all_goals rfl
      replace hl := lv_sub hl (l' := [(0, .ref h0), (1, .int 2)]) [1, 0] rfl
      exact cut2_2 _ hSq hl
    · --  ¬ (bI (trB (F 1))) = 0
      refine lv_iload_n hx hb d_T_lowestTrusted_19 rfl (lv_at hl 1 rfl) ?_
      exact W.iret (v := 1) hx hb hr (fun t ht _ => ⟨_, rfl, ⟨(Or.inr (Or.inr (Or.inl ⟨rfl, trB_0 hc9⟩))), (by rw [hSq0, s_T_lowestTrusted_cut2_1]; try (rw [if_neg hc9]); all_goals rfl)⟩, ht⟩) (fun _ h => by cases h) d_T_lowestTrusted_20
  clear cut2_3 cut2_2
  refine lv_iconst (v := 0) hx hb d_T_lowestTrusted_0 (by decide) ?_
  refine lv_istore_n hx hb d_T_lowestTrusted_1 rfl hl (by decide) rfl (fun ls hl => ?_)
  replace hl : lv_has ls 2 [(1, .int 0), (0, .ref h0)] := hl
  refine lv_iload_n hx hb d_T_lowestTrusted_2 rfl (lv_at hl 0 rfl) ?_
  refine lv_iconst (v := 3) hx hb d_T_lowestTrusted_3 (by decide) ?_
  refine lv_icmp_ge (tgt := 27) hx hb d_T_lowestTrusted_4 rfl (fun hc10 => by first | exact absurd hc10 (by decide) | exact absurd (by decide) hc10) (fun hc10 => ?_)
  refine lv_aload_n hx hb d_T_lowestTrusted_7 rfl (lv_at hl 1 rfl) ?_
  refine va_get (D := (dC, dI)) (ci := 0) (v := .ref a9) (C := "VotedTriple") (T := F_T) (N := 11) hx hb hw in_T hown hK hP 0 rfl rfl 1 (by decide) (hw _ k_195) (fun _ h9 => h9) rfl d_T_lowestTrusted_8 ?_
  refine lv_iload_n hx hb d_T_lowestTrusted_11 rfl (lv_at hl 0 rfl) ?_
  refine va_aldq hx hb hK hP 1 0 rfl rfl (by unfold vp_in; decide) d_T_lowestTrusted_12 ?_
  refine W.eq (g2 := F0 m 13 ls [.ref (da 0)]) rfl ?_
  replace hPc := hP.sub (ws' := [(da 0, .inr (2, oD (F 0) (ra 0) (ka 0)))]) [2] rfl
  replace hKc := hK.sub (tys' := []) [] rfl
  refine vp_callSi (va_runV (C := "VotedTriple$VotedModule") (As := []) (rest := []) ⟨hx, hb, hml, hown, hw⟩ (c_D_isTrusted l dC dI (da 0) (ra 0) (ka 0) (F 0)) (cwV 0 hw (gdV (k_583) (k_580) (k_581) (k_582) (k_7)) rfl rfl rfl (by decide +kernel) ⟨Nat.le_of_ble_eq_true rfl, Nat.le_of_ble_eq_true rfl⟩) ⟨fun a U g mk q => ⟨q.1, q.2.1, va_K.moved (u := U) (U := U.calling g mk a) (Vm.Alike.refl U.vm) q.2.2⟩, va_recv hK hP rfl (q0 := 2) rfl, fun U hU hW => ⟨rfl, by rw [hU]; exact hPc, va_K.moved hW.alike hKc⟩⟩ rfl rfl hl.1 rfl (lv_room (Nat.le_of_ble_eq_true rfl)) d_T_lowestTrusted_13 ⟨Nat.le_of_ble_eq_true rfl, Nat.le_of_ble_eq_true rfl⟩).run (fun r11 hr12 => ?_)
  subst hr12
  refine lv_if_eq (tgt := 21) hx hb d_T_lowestTrusted_16 rfl (fun hc13 => ?_) (fun hc13 => ?_)
  · --  (bI (trB (F 0))) = 0
    refine lv_iinc (k := 0) (v := 1) hx hb d_T_lowestTrusted_21 hl rfl rfl (by decide) rfl (fun ls hl => ?_)
    replace hl : lv_has ls 2 [(1, .int 1), (0, .ref h0)] := hl
    refine lv_goto (tgt := 2) hx hb d_T_lowestTrusted_24 rfl ?_
    have hSq : SP = s_T_lowestTrusted_cut2_1 F := by rw [← hSP, s_T_lowestTrusted]; try (rw [if_pos hc13]); all_goals rfl
    replace hl := lv_sub hl (l' := [(0, .ref h0), (1, .int 1)]) [1, 0] rfl
    exact cut2_1 _ hSq hl
  · --  ¬ (bI (trB (F 0))) = 0
    refine lv_iload_n hx hb d_T_lowestTrusted_19 rfl (lv_at hl 0 rfl) ?_
    exact W.iret (v := 0) hx hb hr (fun t ht _ => ⟨_, rfl, ⟨(Or.inr (Or.inl ⟨rfl, trB_0 hc13⟩)), (by rw [← hSP, s_T_lowestTrusted]; try (rw [if_neg hc13]); all_goals rfl)⟩, ht⟩) (fun _ h => by cases h) d_T_lowestTrusted_20

set_option maxHeartbeats 4000000 in
set_option maxRecDepth 100000 in
theorem c_T_countTrusted (l : Launch) (dC : Nat → ClassId) (dI : Nat → Nat → Nat) (h0 : Nat) (p9 : Nat) (a9 : Nat) (e9 : Nat) (n9 : Nat) (o9 : Nat) (ca : ClassId) (da : Nat → Nat) (ra : Nat → Nat) (ka : Nat → Nat) (uT : Nat → Int32) (F : Nat → Nat → Int32) : Met l y_T_countTrusted (tbw y_T_countTrusted b_T_countTrusted 3 (some .int)) ({ frames := 1, cells := 0, slots := 0, locals := 20 }) (va_Pc [.ref h0] (fun U => va_P (dC, dI) classes [(h0, .inr (0, oT uT p9 a9 e9 n9 o9)), (a9, .inl (ca, 3, .inr (.inr (.inr (.inr (mo da)))))), (da 0, .inr (2, oD (F 0) (ra 0) (ka 0))), (da 1, .inr (2, oD (F 1) (ra 1) (ka 1))), (da 2, .inr (2, oD (F 2) (ra 2) (ka 2)))] U.heap ∧ va_K (dC, dI) classes [(ca, .object "VotedTriple$VotedModule")] U)) (vp_Si (fun r => (True) ∧ r = s_T_countTrusted F)) 0 0 (fun _ => False) := by
  refine Met.ofW (cc := b_T_countTrusted) (maxL := 3) (ret := (some .int)) (by decide) rfl ?_
  intro p e s m args below meth c s₁ B hml hv
  obtain ⟨rfl, hP, hK⟩ := hv
  have hx := B.exec
  have hb := B.bytes
  have hr := B.returns
  have hts := atoms_spec (ws := (tbw y_T_countTrusted b_T_countTrusted 3 (some .int))) B.pre
  have hw : ∀ z9 ∈ tb, z9.before ([.ref h0] : List Value).toArray s = true := fun z9 h => hts z9 (List.mem_cons_of_mem _ h)
  have hown : s.vm.findClass "VotedTriple" = some m.cls := findClass_of_methodNamed B.named
  have hlocks := B.notSynchronized
  replace hl := lv_entry ([.ref h0]) (n := 3) (Nat.le_of_ble_eq_true rfl)
  rw [lg_entry_eq]
  generalize (lg_sl ([.ref h0]) ++ List.replicate (3 - (lg_sl ([.ref h0])).length) Slot.unset).toArray = ls at hl ⊢
  replace hl : lv_has ls 3 [(0, .ref h0)] := hl
  generalize hSP : s_T_countTrusted F = SP
  have cut4_3 : ∀ (w1 : Int32) (ls : Array Slot), SP = s_T_countTrusted_cut4_3 w1 →  lv_has ls 3 [(0, .ref h0), (1, .int w1), (2, .int 3)] → W p l e (headSpec (tbw y_T_countTrusted b_T_countTrusted 3 (some .int)) ({ frames := 1, cells := 0, slots := 0, locals := 20 })).room s m ([.ref h0] : List Value).toArray below meth c s.heap [] 0 0 (MQ below (vp_Si (fun r => (True) ∧ r = SP)) ([.ref h0] : List Value).toArray s 0 0 (fun _ => False)) (F0 m 4 ls []) := by
    intro w1 ls hSq0 hl
    refine lv_iload_n hx hb d_T_countTrusted_4 rfl (lv_at hl 2 rfl) ?_
    refine lv_iconst (v := 3) hx hb d_T_countTrusted_5 (by decide) ?_
    refine lv_icmp_ge (tgt := 30) hx hb d_T_countTrusted_6 rfl (fun hc1 => ?_) (fun hc1 => by first | exact absurd (by decide) hc1 | exact absurd hc1 (by decide))
    refine lv_iload_n hx hb d_T_countTrusted_30 rfl (lv_at hl 1 rfl) ?_
    exact W.iret (v := w1) hx hb hr (fun t ht _ => ⟨_, rfl, ⟨trivial, (by rw [hSq0, s_T_countTrusted_cut4_3]; all_goals rfl)⟩, ht⟩) (fun _ h => by cases h) d_T_countTrusted_31
  have cut4_2 : ∀ (w1 : Int32) (ls : Array Slot), SP = s_T_countTrusted_cut4_2 F w1 →  lv_has ls 3 [(0, .ref h0), (1, .int w1), (2, .int 2)] → W p l e (headSpec (tbw y_T_countTrusted b_T_countTrusted 3 (some .int)) ({ frames := 1, cells := 0, slots := 0, locals := 20 })).room s m ([.ref h0] : List Value).toArray below meth c s.heap [] 0 0 (MQ below (vp_Si (fun r => (True) ∧ r = SP)) ([.ref h0] : List Value).toArray s 0 0 (fun _ => False)) (F0 m 4 ls []) := by
    intro w1 ls hSq0 hl
    refine lv_iload_n hx hb d_T_countTrusted_4 rfl (lv_at hl 2 rfl) ?_
    refine lv_iconst (v := 3) hx hb d_T_countTrusted_5 (by decide) ?_
    refine lv_icmp_ge (tgt := 30) hx hb d_T_countTrusted_6 rfl (fun hc2 => by first | exact absurd hc2 (by decide) | exact absurd (by decide) hc2) (fun hc2 => ?_)
    refine lv_aload_n hx hb d_T_countTrusted_9 rfl (lv_at hl 0 rfl) ?_
    refine va_get (D := (dC, dI)) (ci := 0) (v := .ref a9) (C := "VotedTriple") (T := F_T) (N := 11) hx hb hw in_T hown hK hP 0 rfl rfl 1 (by decide) (hw _ k_195) (fun _ h9 => h9) rfl d_T_countTrusted_10 ?_
    refine lv_iload_n hx hb d_T_countTrusted_13 rfl (lv_at hl 2 rfl) ?_
    refine va_aldq hx hb hK hP 1 0 rfl rfl (by unfold vp_in; decide) d_T_countTrusted_14 ?_
    refine W.eq (g2 := F0 m 15 ls [.ref (da 2)]) rfl ?_
    replace hPc := hP.sub (ws' := [(da 2, .inr (2, oD (F 2) (ra 2) (ka 2)))]) [4] rfl
    replace hKc := hK.sub (tys' := []) [] rfl
    refine vp_callSi (va_runV (C := "VotedTriple$VotedModule") (As := []) (rest := []) ⟨hx, hb, hml, hown, hw⟩ (c_D_isTrusted l dC dI (da 2) (ra 2) (ka 2) (F 2)) (cwV 0 hw (gdV (k_583) (k_580) (k_581) (k_582) (k_7)) rfl rfl rfl (by decide +kernel) ⟨Nat.le_of_ble_eq_true rfl, Nat.le_of_ble_eq_true rfl⟩) ⟨fun a U g mk q => ⟨q.1, q.2.1, va_K.moved (u := U) (U := U.calling g mk a) (Vm.Alike.refl U.vm) q.2.2⟩, va_recv hK hP rfl (q0 := 4) rfl, fun U hU hW => ⟨rfl, by rw [hU]; exact hPc, va_K.moved hW.alike hKc⟩⟩ rfl rfl hl.1 rfl (lv_room (Nat.le_of_ble_eq_true rfl)) d_T_countTrusted_15 ⟨Nat.le_of_ble_eq_true rfl, Nat.le_of_ble_eq_true rfl⟩).run (fun r3 hr4 => ?_)
    subst hr4
    refine lv_if_eq (tgt := 24) hx hb d_T_countTrusted_18 rfl (fun hc5 => ?_) (fun hc5 => ?_)
    · --  (bI (trB (F 2))) = 0
      refine lv_iinc (k := 2) (v := 3) hx hb d_T_countTrusted_24 hl rfl rfl (by decide) rfl (fun ls hl => ?_)
      replace hl : lv_has ls 3 [(2, .int 3), (0, .ref h0), (1, .int w1)] := hl
      refine lv_goto (tgt := 4) hx hb d_T_countTrusted_27 rfl ?_
      have hSq : SP = s_T_countTrusted_cut4_3 w1 := by rw [hSq0, s_T_countTrusted_cut4_2]; try (rw [if_pos hc5]); all_goals rfl
      replace hl := lv_sub hl (l' := [(0, .ref h0), (1, .int w1), (2, .int 3)]) [1, 2, 0] rfl
      exact cut4_3 w1 _ hSq hl
    · --  ¬ (bI (trB (F 2))) = 0
      refine lv_iinc (k := 1) (v := w1 + 1) hx hb d_T_countTrusted_21 hl rfl rfl (by decide) rfl (fun ls hl => ?_)
      replace hl : lv_has ls 3 [(1, .int (w1 + 1)), (0, .ref h0), (2, .int 2)] := hl
      refine lv_iinc (k := 2) (v := 3) hx hb d_T_countTrusted_24 hl rfl rfl (by decide) rfl (fun ls hl => ?_)
      replace hl : lv_has ls 3 [(2, .int 3), (1, .int (w1 + 1)), (0, .ref h0)] := hl
      refine lv_goto (tgt := 4) hx hb d_T_countTrusted_27 rfl ?_
      have hSq : SP = s_T_countTrusted_cut4_3 (w1 + 1) := by rw [hSq0, s_T_countTrusted_cut4_2]; try (rw [if_neg hc5]); all_goals rfl
      replace hl := lv_sub hl (l' := [(0, .ref h0), (1, .int (w1 + 1)), (2, .int 3)]) [2, 1, 0] rfl
      exact cut4_3 (w1 + 1) _ hSq hl
  have cut4_1 : ∀ (w1 : Int32) (ls : Array Slot), SP = s_T_countTrusted_cut4_1 F w1 →  lv_has ls 3 [(0, .ref h0), (1, .int w1), (2, .int 1)] → W p l e (headSpec (tbw y_T_countTrusted b_T_countTrusted 3 (some .int)) ({ frames := 1, cells := 0, slots := 0, locals := 20 })).room s m ([.ref h0] : List Value).toArray below meth c s.heap [] 0 0 (MQ below (vp_Si (fun r => (True) ∧ r = SP)) ([.ref h0] : List Value).toArray s 0 0 (fun _ => False)) (F0 m 4 ls []) := by
    intro w1 ls hSq0 hl
    clear cut4_3
    refine lv_iload_n hx hb d_T_countTrusted_4 rfl (lv_at hl 2 rfl) ?_
    refine lv_iconst (v := 3) hx hb d_T_countTrusted_5 (by decide) ?_
    refine lv_icmp_ge (tgt := 30) hx hb d_T_countTrusted_6 rfl (fun hc6 => by first | exact absurd hc6 (by decide) | exact absurd (by decide) hc6) (fun hc6 => ?_)
    refine lv_aload_n hx hb d_T_countTrusted_9 rfl (lv_at hl 0 rfl) ?_
    refine va_get (D := (dC, dI)) (ci := 0) (v := .ref a9) (C := "VotedTriple") (T := F_T) (N := 11) hx hb hw in_T hown hK hP 0 rfl rfl 1 (by decide) (hw _ k_195) (fun _ h9 => h9) rfl d_T_countTrusted_10 ?_
    refine lv_iload_n hx hb d_T_countTrusted_13 rfl (lv_at hl 2 rfl) ?_
    refine va_aldq hx hb hK hP 1 0 rfl rfl (by unfold vp_in; decide) d_T_countTrusted_14 ?_
    refine W.eq (g2 := F0 m 15 ls [.ref (da 1)]) rfl ?_
    replace hPc := hP.sub (ws' := [(da 1, .inr (2, oD (F 1) (ra 1) (ka 1)))]) [3] rfl
    replace hKc := hK.sub (tys' := []) [] rfl
    refine vp_callSi (va_runV (C := "VotedTriple$VotedModule") (As := []) (rest := []) ⟨hx, hb, hml, hown, hw⟩ (c_D_isTrusted l dC dI (da 1) (ra 1) (ka 1) (F 1)) (cwV 0 hw (gdV (k_583) (k_580) (k_581) (k_582) (k_7)) rfl rfl rfl (by decide +kernel) ⟨Nat.le_of_ble_eq_true rfl, Nat.le_of_ble_eq_true rfl⟩) ⟨fun a U g mk q => ⟨q.1, q.2.1, va_K.moved (u := U) (U := U.calling g mk a) (Vm.Alike.refl U.vm) q.2.2⟩, va_recv hK hP rfl (q0 := 3) rfl, fun U hU hW => ⟨rfl, by rw [hU]; exact hPc, va_K.moved hW.alike hKc⟩⟩ rfl rfl hl.1 rfl (lv_room (Nat.le_of_ble_eq_true rfl)) d_T_countTrusted_15 ⟨Nat.le_of_ble_eq_true rfl, Nat.le_of_ble_eq_true rfl⟩).run (fun r7 hr8 => ?_)
    subst hr8
    refine lv_if_eq (tgt := 24) hx hb d_T_countTrusted_18 rfl (fun hc9 => ?_) (fun hc9 => ?_)
    · --  (bI (trB (F 1))) = 0
      refine lv_iinc (k := 2) (v := 2) hx hb d_T_countTrusted_24 hl rfl rfl (by decide) rfl (fun ls hl => ?_)
      replace hl : lv_has ls 3 [(2, .int 2), (0, .ref h0), (1, .int w1)] := hl
      refine lv_goto (tgt := 4) hx hb d_T_countTrusted_27 rfl ?_
      have hSq : SP = s_T_countTrusted_cut4_2 F w1 := by rw [hSq0, s_T_countTrusted_cut4_1]; try (rw [if_pos hc9]); all_goals rfl
      replace hl := lv_sub hl (l' := [(0, .ref h0), (1, .int w1), (2, .int 2)]) [1, 2, 0] rfl
      exact cut4_2 w1 _ hSq hl
    · --  ¬ (bI (trB (F 1))) = 0
      refine lv_iinc (k := 1) (v := w1 + 1) hx hb d_T_countTrusted_21 hl rfl rfl (by decide) rfl (fun ls hl => ?_)
      replace hl : lv_has ls 3 [(1, .int (w1 + 1)), (0, .ref h0), (2, .int 1)] := hl
      refine lv_iinc (k := 2) (v := 2) hx hb d_T_countTrusted_24 hl rfl rfl (by decide) rfl (fun ls hl => ?_)
      replace hl : lv_has ls 3 [(2, .int 2), (1, .int (w1 + 1)), (0, .ref h0)] := hl
      refine lv_goto (tgt := 4) hx hb d_T_countTrusted_27 rfl ?_
      have hSq : SP = s_T_countTrusted_cut4_2 F (w1 + 1) := by rw [hSq0, s_T_countTrusted_cut4_1]; try (rw [if_neg hc9]); all_goals rfl
      replace hl := lv_sub hl (l' := [(0, .ref h0), (1, .int (w1 + 1)), (2, .int 2)]) [2, 1, 0] rfl
      exact cut4_2 (w1 + 1) _ hSq hl
  clear cut4_3 cut4_2
  refine lv_iconst (v := 0) hx hb d_T_countTrusted_0 (by decide) ?_
  refine lv_istore_n hx hb d_T_countTrusted_1 rfl hl (by decide) rfl (fun ls hl => ?_)
  replace hl : lv_has ls 3 [(1, .int 0), (0, .ref h0)] := hl
  refine lv_iconst (v := 0) hx hb d_T_countTrusted_2 (by decide) ?_
  refine lv_istore_n hx hb d_T_countTrusted_3 rfl hl (by decide) rfl (fun ls hl => ?_)
  replace hl : lv_has ls 3 [(2, .int 0), (1, .int 0), (0, .ref h0)] := hl
  refine lv_iload_n hx hb d_T_countTrusted_4 rfl (lv_at hl 0 rfl) ?_
  refine lv_iconst (v := 3) hx hb d_T_countTrusted_5 (by decide) ?_
  refine lv_icmp_ge (tgt := 30) hx hb d_T_countTrusted_6 rfl (fun hc10 => by first | exact absurd hc10 (by decide) | exact absurd (by decide) hc10) (fun hc10 => ?_)
  refine lv_aload_n hx hb d_T_countTrusted_9 rfl (lv_at hl 2 rfl) ?_
  refine va_get (D := (dC, dI)) (ci := 0) (v := .ref a9) (C := "VotedTriple") (T := F_T) (N := 11) hx hb hw in_T hown hK hP 0 rfl rfl 1 (by decide) (hw _ k_195) (fun _ h9 => h9) rfl d_T_countTrusted_10 ?_
  refine lv_iload_n hx hb d_T_countTrusted_13 rfl (lv_at hl 0 rfl) ?_
  refine va_aldq hx hb hK hP 1 0 rfl rfl (by unfold vp_in; decide) d_T_countTrusted_14 ?_
  refine W.eq (g2 := F0 m 15 ls [.ref (da 0)]) rfl ?_
  replace hPc := hP.sub (ws' := [(da 0, .inr (2, oD (F 0) (ra 0) (ka 0)))]) [2] rfl
  replace hKc := hK.sub (tys' := []) [] rfl
  refine vp_callSi (va_runV (C := "VotedTriple$VotedModule") (As := []) (rest := []) ⟨hx, hb, hml, hown, hw⟩ (c_D_isTrusted l dC dI (da 0) (ra 0) (ka 0) (F 0)) (cwV 0 hw (gdV (k_583) (k_580) (k_581) (k_582) (k_7)) rfl rfl rfl (by decide +kernel) ⟨Nat.le_of_ble_eq_true rfl, Nat.le_of_ble_eq_true rfl⟩) ⟨fun a U g mk q => ⟨q.1, q.2.1, va_K.moved (u := U) (U := U.calling g mk a) (Vm.Alike.refl U.vm) q.2.2⟩, va_recv hK hP rfl (q0 := 2) rfl, fun U hU hW => ⟨rfl, by rw [hU]; exact hPc, va_K.moved hW.alike hKc⟩⟩ rfl rfl hl.1 rfl (lv_room (Nat.le_of_ble_eq_true rfl)) d_T_countTrusted_15 ⟨Nat.le_of_ble_eq_true rfl, Nat.le_of_ble_eq_true rfl⟩).run (fun r11 hr12 => ?_)
  subst hr12
  refine lv_if_eq (tgt := 24) hx hb d_T_countTrusted_18 rfl (fun hc13 => ?_) (fun hc13 => ?_)
  · --  (bI (trB (F 0))) = 0
    refine lv_iinc (k := 0) (v := 1) hx hb d_T_countTrusted_24 hl rfl rfl (by decide) rfl (fun ls hl => ?_)
    replace hl : lv_has ls 3 [(2, .int 1), (1, .int 0), (0, .ref h0)] := hl
    refine lv_goto (tgt := 4) hx hb d_T_countTrusted_27 rfl ?_
    have hSq : SP = s_T_countTrusted_cut4_1 F 0 := by rw [← hSP, s_T_countTrusted]; try (rw [if_pos hc13]); all_goals rfl
    replace hl := lv_sub hl (l' := [(0, .ref h0), (1, .int 0), (2, .int 1)]) [2, 1, 0] rfl
    exact cut4_1 0 _ hSq hl
  · --  ¬ (bI (trB (F 0))) = 0
    refine lv_iinc (k := 1) (v := 1) hx hb d_T_countTrusted_21 hl rfl rfl (by decide) rfl (fun ls hl => ?_)
    replace hl : lv_has ls 3 [(1, .int 1), (2, .int 0), (0, .ref h0)] := hl
    refine lv_iinc (k := 1) (v := 1) hx hb d_T_countTrusted_24 hl rfl rfl (by decide) rfl (fun ls hl => ?_)
    replace hl : lv_has ls 3 [(2, .int 1), (1, .int 1), (0, .ref h0)] := hl
    refine lv_goto (tgt := 4) hx hb d_T_countTrusted_27 rfl ?_
    have hSq : SP = s_T_countTrusted_cut4_1 F 1 := by rw [← hSP, s_T_countTrusted]; try (rw [if_neg hc13]); all_goals rfl
    replace hl := lv_sub hl (l' := [(0, .ref h0), (1, .int 1), (2, .int 1)]) [2, 1, 0] rfl
    exact cut4_1 1 _ hSq hl

set_option maxHeartbeats 4000000 in
set_option maxRecDepth 100000 in
theorem c_T_countBallots (l : Launch) (dC : Nat → ClassId) (dI : Nat → Nat → Nat) (h0 : Nat) (p9 : Nat) (a9 : Nat) (e9 : Nat) (n9 : Nat) (o9 : Nat) (ca : ClassId) (da : Nat → Nat) (ra : Nat → Nat) (ka : Nat → Nat) (uT : Nat → Int32) (F : Nat → Nat → Int32) (x : Int32) : Met l y_T_countBallots (tbw y_T_countBallots b_T_countBallots 4 (some .int)) ({ frames := 1, cells := 0, slots := 0, locals := 20 }) (va_Pc [.ref h0, .int x] (fun U => va_P (dC, dI) classes [(h0, .inr (0, oT uT p9 a9 e9 n9 o9)), (a9, .inl (ca, 3, .inr (.inr (.inr (.inr (mo da)))))), (da 0, .inr (2, oD (F 0) (ra 0) (ka 0))), (da 1, .inr (2, oD (F 1) (ra 1) (ka 1))), (da 2, .inr (2, oD (F 2) (ra 2) (ka 2)))] U.heap ∧ va_K (dC, dI) classes [(ca, .object "VotedTriple$VotedModule")] U)) (vp_Si (fun r => (True) ∧ r = s_T_countBallots F x)) 0 0 (fun _ => False) := by
  refine Met.ofW (cc := b_T_countBallots) (maxL := 4) (ret := (some .int)) (by decide) rfl ?_
  intro p e s m args below meth c s₁ B hml hv
  obtain ⟨rfl, hP, hK⟩ := hv
  have hx := B.exec
  have hb := B.bytes
  have hr := B.returns
  have hts := atoms_spec (ws := (tbw y_T_countBallots b_T_countBallots 4 (some .int))) B.pre
  have hw : ∀ z9 ∈ tb, z9.before ([.ref h0, .int x] : List Value).toArray s = true := fun z9 h => hts z9 (List.mem_cons_of_mem _ h)
  have hown : s.vm.findClass "VotedTriple" = some m.cls := findClass_of_methodNamed B.named
  have hlocks := B.notSynchronized
  replace hl := lv_entry ([.ref h0, .int x]) (n := 4) (Nat.le_of_ble_eq_true rfl)
  rw [lg_entry_eq]
  generalize (lg_sl ([.ref h0, .int x]) ++ List.replicate (4 - (lg_sl ([.ref h0, .int x])).length) Slot.unset).toArray = ls at hl ⊢
  replace hl : lv_has ls 4 [(0, .ref h0), (1, .int x)] := hl
  generalize hSP : s_T_countBallots F x = SP
  have cut4_3 : ∀ (w2 : Int32) (ls : Array Slot), SP = s_T_countBallots_cut4_3 w2 →  lv_has ls 4 [(0, .ref h0), (1, .int x), (2, .int w2), (3, .int 3)] → W p l e (headSpec (tbw y_T_countBallots b_T_countBallots 4 (some .int)) ({ frames := 1, cells := 0, slots := 0, locals := 20 })).room s m ([.ref h0, .int x] : List Value).toArray below meth c s.heap [] 0 0 (MQ below (vp_Si (fun r => (True) ∧ r = SP)) ([.ref h0, .int x] : List Value).toArray s 0 0 (fun _ => False)) (F0 m 4 ls []) := by
    intro w2 ls hSq0 hl
    refine lv_iload_n hx hb d_T_countBallots_4 rfl (lv_at hl 3 rfl) ?_
    refine lv_iconst (v := 3) hx hb d_T_countBallots_5 (by decide) ?_
    refine lv_icmp_ge (tgt := 43) hx hb d_T_countBallots_6 rfl (fun hc1 => ?_) (fun hc1 => by first | exact absurd (by decide) hc1 | exact absurd hc1 (by decide))
    refine lv_iload_n hx hb d_T_countBallots_43 rfl (lv_at hl 2 rfl) ?_
    exact W.iret (v := w2) hx hb hr (fun t ht _ => ⟨_, rfl, ⟨trivial, (by rw [hSq0, s_T_countBallots_cut4_3]; all_goals rfl)⟩, ht⟩) (fun _ h => by cases h) d_T_countBallots_44
  have cut4_2 : ∀ (w2 : Int32) (ls : Array Slot), SP = s_T_countBallots_cut4_2 F x w2 →  lv_has ls 4 [(0, .ref h0), (1, .int x), (2, .int w2), (3, .int 2)] → W p l e (headSpec (tbw y_T_countBallots b_T_countBallots 4 (some .int)) ({ frames := 1, cells := 0, slots := 0, locals := 20 })).room s m ([.ref h0, .int x] : List Value).toArray below meth c s.heap [] 0 0 (MQ below (vp_Si (fun r => (True) ∧ r = SP)) ([.ref h0, .int x] : List Value).toArray s 0 0 (fun _ => False)) (F0 m 4 ls []) := by
    intro w2 ls hSq0 hl
    refine lv_iload_n hx hb d_T_countBallots_4 rfl (lv_at hl 3 rfl) ?_
    refine lv_iconst (v := 3) hx hb d_T_countBallots_5 (by decide) ?_
    refine lv_icmp_ge (tgt := 43) hx hb d_T_countBallots_6 rfl (fun hc2 => by first | exact absurd hc2 (by decide) | exact absurd (by decide) hc2) (fun hc2 => ?_)
    refine lv_aload_n hx hb d_T_countBallots_9 rfl (lv_at hl 0 rfl) ?_
    refine va_get (D := (dC, dI)) (ci := 0) (v := .ref a9) (C := "VotedTriple") (T := F_T) (N := 11) hx hb hw in_T hown hK hP 0 rfl rfl 1 (by decide) (hw _ k_195) (fun _ h9 => h9) rfl d_T_countBallots_10 ?_
    refine lv_iload_n hx hb d_T_countBallots_13 rfl (lv_at hl 3 rfl) ?_
    refine va_aldq hx hb hK hP 1 0 rfl rfl (by unfold vp_in; decide) d_T_countBallots_14 ?_
    refine W.eq (g2 := F0 m 15 ls [.ref (da 2)]) rfl ?_
    replace hPc := hP.sub (ws' := [(da 2, .inr (2, oD (F 2) (ra 2) (ka 2)))]) [4] rfl
    replace hKc := hK.sub (tys' := []) [] rfl
    refine vp_callSi (va_runV (C := "VotedTriple$VotedModule") (As := []) (rest := []) ⟨hx, hb, hml, hown, hw⟩ (c_D_isTrusted l dC dI (da 2) (ra 2) (ka 2) (F 2)) (cwV 0 hw (gdV (k_583) (k_580) (k_581) (k_582) (k_7)) rfl rfl rfl (by decide +kernel) ⟨Nat.le_of_ble_eq_true rfl, Nat.le_of_ble_eq_true rfl⟩) ⟨fun a U g mk q => ⟨q.1, q.2.1, va_K.moved (u := U) (U := U.calling g mk a) (Vm.Alike.refl U.vm) q.2.2⟩, va_recv hK hP rfl (q0 := 4) rfl, fun U hU hW => ⟨rfl, by rw [hU]; exact hPc, va_K.moved hW.alike hKc⟩⟩ rfl rfl hl.1 rfl (lv_room (Nat.le_of_ble_eq_true rfl)) d_T_countBallots_15 ⟨Nat.le_of_ble_eq_true rfl, Nat.le_of_ble_eq_true rfl⟩).run (fun r3 hr4 => ?_)
    subst hr4
    refine lv_if_eq (tgt := 37) hx hb d_T_countBallots_18 rfl (fun hc5 => ?_) (fun hc5 => ?_)
    · --  (bI (trB (F 2))) = 0
      refine lv_iinc (k := 3) (v := 3) hx hb d_T_countBallots_37 hl rfl rfl (by decide) rfl (fun ls hl => ?_)
      replace hl : lv_has ls 4 [(3, .int 3), (0, .ref h0), (1, .int x), (2, .int w2)] := hl
      refine lv_goto (tgt := 4) hx hb d_T_countBallots_40 rfl ?_
      have hSq : SP = s_T_countBallots_cut4_3 w2 := by rw [hSq0, s_T_countBallots_cut4_2]; try (rw [if_pos hc5]); all_goals rfl
      replace hl := lv_sub hl (l' := [(0, .ref h0), (1, .int x), (2, .int w2), (3, .int 3)]) [1, 2, 3, 0] rfl
      exact cut4_3 w2 _ hSq hl
    · --  ¬ (bI (trB (F 2))) = 0
      refine lv_aload_n hx hb d_T_countBallots_21 rfl (lv_at hl 0 rfl) ?_
      refine va_get (D := (dC, dI)) (ci := 0) (v := .ref a9) (C := "VotedTriple") (T := F_T) (N := 11) hx hb hw in_T hown hK hP 0 rfl rfl 1 (by decide) (hw _ k_195) (fun _ h9 => h9) rfl d_T_countBallots_22 ?_
      refine lv_iload_n hx hb d_T_countBallots_25 rfl (lv_at hl 3 rfl) ?_
      refine va_aldq hx hb hK hP 1 0 rfl rfl (by unfold vp_in; decide) d_T_countBallots_26 ?_
      refine W.eq (g2 := F0 m 27 ls [.ref (da 2)]) rfl ?_
      refine va_get (D := (dC, dI)) (ci := 2) (v := .int (F 2 18)) (C := "VotedTriple$VotedModule") (T := F_D) (N := 19) hx hb hw in_D hown hK hP 4 rfl rfl 18 (by decide) (hw _ k_161) (fun _ h9 => h9) rfl d_T_countBallots_27 ?_
      refine lv_iload_n hx hb d_T_countBallots_30 rfl (lv_at hl 1 rfl) ?_
      refine lv_icmp_ne (tgt := 37) hx hb d_T_countBallots_31 rfl (fun hc6 => ?_) (fun hc6 => ?_)
      · --  ¬ (F 2 18) = x
        refine lv_iinc (k := 3) (v := 3) hx hb d_T_countBallots_37 hl rfl rfl (by decide) rfl (fun ls hl => ?_)
        replace hl : lv_has ls 4 [(3, .int 3), (0, .ref h0), (1, .int x), (2, .int w2)] := hl
        refine lv_goto (tgt := 4) hx hb d_T_countBallots_40 rfl ?_
        have hSq : SP = s_T_countBallots_cut4_3 w2 := by rw [hSq0, s_T_countBallots_cut4_2]; try (rw [if_neg hc5]); try (rw [if_neg hc6]); all_goals rfl
        replace hl := lv_sub hl (l' := [(0, .ref h0), (1, .int x), (2, .int w2), (3, .int 3)]) [1, 2, 3, 0] rfl
        exact cut4_3 w2 _ hSq hl
      · --  (F 2 18) = x
        refine lv_iinc (k := 2) (v := w2 + 1) hx hb d_T_countBallots_34 hl rfl rfl (by decide) rfl (fun ls hl => ?_)
        replace hl : lv_has ls 4 [(2, .int (w2 + 1)), (0, .ref h0), (1, .int x), (3, .int 2)] := hl
        refine lv_iinc (k := 3) (v := 3) hx hb d_T_countBallots_37 hl rfl rfl (by decide) rfl (fun ls hl => ?_)
        replace hl : lv_has ls 4 [(3, .int 3), (2, .int (w2 + 1)), (0, .ref h0), (1, .int x)] := hl
        refine lv_goto (tgt := 4) hx hb d_T_countBallots_40 rfl ?_
        have hSq : SP = s_T_countBallots_cut4_3 (w2 + 1) := by rw [hSq0, s_T_countBallots_cut4_2]; try (rw [if_neg hc5]); try (rw [if_pos hc6]); all_goals rfl
        replace hl := lv_sub hl (l' := [(0, .ref h0), (1, .int x), (2, .int (w2 + 1)), (3, .int 3)]) [2, 3, 1, 0] rfl
        exact cut4_3 (w2 + 1) _ hSq hl
  have cut4_1 : ∀ (w2 : Int32) (ls : Array Slot), SP = s_T_countBallots_cut4_1 F x w2 →  lv_has ls 4 [(0, .ref h0), (1, .int x), (2, .int w2), (3, .int 1)] → W p l e (headSpec (tbw y_T_countBallots b_T_countBallots 4 (some .int)) ({ frames := 1, cells := 0, slots := 0, locals := 20 })).room s m ([.ref h0, .int x] : List Value).toArray below meth c s.heap [] 0 0 (MQ below (vp_Si (fun r => (True) ∧ r = SP)) ([.ref h0, .int x] : List Value).toArray s 0 0 (fun _ => False)) (F0 m 4 ls []) := by
    intro w2 ls hSq0 hl
    clear cut4_3
    refine lv_iload_n hx hb d_T_countBallots_4 rfl (lv_at hl 3 rfl) ?_
    refine lv_iconst (v := 3) hx hb d_T_countBallots_5 (by decide) ?_
    refine lv_icmp_ge (tgt := 43) hx hb d_T_countBallots_6 rfl (fun hc7 => by first | exact absurd hc7 (by decide) | exact absurd (by decide) hc7) (fun hc7 => ?_)
    refine lv_aload_n hx hb d_T_countBallots_9 rfl (lv_at hl 0 rfl) ?_
    refine va_get (D := (dC, dI)) (ci := 0) (v := .ref a9) (C := "VotedTriple") (T := F_T) (N := 11) hx hb hw in_T hown hK hP 0 rfl rfl 1 (by decide) (hw _ k_195) (fun _ h9 => h9) rfl d_T_countBallots_10 ?_
    refine lv_iload_n hx hb d_T_countBallots_13 rfl (lv_at hl 3 rfl) ?_
    refine va_aldq hx hb hK hP 1 0 rfl rfl (by unfold vp_in; decide) d_T_countBallots_14 ?_
    refine W.eq (g2 := F0 m 15 ls [.ref (da 1)]) rfl ?_
    replace hPc := hP.sub (ws' := [(da 1, .inr (2, oD (F 1) (ra 1) (ka 1)))]) [3] rfl
    replace hKc := hK.sub (tys' := []) [] rfl
    refine vp_callSi (va_runV (C := "VotedTriple$VotedModule") (As := []) (rest := []) ⟨hx, hb, hml, hown, hw⟩ (c_D_isTrusted l dC dI (da 1) (ra 1) (ka 1) (F 1)) (cwV 0 hw (gdV (k_583) (k_580) (k_581) (k_582) (k_7)) rfl rfl rfl (by decide +kernel) ⟨Nat.le_of_ble_eq_true rfl, Nat.le_of_ble_eq_true rfl⟩) ⟨fun a U g mk q => ⟨q.1, q.2.1, va_K.moved (u := U) (U := U.calling g mk a) (Vm.Alike.refl U.vm) q.2.2⟩, va_recv hK hP rfl (q0 := 3) rfl, fun U hU hW => ⟨rfl, by rw [hU]; exact hPc, va_K.moved hW.alike hKc⟩⟩ rfl rfl hl.1 rfl (lv_room (Nat.le_of_ble_eq_true rfl)) d_T_countBallots_15 ⟨Nat.le_of_ble_eq_true rfl, Nat.le_of_ble_eq_true rfl⟩).run (fun r8 hr9 => ?_)
    subst hr9
    refine lv_if_eq (tgt := 37) hx hb d_T_countBallots_18 rfl (fun hc10 => ?_) (fun hc10 => ?_)
    · --  (bI (trB (F 1))) = 0
      refine lv_iinc (k := 3) (v := 2) hx hb d_T_countBallots_37 hl rfl rfl (by decide) rfl (fun ls hl => ?_)
      replace hl : lv_has ls 4 [(3, .int 2), (0, .ref h0), (1, .int x), (2, .int w2)] := hl
      refine lv_goto (tgt := 4) hx hb d_T_countBallots_40 rfl ?_
      have hSq : SP = s_T_countBallots_cut4_2 F x w2 := by rw [hSq0, s_T_countBallots_cut4_1]; try (rw [if_pos hc10]); all_goals rfl
      replace hl := lv_sub hl (l' := [(0, .ref h0), (1, .int x), (2, .int w2), (3, .int 2)]) [1, 2, 3, 0] rfl
      exact cut4_2 w2 _ hSq hl
    · --  ¬ (bI (trB (F 1))) = 0
      refine lv_aload_n hx hb d_T_countBallots_21 rfl (lv_at hl 0 rfl) ?_
      refine va_get (D := (dC, dI)) (ci := 0) (v := .ref a9) (C := "VotedTriple") (T := F_T) (N := 11) hx hb hw in_T hown hK hP 0 rfl rfl 1 (by decide) (hw _ k_195) (fun _ h9 => h9) rfl d_T_countBallots_22 ?_
      refine lv_iload_n hx hb d_T_countBallots_25 rfl (lv_at hl 3 rfl) ?_
      refine va_aldq hx hb hK hP 1 0 rfl rfl (by unfold vp_in; decide) d_T_countBallots_26 ?_
      refine W.eq (g2 := F0 m 27 ls [.ref (da 1)]) rfl ?_
      refine va_get (D := (dC, dI)) (ci := 2) (v := .int (F 1 18)) (C := "VotedTriple$VotedModule") (T := F_D) (N := 19) hx hb hw in_D hown hK hP 3 rfl rfl 18 (by decide) (hw _ k_161) (fun _ h9 => h9) rfl d_T_countBallots_27 ?_
      refine lv_iload_n hx hb d_T_countBallots_30 rfl (lv_at hl 1 rfl) ?_
      refine lv_icmp_ne (tgt := 37) hx hb d_T_countBallots_31 rfl (fun hc11 => ?_) (fun hc11 => ?_)
      · --  ¬ (F 1 18) = x
        refine lv_iinc (k := 3) (v := 2) hx hb d_T_countBallots_37 hl rfl rfl (by decide) rfl (fun ls hl => ?_)
        replace hl : lv_has ls 4 [(3, .int 2), (0, .ref h0), (1, .int x), (2, .int w2)] := hl
        refine lv_goto (tgt := 4) hx hb d_T_countBallots_40 rfl ?_
        have hSq : SP = s_T_countBallots_cut4_2 F x w2 := by rw [hSq0, s_T_countBallots_cut4_1]; try (rw [if_neg hc10]); try (rw [if_neg hc11]); all_goals rfl
        replace hl := lv_sub hl (l' := [(0, .ref h0), (1, .int x), (2, .int w2), (3, .int 2)]) [1, 2, 3, 0] rfl
        exact cut4_2 w2 _ hSq hl
      · --  (F 1 18) = x
        refine lv_iinc (k := 2) (v := w2 + 1) hx hb d_T_countBallots_34 hl rfl rfl (by decide) rfl (fun ls hl => ?_)
        replace hl : lv_has ls 4 [(2, .int (w2 + 1)), (0, .ref h0), (1, .int x), (3, .int 1)] := hl
        refine lv_iinc (k := 3) (v := 2) hx hb d_T_countBallots_37 hl rfl rfl (by decide) rfl (fun ls hl => ?_)
        replace hl : lv_has ls 4 [(3, .int 2), (2, .int (w2 + 1)), (0, .ref h0), (1, .int x)] := hl
        refine lv_goto (tgt := 4) hx hb d_T_countBallots_40 rfl ?_
        have hSq : SP = s_T_countBallots_cut4_2 F x (w2 + 1) := by rw [hSq0, s_T_countBallots_cut4_1]; try (rw [if_neg hc10]); try (rw [if_pos hc11]); all_goals rfl
        replace hl := lv_sub hl (l' := [(0, .ref h0), (1, .int x), (2, .int (w2 + 1)), (3, .int 2)]) [2, 3, 1, 0] rfl
        exact cut4_2 (w2 + 1) _ hSq hl
  clear cut4_3 cut4_2
  refine lv_iconst (v := 0) hx hb d_T_countBallots_0 (by decide) ?_
  refine lv_istore_n hx hb d_T_countBallots_1 rfl hl (by decide) rfl (fun ls hl => ?_)
  replace hl : lv_has ls 4 [(2, .int 0), (0, .ref h0), (1, .int x)] := hl
  refine lv_iconst (v := 0) hx hb d_T_countBallots_2 (by decide) ?_
  refine lv_istore_n hx hb d_T_countBallots_3 rfl hl (by decide) rfl (fun ls hl => ?_)
  replace hl : lv_has ls 4 [(3, .int 0), (2, .int 0), (0, .ref h0), (1, .int x)] := hl
  refine lv_iload_n hx hb d_T_countBallots_4 rfl (lv_at hl 0 rfl) ?_
  refine lv_iconst (v := 3) hx hb d_T_countBallots_5 (by decide) ?_
  refine lv_icmp_ge (tgt := 43) hx hb d_T_countBallots_6 rfl (fun hc12 => by first | exact absurd hc12 (by decide) | exact absurd (by decide) hc12) (fun hc12 => ?_)
  refine lv_aload_n hx hb d_T_countBallots_9 rfl (lv_at hl 2 rfl) ?_
  refine va_get (D := (dC, dI)) (ci := 0) (v := .ref a9) (C := "VotedTriple") (T := F_T) (N := 11) hx hb hw in_T hown hK hP 0 rfl rfl 1 (by decide) (hw _ k_195) (fun _ h9 => h9) rfl d_T_countBallots_10 ?_
  refine lv_iload_n hx hb d_T_countBallots_13 rfl (lv_at hl 0 rfl) ?_
  refine va_aldq hx hb hK hP 1 0 rfl rfl (by unfold vp_in; decide) d_T_countBallots_14 ?_
  refine W.eq (g2 := F0 m 15 ls [.ref (da 0)]) rfl ?_
  replace hPc := hP.sub (ws' := [(da 0, .inr (2, oD (F 0) (ra 0) (ka 0)))]) [2] rfl
  replace hKc := hK.sub (tys' := []) [] rfl
  refine vp_callSi (va_runV (C := "VotedTriple$VotedModule") (As := []) (rest := []) ⟨hx, hb, hml, hown, hw⟩ (c_D_isTrusted l dC dI (da 0) (ra 0) (ka 0) (F 0)) (cwV 0 hw (gdV (k_583) (k_580) (k_581) (k_582) (k_7)) rfl rfl rfl (by decide +kernel) ⟨Nat.le_of_ble_eq_true rfl, Nat.le_of_ble_eq_true rfl⟩) ⟨fun a U g mk q => ⟨q.1, q.2.1, va_K.moved (u := U) (U := U.calling g mk a) (Vm.Alike.refl U.vm) q.2.2⟩, va_recv hK hP rfl (q0 := 2) rfl, fun U hU hW => ⟨rfl, by rw [hU]; exact hPc, va_K.moved hW.alike hKc⟩⟩ rfl rfl hl.1 rfl (lv_room (Nat.le_of_ble_eq_true rfl)) d_T_countBallots_15 ⟨Nat.le_of_ble_eq_true rfl, Nat.le_of_ble_eq_true rfl⟩).run (fun r13 hr14 => ?_)
  subst hr14
  refine lv_if_eq (tgt := 37) hx hb d_T_countBallots_18 rfl (fun hc15 => ?_) (fun hc15 => ?_)
  · --  (bI (trB (F 0))) = 0
    refine lv_iinc (k := 0) (v := 1) hx hb d_T_countBallots_37 hl rfl rfl (by decide) rfl (fun ls hl => ?_)
    replace hl : lv_has ls 4 [(3, .int 1), (2, .int 0), (0, .ref h0), (1, .int x)] := hl
    refine lv_goto (tgt := 4) hx hb d_T_countBallots_40 rfl ?_
    have hSq : SP = s_T_countBallots_cut4_1 F x 0 := by rw [← hSP, s_T_countBallots]; try (rw [if_pos hc15]); all_goals rfl
    replace hl := lv_sub hl (l' := [(0, .ref h0), (1, .int x), (2, .int 0), (3, .int 1)]) [2, 3, 1, 0] rfl
    exact cut4_1 0 _ hSq hl
  · --  ¬ (bI (trB (F 0))) = 0
    refine lv_aload_n hx hb d_T_countBallots_21 rfl (lv_at hl 2 rfl) ?_
    refine va_get (D := (dC, dI)) (ci := 0) (v := .ref a9) (C := "VotedTriple") (T := F_T) (N := 11) hx hb hw in_T hown hK hP 0 rfl rfl 1 (by decide) (hw _ k_195) (fun _ h9 => h9) rfl d_T_countBallots_22 ?_
    refine lv_iload_n hx hb d_T_countBallots_25 rfl (lv_at hl 0 rfl) ?_
    refine va_aldq hx hb hK hP 1 0 rfl rfl (by unfold vp_in; decide) d_T_countBallots_26 ?_
    refine W.eq (g2 := F0 m 27 ls [.ref (da 0)]) rfl ?_
    refine va_get (D := (dC, dI)) (ci := 2) (v := .int (F 0 18)) (C := "VotedTriple$VotedModule") (T := F_D) (N := 19) hx hb hw in_D hown hK hP 2 rfl rfl 18 (by decide) (hw _ k_161) (fun _ h9 => h9) rfl d_T_countBallots_27 ?_
    refine lv_iload_n hx hb d_T_countBallots_30 rfl (lv_at hl 3 rfl) ?_
    refine lv_icmp_ne (tgt := 37) hx hb d_T_countBallots_31 rfl (fun hc16 => ?_) (fun hc16 => ?_)
    · --  ¬ (F 0 18) = x
      refine lv_iinc (k := 0) (v := 1) hx hb d_T_countBallots_37 hl rfl rfl (by decide) rfl (fun ls hl => ?_)
      replace hl : lv_has ls 4 [(3, .int 1), (2, .int 0), (0, .ref h0), (1, .int x)] := hl
      refine lv_goto (tgt := 4) hx hb d_T_countBallots_40 rfl ?_
      have hSq : SP = s_T_countBallots_cut4_1 F x 0 := by rw [← hSP, s_T_countBallots]; try (rw [if_neg hc15]); try (rw [if_neg hc16]); all_goals rfl
      replace hl := lv_sub hl (l' := [(0, .ref h0), (1, .int x), (2, .int 0), (3, .int 1)]) [2, 3, 1, 0] rfl
      exact cut4_1 0 _ hSq hl
    · --  (F 0 18) = x
      refine lv_iinc (k := 1) (v := 1) hx hb d_T_countBallots_34 hl rfl rfl (by decide) rfl (fun ls hl => ?_)
      replace hl : lv_has ls 4 [(2, .int 1), (3, .int 0), (0, .ref h0), (1, .int x)] := hl
      refine lv_iinc (k := 1) (v := 1) hx hb d_T_countBallots_37 hl rfl rfl (by decide) rfl (fun ls hl => ?_)
      replace hl : lv_has ls 4 [(3, .int 1), (2, .int 1), (0, .ref h0), (1, .int x)] := hl
      refine lv_goto (tgt := 4) hx hb d_T_countBallots_40 rfl ?_
      have hSq : SP = s_T_countBallots_cut4_1 F x 1 := by rw [← hSP, s_T_countBallots]; try (rw [if_neg hc15]); try (rw [if_pos hc16]); all_goals rfl
      replace hl := lv_sub hl (l' := [(0, .ref h0), (1, .int x), (2, .int 1), (3, .int 1)]) [2, 3, 1, 0] rfl
      exact cut4_1 1 _ hSq hl

set_option maxHeartbeats 4000000 in
set_option maxRecDepth 100000 in
theorem c_T_oneOfTheAlikePair (l : Launch) (dC : Nat → ClassId) (dI : Nat → Nat → Nat) (h0 : Nat) (p9 : Nat) (a9 : Nat) (e9 : Nat) (n9 : Nat) (o9 : Nat) (ca : ClassId) (da : Nat → Nat) (ra : Nat → Nat) (ka : Nat → Nat) (uT : Nat → Int32) (F : Nat → Nat → Int32) : Met l y_T_oneOfTheAlikePair (tbw y_T_oneOfTheAlikePair b_T_oneOfTheAlikePair 2 (some .int)) ({ frames := 2, cells := 0, slots := 0, locals := 43 }) (va_Pc [.ref h0] (fun U => va_P (dC, dI) classes [(h0, .inr (0, oT uT p9 a9 e9 n9 o9)), (a9, .inl (ca, 3, .inr (.inr (.inr (.inr (mo da)))))), (da 0, .inr (2, oD (F 0) (ra 0) (ka 0))), (da 1, .inr (2, oD (F 1) (ra 1) (ka 1))), (da 2, .inr (2, oD (F 2) (ra 2) (ka 2)))] U.heap ∧ va_K (dC, dI) classes [(ca, .object "VotedTriple$VotedModule")] U)) (vp_Si (fun r => (i012 r) ∧ r = s_T_oneOfTheAlikePair F)) 0 0 (fun _ => False) := by
  refine Met.ofW (cc := b_T_oneOfTheAlikePair) (maxL := 2) (ret := (some .int)) (by decide) rfl ?_
  intro p e s m args below meth c s₁ B hml hv
  obtain ⟨rfl, hP, hK⟩ := hv
  have hx := B.exec
  have hb := B.bytes
  have hr := B.returns
  have hts := atoms_spec (ws := (tbw y_T_oneOfTheAlikePair b_T_oneOfTheAlikePair 2 (some .int))) B.pre
  have hw : ∀ z9 ∈ tb, z9.before ([.ref h0] : List Value).toArray s = true := fun z9 h => hts z9 (List.mem_cons_of_mem _ h)
  have hown : s.vm.findClass "VotedTriple" = some m.cls := findClass_of_methodNamed B.named
  have hlocks := B.notSynchronized
  replace hl := lv_entry ([.ref h0]) (n := 2) (Nat.le_of_ble_eq_true rfl)
  rw [lg_entry_eq]
  generalize (lg_sl ([.ref h0]) ++ List.replicate (2 - (lg_sl ([.ref h0])).length) Slot.unset).toArray = ls at hl ⊢
  replace hl : lv_has ls 2 [(0, .ref h0)] := hl
  generalize hSP : s_T_oneOfTheAlikePair F = SP
  have cut2_3 : ∀  (ls : Array Slot), SP = s_T_oneOfTheAlikePair_cut2_3 →  lv_has ls 2 [(0, .ref h0), (1, .int 3)] → W p l e (headSpec (tbw y_T_oneOfTheAlikePair b_T_oneOfTheAlikePair 2 (some .int)) ({ frames := 2, cells := 0, slots := 0, locals := 43 })).room s m ([.ref h0] : List Value).toArray below meth c s.heap [] 0 0 (MQ below (vp_Si (fun r => (i012 r) ∧ r = SP)) ([.ref h0] : List Value).toArray s 0 0 (fun _ => False)) (F0 m 2 ls []) := by
    intro ls hSq0 hl
    refine lv_iload_n hx hb d_T_oneOfTheAlikePair_2 rfl (lv_at hl 1 rfl) ?_
    refine lv_iconst (v := 3) hx hb d_T_oneOfTheAlikePair_3 (by decide) ?_
    refine lv_icmp_ge (tgt := 44) hx hb d_T_oneOfTheAlikePair_4 rfl (fun hc1 => ?_) (fun hc1 => by first | exact absurd (by decide) hc1 | exact absurd hc1 (by decide))
    refine lv_iconst (v := (-1)) hx hb d_T_oneOfTheAlikePair_44 (by decide) ?_
    exact W.iret (v := (-1)) hx hb hr (fun t ht _ => ⟨_, rfl, ⟨(Or.inl rfl), (by rw [hSq0, s_T_oneOfTheAlikePair_cut2_3]; all_goals rfl)⟩, ht⟩) (fun _ h => by cases h) d_T_oneOfTheAlikePair_45
  have cut2_2 : ∀  (ls : Array Slot), SP = s_T_oneOfTheAlikePair_cut2_2 F →  lv_has ls 2 [(0, .ref h0), (1, .int 2)] → W p l e (headSpec (tbw y_T_oneOfTheAlikePair b_T_oneOfTheAlikePair 2 (some .int)) ({ frames := 2, cells := 0, slots := 0, locals := 43 })).room s m ([.ref h0] : List Value).toArray below meth c s.heap [] 0 0 (MQ below (vp_Si (fun r => (i012 r) ∧ r = SP)) ([.ref h0] : List Value).toArray s 0 0 (fun _ => False)) (F0 m 2 ls []) := by
    intro ls hSq0 hl
    refine lv_iload_n hx hb d_T_oneOfTheAlikePair_2 rfl (lv_at hl 1 rfl) ?_
    refine lv_iconst (v := 3) hx hb d_T_oneOfTheAlikePair_3 (by decide) ?_
    refine lv_icmp_ge (tgt := 44) hx hb d_T_oneOfTheAlikePair_4 rfl (fun hc2 => by first | exact absurd hc2 (by decide) | exact absurd (by decide) hc2) (fun hc2 => ?_)
    refine lv_aload_n hx hb d_T_oneOfTheAlikePair_7 rfl (lv_at hl 0 rfl) ?_
    refine va_get (D := (dC, dI)) (ci := 0) (v := .ref a9) (C := "VotedTriple") (T := F_T) (N := 11) hx hb hw in_T hown hK hP 0 rfl rfl 1 (by decide) (hw _ k_195) (fun _ h9 => h9) rfl d_T_oneOfTheAlikePair_8 ?_
    refine lv_iload_n hx hb d_T_oneOfTheAlikePair_11 rfl (lv_at hl 1 rfl) ?_
    refine va_aldq hx hb hK hP 1 0 rfl rfl (by unfold vp_in; decide) d_T_oneOfTheAlikePair_12 ?_
    refine W.eq (g2 := F0 m 13 ls [.ref (da 2)]) rfl ?_
    replace hPc := hP.sub (ws' := [(da 2, .inr (2, oD (F 2) (ra 2) (ka 2)))]) [4] rfl
    replace hKc := hK.sub (tys' := []) [] rfl
    refine vp_callSi (va_runV (C := "VotedTriple$VotedModule") (As := []) (rest := []) ⟨hx, hb, hml, hown, hw⟩ (c_D_isTrusted l dC dI (da 2) (ra 2) (ka 2) (F 2)) (cwV 0 hw (gdV (k_583) (k_580) (k_581) (k_582) (k_7)) rfl rfl rfl (by decide +kernel) ⟨Nat.le_of_ble_eq_true rfl, Nat.le_of_ble_eq_true rfl⟩) ⟨fun a U g mk q => ⟨q.1, q.2.1, va_K.moved (u := U) (U := U.calling g mk a) (Vm.Alike.refl U.vm) q.2.2⟩, va_recv hK hP rfl (q0 := 4) rfl, fun U hU hW => ⟨rfl, by rw [hU]; exact hPc, va_K.moved hW.alike hKc⟩⟩ rfl rfl hl.1 rfl (lv_room (Nat.le_of_ble_eq_true rfl)) d_T_oneOfTheAlikePair_13 ⟨Nat.le_of_ble_eq_true rfl, Nat.le_of_ble_eq_true rfl⟩).run (fun r3 hr4 => ?_)
    subst hr4
    refine lv_if_eq (tgt := 38) hx hb d_T_oneOfTheAlikePair_16 rfl (fun hc5 => ?_) (fun hc5 => ?_)
    · --  (bI (trB (F 2))) = 0
      refine lv_iinc (k := 1) (v := 3) hx hb d_T_oneOfTheAlikePair_38 hl rfl rfl (by decide) rfl (fun ls hl => ?_)
      replace hl : lv_has ls 2 [(1, .int 3), (0, .ref h0)] := hl
      refine lv_goto (tgt := 2) hx hb d_T_oneOfTheAlikePair_41 rfl ?_
      have hSq : SP = s_T_oneOfTheAlikePair_cut2_3 := by rw [hSq0, s_T_oneOfTheAlikePair_cut2_2]; try (rw [if_pos hc5]); all_goals rfl
      replace hl := lv_sub hl (l' := [(0, .ref h0), (1, .int 3)]) [1, 0] rfl
      exact cut2_3 _ hSq hl
    · --  ¬ (bI (trB (F 2))) = 0
      refine lv_aload_n hx hb d_T_oneOfTheAlikePair_19 rfl (lv_at hl 0 rfl) ?_
      refine lv_aload_n hx hb d_T_oneOfTheAlikePair_20 rfl (lv_at hl 0 rfl) ?_
      refine va_get (D := (dC, dI)) (ci := 0) (v := .ref a9) (C := "VotedTriple") (T := F_T) (N := 11) hx hb hw in_T hown hK hP 0 rfl rfl 1 (by decide) (hw _ k_195) (fun _ h9 => h9) rfl d_T_oneOfTheAlikePair_21 ?_
      refine lv_iload_n hx hb d_T_oneOfTheAlikePair_24 rfl (lv_at hl 1 rfl) ?_
      refine va_aldq hx hb hK hP 1 0 rfl rfl (by unfold vp_in; decide) d_T_oneOfTheAlikePair_25 ?_
      refine W.eq (g2 := F0 m 26 ls [.ref (da 2), .ref h0]) rfl ?_
      refine va_get (D := (dC, dI)) (ci := 2) (v := .int (F 2 18)) (C := "VotedTriple$VotedModule") (T := F_D) (N := 19) hx hb hw in_D hown hK hP 4 rfl rfl 18 (by decide) (hw _ k_161) (fun _ h9 => h9) rfl d_T_oneOfTheAlikePair_26 ?_
      replace hPc := hP.sub (ws' := [(h0, .inr (0, oT uT p9 a9 e9 n9 o9)), (a9, .inl (ca, 3, .inr (.inr (.inr (.inr (mo da)))))), (da 0, .inr (2, oD (F 0) (ra 0) (ka 0))), (da 1, .inr (2, oD (F 1) (ra 1) (ka 1))), (da 2, .inr (2, oD (F 2) (ra 2) (ka 2)))]) [0, 1, 2, 3, 4] rfl
      replace hKc := hK.sub (tys' := [(ca, .object "VotedTriple$VotedModule")]) [0] rfl
      refine vp_callSi (va_runV (C := "VotedTriple") (As := [.int (F 2 18)]) (rest := []) ⟨hx, hb, hml, hown, hw⟩ (c_T_countBallots l dC dI h0 p9 a9 e9 n9 o9 ca da ra ka uT F (F 2 18)) (cwV 1 hw (gdV (k_591) (k_588) (k_590) (ks_9) (k_1)) rfl rfl rfl (by decide +kernel) ⟨Nat.le_of_ble_eq_true rfl, Nat.le_of_ble_eq_true rfl⟩) ⟨fun a U g mk q => ⟨q.1, q.2.1, va_K.moved (u := U) (U := U.calling g mk a) (Vm.Alike.refl U.vm) q.2.2⟩, va_recv hK hP rfl (q0 := 0) rfl, fun U hU hW => ⟨rfl, by rw [hU]; exact hPc, va_K.moved hW.alike hKc⟩⟩ rfl rfl hl.1 rfl (lv_room (Nat.le_of_ble_eq_true rfl)) d_T_oneOfTheAlikePair_29 ⟨Nat.le_of_ble_eq_true rfl, Nat.le_of_ble_eq_true rfl⟩).run (fun r6 hr7 => ?_)
      obtain ⟨hr7, hr7E⟩ := hr7
      refine lv_iconst (v := 2) hx hb d_T_oneOfTheAlikePair_32 (by decide) ?_
      refine lv_icmp_ne (tgt := 38) hx hb d_T_oneOfTheAlikePair_33 rfl (fun hc8 => ?_) (fun hc8 => ?_)
      · --  ¬ r6 = 2
        refine lv_iinc (k := 1) (v := 3) hx hb d_T_oneOfTheAlikePair_38 hl rfl rfl (by decide) rfl (fun ls hl => ?_)
        replace hl : lv_has ls 2 [(1, .int 3), (0, .ref h0)] := hl
        refine lv_goto (tgt := 2) hx hb d_T_oneOfTheAlikePair_41 rfl ?_
        have hSq : SP = s_T_oneOfTheAlikePair_cut2_3 := by rw [hSq0, s_T_oneOfTheAlikePair_cut2_2]; try (rw [if_neg hc5]); try (rw [← hr7E, bnd_eq]); try (rw [if_neg hc8]); all_goals rfl
        replace hl := lv_sub hl (l' := [(0, .ref h0), (1, .int 3)]) [1, 0] rfl
        exact cut2_3 _ hSq hl
      · --  r6 = 2
        refine lv_iload_n hx hb d_T_oneOfTheAlikePair_36 rfl (lv_at hl 1 rfl) ?_
        exact W.iret (v := 2) hx hb hr (fun t ht _ => ⟨_, rfl, ⟨(Or.inr (Or.inr (Or.inr rfl))), (by rw [hSq0, s_T_oneOfTheAlikePair_cut2_2]; try (rw [if_neg hc5]); try (rw [← hr7E, bnd_eq]); try (rw [if_pos hc8]); all_goals rfl)⟩, ht⟩) (fun _ h => by cases h) d_T_oneOfTheAlikePair_37
  have cut2_1 : ∀  (ls : Array Slot), SP = s_T_oneOfTheAlikePair_cut2_1 F →  lv_has ls 2 [(0, .ref h0), (1, .int 1)] → W p l e (headSpec (tbw y_T_oneOfTheAlikePair b_T_oneOfTheAlikePair 2 (some .int)) ({ frames := 2, cells := 0, slots := 0, locals := 43 })).room s m ([.ref h0] : List Value).toArray below meth c s.heap [] 0 0 (MQ below (vp_Si (fun r => (i012 r) ∧ r = SP)) ([.ref h0] : List Value).toArray s 0 0 (fun _ => False)) (F0 m 2 ls []) := by
    intro ls hSq0 hl
    clear cut2_3
    refine lv_iload_n hx hb d_T_oneOfTheAlikePair_2 rfl (lv_at hl 1 rfl) ?_
    refine lv_iconst (v := 3) hx hb d_T_oneOfTheAlikePair_3 (by decide) ?_
    refine lv_icmp_ge (tgt := 44) hx hb d_T_oneOfTheAlikePair_4 rfl (fun hc9 => by first | exact absurd hc9 (by decide) | exact absurd (by decide) hc9) (fun hc9 => ?_)
    refine lv_aload_n hx hb d_T_oneOfTheAlikePair_7 rfl (lv_at hl 0 rfl) ?_
    refine va_get (D := (dC, dI)) (ci := 0) (v := .ref a9) (C := "VotedTriple") (T := F_T) (N := 11) hx hb hw in_T hown hK hP 0 rfl rfl 1 (by decide) (hw _ k_195) (fun _ h9 => h9) rfl d_T_oneOfTheAlikePair_8 ?_
    refine lv_iload_n hx hb d_T_oneOfTheAlikePair_11 rfl (lv_at hl 1 rfl) ?_
    refine va_aldq hx hb hK hP 1 0 rfl rfl (by unfold vp_in; decide) d_T_oneOfTheAlikePair_12 ?_
    refine W.eq (g2 := F0 m 13 ls [.ref (da 1)]) rfl ?_
    replace hPc := hP.sub (ws' := [(da 1, .inr (2, oD (F 1) (ra 1) (ka 1)))]) [3] rfl
    replace hKc := hK.sub (tys' := []) [] rfl
    refine vp_callSi (va_runV (C := "VotedTriple$VotedModule") (As := []) (rest := []) ⟨hx, hb, hml, hown, hw⟩ (c_D_isTrusted l dC dI (da 1) (ra 1) (ka 1) (F 1)) (cwV 0 hw (gdV (k_583) (k_580) (k_581) (k_582) (k_7)) rfl rfl rfl (by decide +kernel) ⟨Nat.le_of_ble_eq_true rfl, Nat.le_of_ble_eq_true rfl⟩) ⟨fun a U g mk q => ⟨q.1, q.2.1, va_K.moved (u := U) (U := U.calling g mk a) (Vm.Alike.refl U.vm) q.2.2⟩, va_recv hK hP rfl (q0 := 3) rfl, fun U hU hW => ⟨rfl, by rw [hU]; exact hPc, va_K.moved hW.alike hKc⟩⟩ rfl rfl hl.1 rfl (lv_room (Nat.le_of_ble_eq_true rfl)) d_T_oneOfTheAlikePair_13 ⟨Nat.le_of_ble_eq_true rfl, Nat.le_of_ble_eq_true rfl⟩).run (fun r10 hr11 => ?_)
    subst hr11
    refine lv_if_eq (tgt := 38) hx hb d_T_oneOfTheAlikePair_16 rfl (fun hc12 => ?_) (fun hc12 => ?_)
    · --  (bI (trB (F 1))) = 0
      refine lv_iinc (k := 1) (v := 2) hx hb d_T_oneOfTheAlikePair_38 hl rfl rfl (by decide) rfl (fun ls hl => ?_)
      replace hl : lv_has ls 2 [(1, .int 2), (0, .ref h0)] := hl
      refine lv_goto (tgt := 2) hx hb d_T_oneOfTheAlikePair_41 rfl ?_
      have hSq : SP = s_T_oneOfTheAlikePair_cut2_2 F := by rw [hSq0, s_T_oneOfTheAlikePair_cut2_1]; try (rw [if_pos hc12]); all_goals rfl
      replace hl := lv_sub hl (l' := [(0, .ref h0), (1, .int 2)]) [1, 0] rfl
      exact cut2_2 _ hSq hl
    · --  ¬ (bI (trB (F 1))) = 0
      refine lv_aload_n hx hb d_T_oneOfTheAlikePair_19 rfl (lv_at hl 0 rfl) ?_
      refine lv_aload_n hx hb d_T_oneOfTheAlikePair_20 rfl (lv_at hl 0 rfl) ?_
      refine va_get (D := (dC, dI)) (ci := 0) (v := .ref a9) (C := "VotedTriple") (T := F_T) (N := 11) hx hb hw in_T hown hK hP 0 rfl rfl 1 (by decide) (hw _ k_195) (fun _ h9 => h9) rfl d_T_oneOfTheAlikePair_21 ?_
      refine lv_iload_n hx hb d_T_oneOfTheAlikePair_24 rfl (lv_at hl 1 rfl) ?_
      refine va_aldq hx hb hK hP 1 0 rfl rfl (by unfold vp_in; decide) d_T_oneOfTheAlikePair_25 ?_
      refine W.eq (g2 := F0 m 26 ls [.ref (da 1), .ref h0]) rfl ?_
      refine va_get (D := (dC, dI)) (ci := 2) (v := .int (F 1 18)) (C := "VotedTriple$VotedModule") (T := F_D) (N := 19) hx hb hw in_D hown hK hP 3 rfl rfl 18 (by decide) (hw _ k_161) (fun _ h9 => h9) rfl d_T_oneOfTheAlikePair_26 ?_
      replace hPc := hP.sub (ws' := [(h0, .inr (0, oT uT p9 a9 e9 n9 o9)), (a9, .inl (ca, 3, .inr (.inr (.inr (.inr (mo da)))))), (da 0, .inr (2, oD (F 0) (ra 0) (ka 0))), (da 1, .inr (2, oD (F 1) (ra 1) (ka 1))), (da 2, .inr (2, oD (F 2) (ra 2) (ka 2)))]) [0, 1, 2, 3, 4] rfl
      replace hKc := hK.sub (tys' := [(ca, .object "VotedTriple$VotedModule")]) [0] rfl
      refine vp_callSi (va_runV (C := "VotedTriple") (As := [.int (F 1 18)]) (rest := []) ⟨hx, hb, hml, hown, hw⟩ (c_T_countBallots l dC dI h0 p9 a9 e9 n9 o9 ca da ra ka uT F (F 1 18)) (cwV 1 hw (gdV (k_591) (k_588) (k_590) (ks_9) (k_1)) rfl rfl rfl (by decide +kernel) ⟨Nat.le_of_ble_eq_true rfl, Nat.le_of_ble_eq_true rfl⟩) ⟨fun a U g mk q => ⟨q.1, q.2.1, va_K.moved (u := U) (U := U.calling g mk a) (Vm.Alike.refl U.vm) q.2.2⟩, va_recv hK hP rfl (q0 := 0) rfl, fun U hU hW => ⟨rfl, by rw [hU]; exact hPc, va_K.moved hW.alike hKc⟩⟩ rfl rfl hl.1 rfl (lv_room (Nat.le_of_ble_eq_true rfl)) d_T_oneOfTheAlikePair_29 ⟨Nat.le_of_ble_eq_true rfl, Nat.le_of_ble_eq_true rfl⟩).run (fun r13 hr14 => ?_)
      obtain ⟨hr14, hr14E⟩ := hr14
      refine lv_iconst (v := 2) hx hb d_T_oneOfTheAlikePair_32 (by decide) ?_
      refine lv_icmp_ne (tgt := 38) hx hb d_T_oneOfTheAlikePair_33 rfl (fun hc15 => ?_) (fun hc15 => ?_)
      · --  ¬ r13 = 2
        refine lv_iinc (k := 1) (v := 2) hx hb d_T_oneOfTheAlikePair_38 hl rfl rfl (by decide) rfl (fun ls hl => ?_)
        replace hl : lv_has ls 2 [(1, .int 2), (0, .ref h0)] := hl
        refine lv_goto (tgt := 2) hx hb d_T_oneOfTheAlikePair_41 rfl ?_
        have hSq : SP = s_T_oneOfTheAlikePair_cut2_2 F := by rw [hSq0, s_T_oneOfTheAlikePair_cut2_1]; try (rw [if_neg hc12]); try (rw [← hr14E, bnd_eq]); try (rw [if_neg hc15]); all_goals rfl
        replace hl := lv_sub hl (l' := [(0, .ref h0), (1, .int 2)]) [1, 0] rfl
        exact cut2_2 _ hSq hl
      · --  r13 = 2
        refine lv_iload_n hx hb d_T_oneOfTheAlikePair_36 rfl (lv_at hl 1 rfl) ?_
        exact W.iret (v := 1) hx hb hr (fun t ht _ => ⟨_, rfl, ⟨(Or.inr (Or.inr (Or.inl rfl))), (by rw [hSq0, s_T_oneOfTheAlikePair_cut2_1]; try (rw [if_neg hc12]); try (rw [← hr14E, bnd_eq]); try (rw [if_pos hc15]); all_goals rfl)⟩, ht⟩) (fun _ h => by cases h) d_T_oneOfTheAlikePair_37
  clear cut2_3 cut2_2
  refine lv_iconst (v := 0) hx hb d_T_oneOfTheAlikePair_0 (by decide) ?_
  refine lv_istore_n hx hb d_T_oneOfTheAlikePair_1 rfl hl (by decide) rfl (fun ls hl => ?_)
  replace hl : lv_has ls 2 [(1, .int 0), (0, .ref h0)] := hl
  refine lv_iload_n hx hb d_T_oneOfTheAlikePair_2 rfl (lv_at hl 0 rfl) ?_
  refine lv_iconst (v := 3) hx hb d_T_oneOfTheAlikePair_3 (by decide) ?_
  refine lv_icmp_ge (tgt := 44) hx hb d_T_oneOfTheAlikePair_4 rfl (fun hc16 => by first | exact absurd hc16 (by decide) | exact absurd (by decide) hc16) (fun hc16 => ?_)
  refine lv_aload_n hx hb d_T_oneOfTheAlikePair_7 rfl (lv_at hl 1 rfl) ?_
  refine va_get (D := (dC, dI)) (ci := 0) (v := .ref a9) (C := "VotedTriple") (T := F_T) (N := 11) hx hb hw in_T hown hK hP 0 rfl rfl 1 (by decide) (hw _ k_195) (fun _ h9 => h9) rfl d_T_oneOfTheAlikePair_8 ?_
  refine lv_iload_n hx hb d_T_oneOfTheAlikePair_11 rfl (lv_at hl 0 rfl) ?_
  refine va_aldq hx hb hK hP 1 0 rfl rfl (by unfold vp_in; decide) d_T_oneOfTheAlikePair_12 ?_
  refine W.eq (g2 := F0 m 13 ls [.ref (da 0)]) rfl ?_
  replace hPc := hP.sub (ws' := [(da 0, .inr (2, oD (F 0) (ra 0) (ka 0)))]) [2] rfl
  replace hKc := hK.sub (tys' := []) [] rfl
  refine vp_callSi (va_runV (C := "VotedTriple$VotedModule") (As := []) (rest := []) ⟨hx, hb, hml, hown, hw⟩ (c_D_isTrusted l dC dI (da 0) (ra 0) (ka 0) (F 0)) (cwV 0 hw (gdV (k_583) (k_580) (k_581) (k_582) (k_7)) rfl rfl rfl (by decide +kernel) ⟨Nat.le_of_ble_eq_true rfl, Nat.le_of_ble_eq_true rfl⟩) ⟨fun a U g mk q => ⟨q.1, q.2.1, va_K.moved (u := U) (U := U.calling g mk a) (Vm.Alike.refl U.vm) q.2.2⟩, va_recv hK hP rfl (q0 := 2) rfl, fun U hU hW => ⟨rfl, by rw [hU]; exact hPc, va_K.moved hW.alike hKc⟩⟩ rfl rfl hl.1 rfl (lv_room (Nat.le_of_ble_eq_true rfl)) d_T_oneOfTheAlikePair_13 ⟨Nat.le_of_ble_eq_true rfl, Nat.le_of_ble_eq_true rfl⟩).run (fun r17 hr18 => ?_)
  subst hr18
  refine lv_if_eq (tgt := 38) hx hb d_T_oneOfTheAlikePair_16 rfl (fun hc19 => ?_) (fun hc19 => ?_)
  · --  (bI (trB (F 0))) = 0
    refine lv_iinc (k := 0) (v := 1) hx hb d_T_oneOfTheAlikePair_38 hl rfl rfl (by decide) rfl (fun ls hl => ?_)
    replace hl : lv_has ls 2 [(1, .int 1), (0, .ref h0)] := hl
    refine lv_goto (tgt := 2) hx hb d_T_oneOfTheAlikePair_41 rfl ?_
    have hSq : SP = s_T_oneOfTheAlikePair_cut2_1 F := by rw [← hSP, s_T_oneOfTheAlikePair]; try (rw [if_pos hc19]); all_goals rfl
    replace hl := lv_sub hl (l' := [(0, .ref h0), (1, .int 1)]) [1, 0] rfl
    exact cut2_1 _ hSq hl
  · --  ¬ (bI (trB (F 0))) = 0
    refine lv_aload_n hx hb d_T_oneOfTheAlikePair_19 rfl (lv_at hl 1 rfl) ?_
    refine lv_aload_n hx hb d_T_oneOfTheAlikePair_20 rfl (lv_at hl 1 rfl) ?_
    refine va_get (D := (dC, dI)) (ci := 0) (v := .ref a9) (C := "VotedTriple") (T := F_T) (N := 11) hx hb hw in_T hown hK hP 0 rfl rfl 1 (by decide) (hw _ k_195) (fun _ h9 => h9) rfl d_T_oneOfTheAlikePair_21 ?_
    refine lv_iload_n hx hb d_T_oneOfTheAlikePair_24 rfl (lv_at hl 0 rfl) ?_
    refine va_aldq hx hb hK hP 1 0 rfl rfl (by unfold vp_in; decide) d_T_oneOfTheAlikePair_25 ?_
    refine W.eq (g2 := F0 m 26 ls [.ref (da 0), .ref h0]) rfl ?_
    refine va_get (D := (dC, dI)) (ci := 2) (v := .int (F 0 18)) (C := "VotedTriple$VotedModule") (T := F_D) (N := 19) hx hb hw in_D hown hK hP 2 rfl rfl 18 (by decide) (hw _ k_161) (fun _ h9 => h9) rfl d_T_oneOfTheAlikePair_26 ?_
    replace hPc := hP.sub (ws' := [(h0, .inr (0, oT uT p9 a9 e9 n9 o9)), (a9, .inl (ca, 3, .inr (.inr (.inr (.inr (mo da)))))), (da 0, .inr (2, oD (F 0) (ra 0) (ka 0))), (da 1, .inr (2, oD (F 1) (ra 1) (ka 1))), (da 2, .inr (2, oD (F 2) (ra 2) (ka 2)))]) [0, 1, 2, 3, 4] rfl
    replace hKc := hK.sub (tys' := [(ca, .object "VotedTriple$VotedModule")]) [0] rfl
    refine vp_callSi (va_runV (C := "VotedTriple") (As := [.int (F 0 18)]) (rest := []) ⟨hx, hb, hml, hown, hw⟩ (c_T_countBallots l dC dI h0 p9 a9 e9 n9 o9 ca da ra ka uT F (F 0 18)) (cwV 1 hw (gdV (k_591) (k_588) (k_590) (ks_9) (k_1)) rfl rfl rfl (by decide +kernel) ⟨Nat.le_of_ble_eq_true rfl, Nat.le_of_ble_eq_true rfl⟩) ⟨fun a U g mk q => ⟨q.1, q.2.1, va_K.moved (u := U) (U := U.calling g mk a) (Vm.Alike.refl U.vm) q.2.2⟩, va_recv hK hP rfl (q0 := 0) rfl, fun U hU hW => ⟨rfl, by rw [hU]; exact hPc, va_K.moved hW.alike hKc⟩⟩ rfl rfl hl.1 rfl (lv_room (Nat.le_of_ble_eq_true rfl)) d_T_oneOfTheAlikePair_29 ⟨Nat.le_of_ble_eq_true rfl, Nat.le_of_ble_eq_true rfl⟩).run (fun r20 hr21 => ?_)
    obtain ⟨hr21, hr21E⟩ := hr21
    refine lv_iconst (v := 2) hx hb d_T_oneOfTheAlikePair_32 (by decide) ?_
    refine lv_icmp_ne (tgt := 38) hx hb d_T_oneOfTheAlikePair_33 rfl (fun hc22 => ?_) (fun hc22 => ?_)
    · --  ¬ r20 = 2
      refine lv_iinc (k := 0) (v := 1) hx hb d_T_oneOfTheAlikePair_38 hl rfl rfl (by decide) rfl (fun ls hl => ?_)
      replace hl : lv_has ls 2 [(1, .int 1), (0, .ref h0)] := hl
      refine lv_goto (tgt := 2) hx hb d_T_oneOfTheAlikePair_41 rfl ?_
      have hSq : SP = s_T_oneOfTheAlikePair_cut2_1 F := by rw [← hSP, s_T_oneOfTheAlikePair]; try (rw [if_neg hc19]); try (rw [← hr21E, bnd_eq]); try (rw [if_neg hc22]); all_goals rfl
      replace hl := lv_sub hl (l' := [(0, .ref h0), (1, .int 1)]) [1, 0] rfl
      exact cut2_1 _ hSq hl
    · --  r20 = 2
      refine lv_iload_n hx hb d_T_oneOfTheAlikePair_36 rfl (lv_at hl 0 rfl) ?_
      exact W.iret (v := 0) hx hb hr (fun t ht _ => ⟨_, rfl, ⟨(Or.inr (Or.inl rfl)), (by rw [← hSP, s_T_oneOfTheAlikePair]; try (rw [if_neg hc19]); try (rw [← hr21E, bnd_eq]); try (rw [if_pos hc22]); all_goals rfl)⟩, ht⟩) (fun _ h => by cases h) d_T_oneOfTheAlikePair_37

set_option maxHeartbeats 4000000 in
set_option maxRecDepth 100000 in
theorem c_T_soundOneOfTwo (l : Launch) (dC : Nat → ClassId) (dI : Nat → Nat → Nat) (h0 : Nat) (p9 : Nat) (a9 : Nat) (e9 : Nat) (n9 : Nat) (o9 : Nat) (ca : ClassId) (da : Nat → Nat) (ra : Nat → Nat) (ka : Nat → Nat) (uT : Nat → Int32) (F : Nat → Nat → Int32) : Met l y_T_soundOneOfTwo (tbw y_T_soundOneOfTwo b_T_soundOneOfTwo 4 (some .int)) ({ frames := 2, cells := 0, slots := 0, locals := 42 }) (va_Pc [.ref h0] (fun U => va_P (dC, dI) classes [(h0, .inr (0, oT uT p9 a9 e9 n9 o9)), (a9, .inl (ca, 3, .inr (.inr (.inr (.inr (mo da)))))), (da 0, .inr (2, oD (F 0) (ra 0) (ka 0))), (da 1, .inr (2, oD (F 1) (ra 1) (ka 1))), (da 2, .inr (2, oD (F 2) (ra 2) (ka 2)))] U.heap ∧ va_K (dC, dI) classes [(ca, .object "VotedTriple$VotedModule")] U)) (vp_Si (fun r => (i012 r) ∧ r = s_T_soundOneOfTwo F)) 0 0 (fun _ => False) := by
  refine Met.ofW (cc := b_T_soundOneOfTwo) (maxL := 4) (ret := (some .int)) (by decide) rfl ?_
  intro p e s m args below meth c s₁ B hml hv
  obtain ⟨rfl, hP, hK⟩ := hv
  have hx := B.exec
  have hb := B.bytes
  have hr := B.returns
  have hts := atoms_spec (ws := (tbw y_T_soundOneOfTwo b_T_soundOneOfTwo 4 (some .int))) B.pre
  have hw : ∀ z9 ∈ tb, z9.before ([.ref h0] : List Value).toArray s = true := fun z9 h => hts z9 (List.mem_cons_of_mem _ h)
  have hown : s.vm.findClass "VotedTriple" = some m.cls := findClass_of_methodNamed B.named
  have hlocks := B.notSynchronized
  replace hl := lv_entry ([.ref h0]) (n := 4) (Nat.le_of_ble_eq_true rfl)
  rw [lg_entry_eq]
  generalize (lg_sl ([.ref h0]) ++ List.replicate (4 - (lg_sl ([.ref h0])).length) Slot.unset).toArray = ls at hl ⊢
  replace hl : lv_has ls 4 [(0, .ref h0)] := hl
  generalize hSP : s_T_soundOneOfTwo F = SP
  have cut6_3 : ∀ (w1 : Int32) (w2 : Int32) (ls : Array Slot), i012 w1 → SP = s_T_soundOneOfTwo_cut6_3 F w1 w2 →  lv_has ls 4 [(0, .ref h0), (1, .int w1), (2, .int w2), (3, .int 3)] → W p l e (headSpec (tbw y_T_soundOneOfTwo b_T_soundOneOfTwo 4 (some .int)) ({ frames := 2, cells := 0, slots := 0, locals := 42 })).room s m ([.ref h0] : List Value).toArray below meth c s.heap [] 0 0 (MQ below (vp_Si (fun r => (i012 r) ∧ r = SP)) ([.ref h0] : List Value).toArray s 0 0 (fun _ => False)) (F0 m 6 ls []) := by
    intro w1 w2 ls h19 hSq0 hl
    refine lv_iload_n hx hb d_T_soundOneOfTwo_6 rfl (lv_at hl 3 rfl) ?_
    refine lv_iconst (v := 3) hx hb d_T_soundOneOfTwo_7 (by decide) ?_
    refine lv_icmp_ge (tgt := 46) hx hb d_T_soundOneOfTwo_8 rfl (fun hc1 => ?_) (fun hc1 => by first | exact absurd (by decide) hc1 | exact absurd hc1 (by decide))
    refine lv_iload_n hx hb d_T_soundOneOfTwo_46 rfl (lv_at hl 2 rfl) ?_
    refine lv_iconst (v := 1) hx hb d_T_soundOneOfTwo_47 (by decide) ?_
    refine lv_icmp_ne (tgt := 63) hx hb d_T_soundOneOfTwo_48 rfl (fun hc2 => ?_) (fun hc2 => ?_)
    · --  ¬ w2 = 1
      refine lv_iconst (v := (-1)) hx hb d_T_soundOneOfTwo_63 (by decide) ?_
      exact W.iret (v := (-1)) hx hb hr (fun t ht _ => ⟨_, rfl, ⟨(Or.inl rfl), (by rw [hSq0, s_T_soundOneOfTwo_cut6_3]; try (rw [if_neg hc2]); all_goals rfl)⟩, ht⟩) (fun _ h => by cases h) d_T_soundOneOfTwo_64
    · --  w2 = 1
      refine lv_aload_n hx hb d_T_soundOneOfTwo_51 rfl (lv_at hl 0 rfl) ?_
      replace hPc := hP.sub (ws' := [(h0, .inr (0, oT uT p9 a9 e9 n9 o9)), (a9, .inl (ca, 3, .inr (.inr (.inr (.inr (mo da)))))), (da 0, .inr (2, oD (F 0) (ra 0) (ka 0))), (da 1, .inr (2, oD (F 1) (ra 1) (ka 1))), (da 2, .inr (2, oD (F 2) (ra 2) (ka 2)))]) [0, 1, 2, 3, 4] rfl
      replace hKc := hK.sub (tys' := [(ca, .object "VotedTriple$VotedModule")]) [0] rfl
      refine vp_callSi (va_runV (C := "VotedTriple") (As := []) (rest := []) ⟨hx, hb, hml, hown, hw⟩ (c_T_countTrusted l dC dI h0 p9 a9 e9 n9 o9 ca da ra ka uT F) (cwV 0 hw (gdV (k_595) (k_592) (k_594) (ks_10) (k_1)) rfl rfl rfl (by decide +kernel) ⟨Nat.le_of_ble_eq_true rfl, Nat.le_of_ble_eq_true rfl⟩) ⟨fun a U g mk q => ⟨q.1, q.2.1, va_K.moved (u := U) (U := U.calling g mk a) (Vm.Alike.refl U.vm) q.2.2⟩, va_recv hK hP rfl (q0 := 0) rfl, fun U hU hW => ⟨rfl, by rw [hU]; exact hPc, va_K.moved hW.alike hKc⟩⟩ rfl rfl hl.1 rfl (lv_room (Nat.le_of_ble_eq_true rfl)) d_T_soundOneOfTwo_52 ⟨Nat.le_of_ble_eq_true rfl, Nat.le_of_ble_eq_true rfl⟩).run (fun r3 hr4 => ?_)
      obtain ⟨hr4, hr4E⟩ := hr4
      refine lv_iconst (v := 2) hx hb d_T_soundOneOfTwo_55 (by decide) ?_
      refine lv_icmp_ne (tgt := 63) hx hb d_T_soundOneOfTwo_56 rfl (fun hc5 => ?_) (fun hc5 => ?_)
      · --  ¬ r3 = 2
        refine lv_iconst (v := (-1)) hx hb d_T_soundOneOfTwo_63 (by decide) ?_
        exact W.iret (v := (-1)) hx hb hr (fun t ht _ => ⟨_, rfl, ⟨(Or.inl rfl), (by rw [hSq0, s_T_soundOneOfTwo_cut6_3]; try (rw [if_pos hc2]); try (rw [← hr4E, bnd_eq]); try (rw [if_neg hc5]); all_goals rfl)⟩, ht⟩) (fun _ h => by cases h) d_T_soundOneOfTwo_64
      · --  r3 = 2
        refine lv_iload_n hx hb d_T_soundOneOfTwo_59 rfl (lv_at hl 1 rfl) ?_
        refine lv_goto (tgt := 64) hx hb d_T_soundOneOfTwo_60 rfl ?_
        exact W.iret (v := w1) hx hb hr (fun t ht _ => ⟨_, rfl, ⟨h19, (by rw [hSq0, s_T_soundOneOfTwo_cut6_3]; try (rw [if_pos hc2]); try (rw [← hr4E, bnd_eq]); try (rw [if_pos hc5]); all_goals rfl)⟩, ht⟩) (fun _ h => by cases h) d_T_soundOneOfTwo_64
  have cut6_2 : ∀ (w1 : Int32) (w2 : Int32) (ls : Array Slot), i012 w1 → SP = s_T_soundOneOfTwo_cut6_2 F w1 w2 →  lv_has ls 4 [(0, .ref h0), (1, .int w1), (2, .int w2), (3, .int 2)] → W p l e (headSpec (tbw y_T_soundOneOfTwo b_T_soundOneOfTwo 4 (some .int)) ({ frames := 2, cells := 0, slots := 0, locals := 42 })).room s m ([.ref h0] : List Value).toArray below meth c s.heap [] 0 0 (MQ below (vp_Si (fun r => (i012 r) ∧ r = SP)) ([.ref h0] : List Value).toArray s 0 0 (fun _ => False)) (F0 m 6 ls []) := by
    intro w1 w2 ls h19 hSq0 hl
    refine lv_iload_n hx hb d_T_soundOneOfTwo_6 rfl (lv_at hl 3 rfl) ?_
    refine lv_iconst (v := 3) hx hb d_T_soundOneOfTwo_7 (by decide) ?_
    refine lv_icmp_ge (tgt := 46) hx hb d_T_soundOneOfTwo_8 rfl (fun hc6 => by first | exact absurd hc6 (by decide) | exact absurd (by decide) hc6) (fun hc6 => ?_)
    refine lv_aload_n hx hb d_T_soundOneOfTwo_11 rfl (lv_at hl 0 rfl) ?_
    refine va_get (D := (dC, dI)) (ci := 0) (v := .ref a9) (C := "VotedTriple") (T := F_T) (N := 11) hx hb hw in_T hown hK hP 0 rfl rfl 1 (by decide) (hw _ k_195) (fun _ h9 => h9) rfl d_T_soundOneOfTwo_12 ?_
    refine lv_iload_n hx hb d_T_soundOneOfTwo_15 rfl (lv_at hl 3 rfl) ?_
    refine va_aldq hx hb hK hP 1 0 rfl rfl (by unfold vp_in; decide) d_T_soundOneOfTwo_16 ?_
    refine W.eq (g2 := F0 m 17 ls [.ref (da 2)]) rfl ?_
    replace hPc := hP.sub (ws' := [(da 2, .inr (2, oD (F 2) (ra 2) (ka 2)))]) [4] rfl
    replace hKc := hK.sub (tys' := []) [] rfl
    refine vp_callSi (va_runV (C := "VotedTriple$VotedModule") (As := []) (rest := []) ⟨hx, hb, hml, hown, hw⟩ (c_D_isTrusted l dC dI (da 2) (ra 2) (ka 2) (F 2)) (cwV 0 hw (gdV (k_583) (k_580) (k_581) (k_582) (k_7)) rfl rfl rfl (by decide +kernel) ⟨Nat.le_of_ble_eq_true rfl, Nat.le_of_ble_eq_true rfl⟩) ⟨fun a U g mk q => ⟨q.1, q.2.1, va_K.moved (u := U) (U := U.calling g mk a) (Vm.Alike.refl U.vm) q.2.2⟩, va_recv hK hP rfl (q0 := 4) rfl, fun U hU hW => ⟨rfl, by rw [hU]; exact hPc, va_K.moved hW.alike hKc⟩⟩ rfl rfl hl.1 rfl (lv_room (Nat.le_of_ble_eq_true rfl)) d_T_soundOneOfTwo_17 ⟨Nat.le_of_ble_eq_true rfl, Nat.le_of_ble_eq_true rfl⟩).run (fun r7 hr8 => ?_)
    subst hr8
    refine lv_if_eq (tgt := 40) hx hb d_T_soundOneOfTwo_20 rfl (fun hc9 => ?_) (fun hc9 => ?_)
    · --  (bI (trB (F 2))) = 0
      refine lv_iinc (k := 3) (v := 3) hx hb d_T_soundOneOfTwo_40 hl rfl rfl (by decide) rfl (fun ls hl => ?_)
      replace hl : lv_has ls 4 [(3, .int 3), (0, .ref h0), (1, .int w1), (2, .int w2)] := hl
      refine lv_goto (tgt := 6) hx hb d_T_soundOneOfTwo_43 rfl ?_
      have hSq : SP = s_T_soundOneOfTwo_cut6_3 F w1 w2 := by rw [hSq0, s_T_soundOneOfTwo_cut6_2]; try (rw [if_pos hc9]); all_goals rfl
      replace hl := lv_sub hl (l' := [(0, .ref h0), (1, .int w1), (2, .int w2), (3, .int 3)]) [1, 2, 3, 0] rfl
      exact cut6_3 w1 w2 _ h19 hSq hl
    · --  ¬ (bI (trB (F 2))) = 0
      refine lv_aload_n hx hb d_T_soundOneOfTwo_23 rfl (lv_at hl 0 rfl) ?_
      refine va_get (D := (dC, dI)) (ci := 0) (v := .ref a9) (C := "VotedTriple") (T := F_T) (N := 11) hx hb hw in_T hown hK hP 0 rfl rfl 1 (by decide) (hw _ k_195) (fun _ h9 => h9) rfl d_T_soundOneOfTwo_24 ?_
      refine lv_iload_n hx hb d_T_soundOneOfTwo_27 rfl (lv_at hl 3 rfl) ?_
      refine va_aldq hx hb hK hP 1 0 rfl rfl (by unfold vp_in; decide) d_T_soundOneOfTwo_28 ?_
      refine W.eq (g2 := F0 m 29 ls [.ref (da 2)]) rfl ?_
      refine va_get (D := (dC, dI)) (ci := 2) (v := .int (F 2 16)) (C := "VotedTriple$VotedModule") (T := F_D) (N := 19) hx hb hw in_D hown hK hP 4 rfl rfl 16 (by decide) (hw _ k_159) (fun _ h9 => h9) rfl d_T_soundOneOfTwo_29 ?_
      refine lv_if_ne (tgt := 40) hx hb d_T_soundOneOfTwo_32 rfl (fun hc10 => ?_) (fun hc10 => ?_)
      · --  ¬ (F 2 16) = 0
        refine lv_iinc (k := 3) (v := 3) hx hb d_T_soundOneOfTwo_40 hl rfl rfl (by decide) rfl (fun ls hl => ?_)
        replace hl : lv_has ls 4 [(3, .int 3), (0, .ref h0), (1, .int w1), (2, .int w2)] := hl
        refine lv_goto (tgt := 6) hx hb d_T_soundOneOfTwo_43 rfl ?_
        have hSq : SP = s_T_soundOneOfTwo_cut6_3 F w1 w2 := by rw [hSq0, s_T_soundOneOfTwo_cut6_2]; try (rw [if_neg hc9]); try (rw [if_neg hc10]); all_goals rfl
        replace hl := lv_sub hl (l' := [(0, .ref h0), (1, .int w1), (2, .int w2), (3, .int 3)]) [1, 2, 3, 0] rfl
        exact cut6_3 w1 w2 _ h19 hSq hl
      · --  (F 2 16) = 0
        refine lv_iload_n hx hb d_T_soundOneOfTwo_35 rfl (lv_at hl 3 rfl) ?_
        refine lv_istore_n hx hb d_T_soundOneOfTwo_36 rfl hl (by decide) rfl (fun ls hl => ?_)
        replace hl : lv_has ls 4 [(1, .int 2), (0, .ref h0), (2, .int w2), (3, .int 2)] := hl
        refine lv_iinc (k := 2) (v := w2 + 1) hx hb d_T_soundOneOfTwo_37 hl rfl rfl (by decide) rfl (fun ls hl => ?_)
        replace hl : lv_has ls 4 [(2, .int (w2 + 1)), (1, .int 2), (0, .ref h0), (3, .int 2)] := hl
        refine lv_iinc (k := 3) (v := 3) hx hb d_T_soundOneOfTwo_40 hl rfl rfl (by decide) rfl (fun ls hl => ?_)
        replace hl : lv_has ls 4 [(3, .int 3), (2, .int (w2 + 1)), (1, .int 2), (0, .ref h0)] := hl
        refine lv_goto (tgt := 6) hx hb d_T_soundOneOfTwo_43 rfl ?_
        have hSq : SP = s_T_soundOneOfTwo_cut6_3 F 2 (w2 + 1) := by rw [hSq0, s_T_soundOneOfTwo_cut6_2]; try (rw [if_neg hc9]); try (rw [if_pos hc10]); all_goals rfl
        replace hl := lv_sub hl (l' := [(0, .ref h0), (1, .int 2), (2, .int (w2 + 1)), (3, .int 3)]) [3, 2, 1, 0] rfl
        exact cut6_3 2 (w2 + 1) _ (Or.inr (Or.inr (Or.inr rfl))) hSq hl
  have cut6_1 : ∀ (w1 : Int32) (w2 : Int32) (ls : Array Slot), i012 w1 → SP = s_T_soundOneOfTwo_cut6_1 F w1 w2 →  lv_has ls 4 [(0, .ref h0), (1, .int w1), (2, .int w2), (3, .int 1)] → W p l e (headSpec (tbw y_T_soundOneOfTwo b_T_soundOneOfTwo 4 (some .int)) ({ frames := 2, cells := 0, slots := 0, locals := 42 })).room s m ([.ref h0] : List Value).toArray below meth c s.heap [] 0 0 (MQ below (vp_Si (fun r => (i012 r) ∧ r = SP)) ([.ref h0] : List Value).toArray s 0 0 (fun _ => False)) (F0 m 6 ls []) := by
    intro w1 w2 ls h19 hSq0 hl
    clear cut6_3
    refine lv_iload_n hx hb d_T_soundOneOfTwo_6 rfl (lv_at hl 3 rfl) ?_
    refine lv_iconst (v := 3) hx hb d_T_soundOneOfTwo_7 (by decide) ?_
    refine lv_icmp_ge (tgt := 46) hx hb d_T_soundOneOfTwo_8 rfl (fun hc11 => by first | exact absurd hc11 (by decide) | exact absurd (by decide) hc11) (fun hc11 => ?_)
    refine lv_aload_n hx hb d_T_soundOneOfTwo_11 rfl (lv_at hl 0 rfl) ?_
    refine va_get (D := (dC, dI)) (ci := 0) (v := .ref a9) (C := "VotedTriple") (T := F_T) (N := 11) hx hb hw in_T hown hK hP 0 rfl rfl 1 (by decide) (hw _ k_195) (fun _ h9 => h9) rfl d_T_soundOneOfTwo_12 ?_
    refine lv_iload_n hx hb d_T_soundOneOfTwo_15 rfl (lv_at hl 3 rfl) ?_
    refine va_aldq hx hb hK hP 1 0 rfl rfl (by unfold vp_in; decide) d_T_soundOneOfTwo_16 ?_
    refine W.eq (g2 := F0 m 17 ls [.ref (da 1)]) rfl ?_
    replace hPc := hP.sub (ws' := [(da 1, .inr (2, oD (F 1) (ra 1) (ka 1)))]) [3] rfl
    replace hKc := hK.sub (tys' := []) [] rfl
    refine vp_callSi (va_runV (C := "VotedTriple$VotedModule") (As := []) (rest := []) ⟨hx, hb, hml, hown, hw⟩ (c_D_isTrusted l dC dI (da 1) (ra 1) (ka 1) (F 1)) (cwV 0 hw (gdV (k_583) (k_580) (k_581) (k_582) (k_7)) rfl rfl rfl (by decide +kernel) ⟨Nat.le_of_ble_eq_true rfl, Nat.le_of_ble_eq_true rfl⟩) ⟨fun a U g mk q => ⟨q.1, q.2.1, va_K.moved (u := U) (U := U.calling g mk a) (Vm.Alike.refl U.vm) q.2.2⟩, va_recv hK hP rfl (q0 := 3) rfl, fun U hU hW => ⟨rfl, by rw [hU]; exact hPc, va_K.moved hW.alike hKc⟩⟩ rfl rfl hl.1 rfl (lv_room (Nat.le_of_ble_eq_true rfl)) d_T_soundOneOfTwo_17 ⟨Nat.le_of_ble_eq_true rfl, Nat.le_of_ble_eq_true rfl⟩).run (fun r12 hr13 => ?_)
    subst hr13
    refine lv_if_eq (tgt := 40) hx hb d_T_soundOneOfTwo_20 rfl (fun hc14 => ?_) (fun hc14 => ?_)
    · --  (bI (trB (F 1))) = 0
      refine lv_iinc (k := 3) (v := 2) hx hb d_T_soundOneOfTwo_40 hl rfl rfl (by decide) rfl (fun ls hl => ?_)
      replace hl : lv_has ls 4 [(3, .int 2), (0, .ref h0), (1, .int w1), (2, .int w2)] := hl
      refine lv_goto (tgt := 6) hx hb d_T_soundOneOfTwo_43 rfl ?_
      have hSq : SP = s_T_soundOneOfTwo_cut6_2 F w1 w2 := by rw [hSq0, s_T_soundOneOfTwo_cut6_1]; try (rw [if_pos hc14]); all_goals rfl
      replace hl := lv_sub hl (l' := [(0, .ref h0), (1, .int w1), (2, .int w2), (3, .int 2)]) [1, 2, 3, 0] rfl
      exact cut6_2 w1 w2 _ h19 hSq hl
    · --  ¬ (bI (trB (F 1))) = 0
      refine lv_aload_n hx hb d_T_soundOneOfTwo_23 rfl (lv_at hl 0 rfl) ?_
      refine va_get (D := (dC, dI)) (ci := 0) (v := .ref a9) (C := "VotedTriple") (T := F_T) (N := 11) hx hb hw in_T hown hK hP 0 rfl rfl 1 (by decide) (hw _ k_195) (fun _ h9 => h9) rfl d_T_soundOneOfTwo_24 ?_
      refine lv_iload_n hx hb d_T_soundOneOfTwo_27 rfl (lv_at hl 3 rfl) ?_
      refine va_aldq hx hb hK hP 1 0 rfl rfl (by unfold vp_in; decide) d_T_soundOneOfTwo_28 ?_
      refine W.eq (g2 := F0 m 29 ls [.ref (da 1)]) rfl ?_
      refine va_get (D := (dC, dI)) (ci := 2) (v := .int (F 1 16)) (C := "VotedTriple$VotedModule") (T := F_D) (N := 19) hx hb hw in_D hown hK hP 3 rfl rfl 16 (by decide) (hw _ k_159) (fun _ h9 => h9) rfl d_T_soundOneOfTwo_29 ?_
      refine lv_if_ne (tgt := 40) hx hb d_T_soundOneOfTwo_32 rfl (fun hc15 => ?_) (fun hc15 => ?_)
      · --  ¬ (F 1 16) = 0
        refine lv_iinc (k := 3) (v := 2) hx hb d_T_soundOneOfTwo_40 hl rfl rfl (by decide) rfl (fun ls hl => ?_)
        replace hl : lv_has ls 4 [(3, .int 2), (0, .ref h0), (1, .int w1), (2, .int w2)] := hl
        refine lv_goto (tgt := 6) hx hb d_T_soundOneOfTwo_43 rfl ?_
        have hSq : SP = s_T_soundOneOfTwo_cut6_2 F w1 w2 := by rw [hSq0, s_T_soundOneOfTwo_cut6_1]; try (rw [if_neg hc14]); try (rw [if_neg hc15]); all_goals rfl
        replace hl := lv_sub hl (l' := [(0, .ref h0), (1, .int w1), (2, .int w2), (3, .int 2)]) [1, 2, 3, 0] rfl
        exact cut6_2 w1 w2 _ h19 hSq hl
      · --  (F 1 16) = 0
        refine lv_iload_n hx hb d_T_soundOneOfTwo_35 rfl (lv_at hl 3 rfl) ?_
        refine lv_istore_n hx hb d_T_soundOneOfTwo_36 rfl hl (by decide) rfl (fun ls hl => ?_)
        replace hl : lv_has ls 4 [(1, .int 1), (0, .ref h0), (2, .int w2), (3, .int 1)] := hl
        refine lv_iinc (k := 2) (v := w2 + 1) hx hb d_T_soundOneOfTwo_37 hl rfl rfl (by decide) rfl (fun ls hl => ?_)
        replace hl : lv_has ls 4 [(2, .int (w2 + 1)), (1, .int 1), (0, .ref h0), (3, .int 1)] := hl
        refine lv_iinc (k := 3) (v := 2) hx hb d_T_soundOneOfTwo_40 hl rfl rfl (by decide) rfl (fun ls hl => ?_)
        replace hl : lv_has ls 4 [(3, .int 2), (2, .int (w2 + 1)), (1, .int 1), (0, .ref h0)] := hl
        refine lv_goto (tgt := 6) hx hb d_T_soundOneOfTwo_43 rfl ?_
        have hSq : SP = s_T_soundOneOfTwo_cut6_2 F 1 (w2 + 1) := by rw [hSq0, s_T_soundOneOfTwo_cut6_1]; try (rw [if_neg hc14]); try (rw [if_pos hc15]); all_goals rfl
        replace hl := lv_sub hl (l' := [(0, .ref h0), (1, .int 1), (2, .int (w2 + 1)), (3, .int 2)]) [3, 2, 1, 0] rfl
        exact cut6_2 1 (w2 + 1) _ (Or.inr (Or.inr (Or.inl rfl))) hSq hl
  clear cut6_3 cut6_2
  refine lv_iconst (v := (-1)) hx hb d_T_soundOneOfTwo_0 (by decide) ?_
  refine lv_istore_n hx hb d_T_soundOneOfTwo_1 rfl hl (by decide) rfl (fun ls hl => ?_)
  replace hl : lv_has ls 4 [(1, .int (-1)), (0, .ref h0)] := hl
  refine lv_iconst (v := 0) hx hb d_T_soundOneOfTwo_2 (by decide) ?_
  refine lv_istore_n hx hb d_T_soundOneOfTwo_3 rfl hl (by decide) rfl (fun ls hl => ?_)
  replace hl : lv_has ls 4 [(2, .int 0), (1, .int (-1)), (0, .ref h0)] := hl
  refine lv_iconst (v := 0) hx hb d_T_soundOneOfTwo_4 (by decide) ?_
  refine lv_istore_n hx hb d_T_soundOneOfTwo_5 rfl hl (by decide) rfl (fun ls hl => ?_)
  replace hl : lv_has ls 4 [(3, .int 0), (2, .int 0), (1, .int (-1)), (0, .ref h0)] := hl
  refine lv_iload_n hx hb d_T_soundOneOfTwo_6 rfl (lv_at hl 0 rfl) ?_
  refine lv_iconst (v := 3) hx hb d_T_soundOneOfTwo_7 (by decide) ?_
  refine lv_icmp_ge (tgt := 46) hx hb d_T_soundOneOfTwo_8 rfl (fun hc16 => by first | exact absurd hc16 (by decide) | exact absurd (by decide) hc16) (fun hc16 => ?_)
  refine lv_aload_n hx hb d_T_soundOneOfTwo_11 rfl (lv_at hl 3 rfl) ?_
  refine va_get (D := (dC, dI)) (ci := 0) (v := .ref a9) (C := "VotedTriple") (T := F_T) (N := 11) hx hb hw in_T hown hK hP 0 rfl rfl 1 (by decide) (hw _ k_195) (fun _ h9 => h9) rfl d_T_soundOneOfTwo_12 ?_
  refine lv_iload_n hx hb d_T_soundOneOfTwo_15 rfl (lv_at hl 0 rfl) ?_
  refine va_aldq hx hb hK hP 1 0 rfl rfl (by unfold vp_in; decide) d_T_soundOneOfTwo_16 ?_
  refine W.eq (g2 := F0 m 17 ls [.ref (da 0)]) rfl ?_
  replace hPc := hP.sub (ws' := [(da 0, .inr (2, oD (F 0) (ra 0) (ka 0)))]) [2] rfl
  replace hKc := hK.sub (tys' := []) [] rfl
  refine vp_callSi (va_runV (C := "VotedTriple$VotedModule") (As := []) (rest := []) ⟨hx, hb, hml, hown, hw⟩ (c_D_isTrusted l dC dI (da 0) (ra 0) (ka 0) (F 0)) (cwV 0 hw (gdV (k_583) (k_580) (k_581) (k_582) (k_7)) rfl rfl rfl (by decide +kernel) ⟨Nat.le_of_ble_eq_true rfl, Nat.le_of_ble_eq_true rfl⟩) ⟨fun a U g mk q => ⟨q.1, q.2.1, va_K.moved (u := U) (U := U.calling g mk a) (Vm.Alike.refl U.vm) q.2.2⟩, va_recv hK hP rfl (q0 := 2) rfl, fun U hU hW => ⟨rfl, by rw [hU]; exact hPc, va_K.moved hW.alike hKc⟩⟩ rfl rfl hl.1 rfl (lv_room (Nat.le_of_ble_eq_true rfl)) d_T_soundOneOfTwo_17 ⟨Nat.le_of_ble_eq_true rfl, Nat.le_of_ble_eq_true rfl⟩).run (fun r17 hr18 => ?_)
  subst hr18
  refine lv_if_eq (tgt := 40) hx hb d_T_soundOneOfTwo_20 rfl (fun hc19 => ?_) (fun hc19 => ?_)
  · --  (bI (trB (F 0))) = 0
    refine lv_iinc (k := 0) (v := 1) hx hb d_T_soundOneOfTwo_40 hl rfl rfl (by decide) rfl (fun ls hl => ?_)
    replace hl : lv_has ls 4 [(3, .int 1), (2, .int 0), (1, .int (-1)), (0, .ref h0)] := hl
    refine lv_goto (tgt := 6) hx hb d_T_soundOneOfTwo_43 rfl ?_
    have hSq : SP = s_T_soundOneOfTwo_cut6_1 F (-1) 0 := by rw [← hSP, s_T_soundOneOfTwo]; try (rw [if_pos hc19]); all_goals rfl
    replace hl := lv_sub hl (l' := [(0, .ref h0), (1, .int (-1)), (2, .int 0), (3, .int 1)]) [3, 2, 1, 0] rfl
    exact cut6_1 (-1) 0 _ (Or.inl rfl) hSq hl
  · --  ¬ (bI (trB (F 0))) = 0
    refine lv_aload_n hx hb d_T_soundOneOfTwo_23 rfl (lv_at hl 3 rfl) ?_
    refine va_get (D := (dC, dI)) (ci := 0) (v := .ref a9) (C := "VotedTriple") (T := F_T) (N := 11) hx hb hw in_T hown hK hP 0 rfl rfl 1 (by decide) (hw _ k_195) (fun _ h9 => h9) rfl d_T_soundOneOfTwo_24 ?_
    refine lv_iload_n hx hb d_T_soundOneOfTwo_27 rfl (lv_at hl 0 rfl) ?_
    refine va_aldq hx hb hK hP 1 0 rfl rfl (by unfold vp_in; decide) d_T_soundOneOfTwo_28 ?_
    refine W.eq (g2 := F0 m 29 ls [.ref (da 0)]) rfl ?_
    refine va_get (D := (dC, dI)) (ci := 2) (v := .int (F 0 16)) (C := "VotedTriple$VotedModule") (T := F_D) (N := 19) hx hb hw in_D hown hK hP 2 rfl rfl 16 (by decide) (hw _ k_159) (fun _ h9 => h9) rfl d_T_soundOneOfTwo_29 ?_
    refine lv_if_ne (tgt := 40) hx hb d_T_soundOneOfTwo_32 rfl (fun hc20 => ?_) (fun hc20 => ?_)
    · --  ¬ (F 0 16) = 0
      refine lv_iinc (k := 0) (v := 1) hx hb d_T_soundOneOfTwo_40 hl rfl rfl (by decide) rfl (fun ls hl => ?_)
      replace hl : lv_has ls 4 [(3, .int 1), (2, .int 0), (1, .int (-1)), (0, .ref h0)] := hl
      refine lv_goto (tgt := 6) hx hb d_T_soundOneOfTwo_43 rfl ?_
      have hSq : SP = s_T_soundOneOfTwo_cut6_1 F (-1) 0 := by rw [← hSP, s_T_soundOneOfTwo]; try (rw [if_neg hc19]); try (rw [if_neg hc20]); all_goals rfl
      replace hl := lv_sub hl (l' := [(0, .ref h0), (1, .int (-1)), (2, .int 0), (3, .int 1)]) [3, 2, 1, 0] rfl
      exact cut6_1 (-1) 0 _ (Or.inl rfl) hSq hl
    · --  (F 0 16) = 0
      refine lv_iload_n hx hb d_T_soundOneOfTwo_35 rfl (lv_at hl 0 rfl) ?_
      refine lv_istore_n hx hb d_T_soundOneOfTwo_36 rfl hl (by decide) rfl (fun ls hl => ?_)
      replace hl : lv_has ls 4 [(1, .int 0), (3, .int 0), (2, .int 0), (0, .ref h0)] := hl
      refine lv_iinc (k := 2) (v := 1) hx hb d_T_soundOneOfTwo_37 hl rfl rfl (by decide) rfl (fun ls hl => ?_)
      replace hl : lv_has ls 4 [(2, .int 1), (1, .int 0), (3, .int 0), (0, .ref h0)] := hl
      refine lv_iinc (k := 2) (v := 1) hx hb d_T_soundOneOfTwo_40 hl rfl rfl (by decide) rfl (fun ls hl => ?_)
      replace hl : lv_has ls 4 [(3, .int 1), (2, .int 1), (1, .int 0), (0, .ref h0)] := hl
      refine lv_goto (tgt := 6) hx hb d_T_soundOneOfTwo_43 rfl ?_
      have hSq : SP = s_T_soundOneOfTwo_cut6_1 F 0 1 := by rw [← hSP, s_T_soundOneOfTwo]; try (rw [if_neg hc19]); try (rw [if_pos hc20]); all_goals rfl
      replace hl := lv_sub hl (l' := [(0, .ref h0), (1, .int 0), (2, .int 1), (3, .int 1)]) [3, 2, 1, 0] rfl
      exact cut6_1 0 1 _ (Or.inr (Or.inl rfl)) hSq hl
