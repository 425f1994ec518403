set_option maxHeartbeats 4000000 in
set_option maxRecDepth 100000 in
theorem c_M_inStep (l : Launch) (dC : Nat → ClassId) (dI : Nat → Nat → Nat) (m0 : Nat) (ga : Nat → Nat) (gc : Nat → ClassId) (uM : Nat → Int32) (cn : Nat) (sn : Nat) (cm : Nat) (us : Nat) (wt : Nat) (oc : Nat) (ou : Nat) (ow : Nat) (a11 : Nat → Int32) : Met l y_M_inStep (tbw y_M_inStep b_M_inStep 3 (some .int)) ({ frames := 0, cells := 0, slots := 0, locals := 0 }) (va_Pc [.ref m0] (fun U => va_P (dC, dI) classes [(m0, .inr (6, oM ga uM cn sn cm us wt oc ou ow)), (ga 11, .inl (gc 11, 3, .inl a11))] U.heap ∧ va_K (dC, dI) classes [(gc 11, .int)] U)) (vp_Si (fun r => r = cn3 a11)) 0 0 (fun _ => False) := by
  refine Met.ofW (cc := b_M_inStep) (maxL := 3) (ret := (some .int)) (by decide) rfl ?_
  intro p e s m args below meth c s₁ B hml hv
  obtain ⟨rfl, hP, hK⟩ := hv
  have hx := B.exec
  have hb := B.bytes
  have hr := B.returns
  have hts := atoms_spec (ws := (tbw y_M_inStep b_M_inStep 3 (some .int))) B.pre
  have hw : ∀ z9 ∈ tb, z9.before ([.ref m0] : List Value).toArray s = true := fun z9 h => hts z9 (List.mem_cons_of_mem _ h)
  have hown : s.vm.findClass "VotedTripleModel" = some m.cls := findClass_of_methodNamed B.named
  have hlocks := B.notSynchronized
  replace hl := lv_entry ([.ref m0]) (n := 3) (Nat.le_of_ble_eq_true rfl)
  rw [lg_entry_eq]
  generalize (lg_sl ([.ref m0]) ++ List.replicate (3 - (lg_sl ([.ref m0])).length) Slot.unset).toArray = ls at hl ⊢
  replace hl : lv_has ls 3 [(0, .ref m0)] := hl
  refine lv_iconst (v := 0) hx hb d_M_inStep_0 (by decide) ?_
  refine lv_istore_n hx hb d_M_inStep_1 rfl hl (by decide) rfl (fun ls hl => ?_)
  replace hl : lv_has ls 3 [(1, .int 0), (0, .ref m0)] := hl
  refine lv_iconst (v := 0) hx hb d_M_inStep_2 (by decide) ?_
  refine lv_istore_n hx hb d_M_inStep_3 rfl hl (by decide) rfl (fun ls hl => ?_)
  replace hl : lv_has ls 3 [(2, .int 0), (1, .int 0), (0, .ref m0)] := hl
  refine lv_iload_n hx hb d_M_inStep_4 rfl (lv_at hl 0 rfl) ?_
  refine lv_iconst (v := 3) hx hb d_M_inStep_5 (by decide) ?_
  refine lv_icmp_ge (tgt := 32) hx hb d_M_inStep_6 rfl (fun hc1 => by first | exact absurd hc1 (by decide) | exact absurd (by decide) hc1) (fun hc1 => ?_)
  refine lv_iload_n hx hb d_M_inStep_9 rfl (lv_at hl 1 rfl) ?_
  refine lv_aload_n hx hb d_M_inStep_10 rfl (lv_at hl 2 rfl) ?_
  refine va_get (D := (dC, dI)) (ci := 6) (v := .ref (ga 11)) (C := "VotedTripleModel") (T := F_M) (N := 37) hx hb hw in_M hown hK hP 0 rfl rfl 11 (by decide) (hw _ k_735) (fun _ h9 => h9) rfl d_M_inStep_11 ?_
  refine lv_iload_n hx hb d_M_inStep_14 rfl (lv_at hl 0 rfl) ?_
  refine va_iald hx hb hK hP 1 0 rfl rfl (by unfold vp_in; decide) d_M_inStep_15 ?_
  refine W.eq (g2 := F0 m 16 ls [.int (a11 0), .int 0]) rfl ?_
  refine lv_if_ne (tgt := 23) hx hb d_M_inStep_16 rfl (fun hc2 => ?_) (fun hc2 => ?_)
  · --  ¬ (a11 0) = 0
    refine lv_iconst (v := 0) hx hb d_M_inStep_23 (by decide) ?_
    refine lv_iadd hx hb d_M_inStep_24 ?_
    refine W.eq (g2 := F0 m 25 ls [.int 0]) rfl ?_
    refine lv_istore_n hx hb d_M_inStep_25 rfl hl (by decide) rfl (fun ls hl => ?_)
    replace hl : lv_has ls 3 [(1, .int 0), (2, .int 0), (0, .ref m0)] := hl
    refine lv_iinc (k := 1) (v := 1) hx hb d_M_inStep_26 hl rfl rfl (by decide) rfl (fun ls hl => ?_)
    replace hl : lv_has ls 3 [(2, .int 1), (1, .int 0), (0, .ref m0)] := hl
    refine lv_goto (tgt := 4) hx hb d_M_inStep_29 rfl ?_
    refine lv_iload_n hx hb d_M_inStep_4 rfl (lv_at hl 0 rfl) ?_
    refine lv_iconst (v := 3) hx hb d_M_inStep_5 (by decide) ?_
    refine lv_icmp_ge (tgt := 32) hx hb d_M_inStep_6 rfl (fun hc3 => by first | exact absurd hc3 (by decide) | exact absurd (by decide) hc3) (fun hc3 => ?_)
    refine lv_iload_n hx hb d_M_inStep_9 rfl (lv_at hl 1 rfl) ?_
    refine lv_aload_n hx hb d_M_inStep_10 rfl (lv_at hl 2 rfl) ?_
    refine va_get (D := (dC, dI)) (ci := 6) (v := .ref (ga 11)) (C := "VotedTripleModel") (T := F_M) (N := 37) hx hb hw in_M hown hK hP 0 rfl rfl 11 (by decide) (hw _ k_735) (fun _ h9 => h9) rfl d_M_inStep_11 ?_
    refine lv_iload_n hx hb d_M_inStep_14 rfl (lv_at hl 0 rfl) ?_
    refine va_iald hx hb hK hP 1 0 rfl rfl (by unfold vp_in; decide) d_M_inStep_15 ?_
    refine W.eq (g2 := F0 m 16 ls [.int (a11 1), .int 0]) rfl ?_
    refine lv_if_ne (tgt := 23) hx hb d_M_inStep_16 rfl (fun hc4 => ?_) (fun hc4 => ?_)
    · --  ¬ (a11 1) = 0
      refine lv_iconst (v := 0) hx hb d_M_inStep_23 (by decide) ?_
      refine lv_iadd hx hb d_M_inStep_24 ?_
      refine W.eq (g2 := F0 m 25 ls [.int 0]) rfl ?_
      refine lv_istore_n hx hb d_M_inStep_25 rfl hl (by decide) rfl (fun ls hl => ?_)
      replace hl : lv_has ls 3 [(1, .int 0), (2, .int 1), (0, .ref m0)] := hl
      refine lv_iinc (k := 1) (v := 2) hx hb d_M_inStep_26 hl rfl rfl (by decide) rfl (fun ls hl => ?_)
      replace hl : lv_has ls 3 [(2, .int 2), (1, .int 0), (0, .ref m0)] := hl
      refine lv_goto (tgt := 4) hx hb d_M_inStep_29 rfl ?_
      refine lv_iload_n hx hb d_M_inStep_4 rfl (lv_at hl 0 rfl) ?_
      refine lv_iconst (v := 3) hx hb d_M_inStep_5 (by decide) ?_
      refine lv_icmp_ge (tgt := 32) hx hb d_M_inStep_6 rfl (fun hc5 => by first | exact absurd hc5 (by decide) | exact absurd (by decide) hc5) (fun hc5 => ?_)
      refine lv_iload_n hx hb d_M_inStep_9 rfl (lv_at hl 1 rfl) ?_
      refine lv_aload_n hx hb d_M_inStep_10 rfl (lv_at hl 2 rfl) ?_
      refine va_get (D := (dC, dI)) (ci := 6) (v := .ref (ga 11)) (C := "VotedTripleModel") (T := F_M) (N := 37) hx hb hw in_M hown hK hP 0 rfl rfl 11 (by decide) (hw _ k_735) (fun _ h9 => h9) rfl d_M_inStep_11 ?_
      refine lv_iload_n hx hb d_M_inStep_14 rfl (lv_at hl 0 rfl) ?_
      refine va_iald hx hb hK hP 1 0 rfl rfl (by unfold vp_in; decide) d_M_inStep_15 ?_
      refine W.eq (g2 := F0 m 16 ls [.int (a11 2), .int 0]) rfl ?_
      refine lv_if_ne (tgt := 23) hx hb d_M_inStep_16 rfl (fun hc6 => ?_) (fun hc6 => ?_)
      · --  ¬ (a11 2) = 0
        refine lv_iconst (v := 0) hx hb d_M_inStep_23 (by decide) ?_
        refine lv_iadd hx hb d_M_inStep_24 ?_
        refine W.eq (g2 := F0 m 25 ls [.int 0]) rfl ?_
        refine lv_istore_n hx hb d_M_inStep_25 rfl hl (by decide) rfl (fun ls hl => ?_)
        replace hl : lv_has ls 3 [(1, .int 0), (2, .int 2), (0, .ref m0)] := hl
        refine lv_iinc (k := 1) (v := 3) hx hb d_M_inStep_26 hl rfl rfl (by decide) rfl (fun ls hl => ?_)
        replace hl : lv_has ls 3 [(2, .int 3), (1, .int 0), (0, .ref m0)] := hl
        refine lv_goto (tgt := 4) hx hb d_M_inStep_29 rfl ?_
        refine lv_iload_n hx hb d_M_inStep_4 rfl (lv_at hl 0 rfl) ?_
        refine lv_iconst (v := 3) hx hb d_M_inStep_5 (by decide) ?_
        refine lv_icmp_ge (tgt := 32) hx hb d_M_inStep_6 rfl (fun hc7 => ?_) (fun hc7 => by first | exact absurd (by decide) hc7 | exact absurd hc7 (by decide))
        refine lv_iload_n hx hb d_M_inStep_32 rfl (lv_at hl 1 rfl) ?_
        exact W.iret (v := 0) hx hb hr (fun t ht _ => ⟨_, rfl, (by simp [cn3, z1, hc2, hc4, hc6]), ht⟩) (fun _ h => by cases h) d_M_inStep_33
      · --  (a11 2) = 0
        refine lv_iconst (v := 1) hx hb d_M_inStep_19 (by decide) ?_
        refine lv_goto (tgt := 24) hx hb d_M_inStep_20 rfl ?_
        refine lv_iadd hx hb d_M_inStep_24 ?_
        refine W.eq (g2 := F0 m 25 ls [.int 1]) rfl ?_
        refine lv_istore_n hx hb d_M_inStep_25 rfl hl (by decide) rfl (fun ls hl => ?_)
        replace hl : lv_has ls 3 [(1, .int 1), (2, .int 2), (0, .ref m0)] := hl
        refine lv_iinc (k := 1) (v := 3) hx hb d_M_inStep_26 hl rfl rfl (by decide) rfl (fun ls hl => ?_)
        replace hl : lv_has ls 3 [(2, .int 3), (1, .int 1), (0, .ref m0)] := hl
        refine lv_goto (tgt := 4) hx hb d_M_inStep_29 rfl ?_
        refine lv_iload_n hx hb d_M_inStep_4 rfl (lv_at hl 0 rfl) ?_
        refine lv_iconst (v := 3) hx hb d_M_inStep_5 (by decide) ?_
        refine lv_icmp_ge (tgt := 32) hx hb d_M_inStep_6 rfl (fun hc8 => ?_) (fun hc8 => by first | exact absurd (by decide) hc8 | exact absurd hc8 (by decide))
        refine lv_iload_n hx hb d_M_inStep_32 rfl (lv_at hl 1 rfl) ?_
        exact W.iret (v := 1) hx hb hr (fun t ht _ => ⟨_, rfl, (by simp [cn3, z1, hc2, hc4, hc6]), ht⟩) (fun _ h => by cases h) d_M_inStep_33
    · --  (a11 1) = 0
      refine lv_iconst (v := 1) hx hb d_M_inStep_19 (by decide) ?_
      refine lv_goto (tgt := 24) hx hb d_M_inStep_20 rfl ?_
      refine lv_iadd hx hb d_M_inStep_24 ?_
      refine W.eq (g2 := F0 m 25 ls [.int 1]) rfl ?_
      refine lv_istore_n hx hb d_M_inStep_25 rfl hl (by decide) rfl (fun ls hl => ?_)
      replace hl : lv_has ls 3 [(1, .int 1), (2, .int 1), (0, .ref m0)] := hl
      refine lv_iinc (k := 1) (v := 2) hx hb d_M_inStep_26 hl rfl rfl (by decide) rfl (fun ls hl => ?_)
      replace hl : lv_has ls 3 [(2, .int 2), (1, .int 1), (0, .ref m0)] := hl
      refine lv_goto (tgt := 4) hx hb d_M_inStep_29 rfl ?_
      refine lv_iload_n hx hb d_M_inStep_4 rfl (lv_at hl 0 rfl) ?_
      refine lv_iconst (v := 3) hx hb d_M_inStep_5 (by decide) ?_
      refine lv_icmp_ge (tgt := 32) hx hb d_M_inStep_6 rfl (fun hc9 => by first | exact absurd hc9 (by decide) | exact absurd (by decide) hc9) (fun hc9 => ?_)
      refine lv_iload_n hx hb d_M_inStep_9 rfl (lv_at hl 1 rfl) ?_
      refine lv_aload_n hx hb d_M_inStep_10 rfl (lv_at hl 2 rfl) ?_
      refine va_get (D := (dC, dI)) (ci := 6) (v := .ref (ga 11)) (C := "VotedTripleModel") (T := F_M) (N := 37) hx hb hw in_M hown hK hP 0 rfl rfl 11 (by decide) (hw _ k_735) (fun _ h9 => h9) rfl d_M_inStep_11 ?_
      refine lv_iload_n hx hb d_M_inStep_14 rfl (lv_at hl 0 rfl) ?_
      refine va_iald hx hb hK hP 1 0 rfl rfl (by unfold vp_in; decide) d_M_inStep_15 ?_
      refine W.eq (g2 := F0 m 16 ls [.int (a11 2), .int 1]) rfl ?_
      refine lv_if_ne (tgt := 23) hx hb d_M_inStep_16 rfl (fun hc10 => ?_) (fun hc10 => ?_)
      · --  ¬ (a11 2) = 0
        refine lv_iconst (v := 0) hx hb d_M_inStep_23 (by decide) ?_
        refine lv_iadd hx hb d_M_inStep_24 ?_
        refine W.eq (g2 := F0 m 25 ls [.int 1]) rfl ?_
        refine lv_istore_n hx hb d_M_inStep_25 rfl hl (by decide) rfl (fun ls hl => ?_)
        replace hl : lv_has ls 3 [(1, .int 1), (2, .int 2), (0, .ref m0)] := hl
        refine lv_iinc (k := 1) (v := 3) hx hb d_M_inStep_26 hl rfl rfl (by decide) rfl (fun ls hl => ?_)
        replace hl : lv_has ls 3 [(2, .int 3), (1, .int 1), (0, .ref m0)] := hl
        refine lv_goto (tgt := 4) hx hb d_M_inStep_29 rfl ?_
        refine lv_iload_n hx hb d_M_inStep_4 rfl (lv_at hl 0 rfl) ?_
        refine lv_iconst (v := 3) hx hb d_M_inStep_5 (by decide) ?_
        refine lv_icmp_ge (tgt := 32) hx hb d_M_inStep_6 rfl (fun hc11 => ?_) (fun hc11 => by first | exact absurd (by decide) hc11 | exact absurd hc11 (by decide))
        refine lv_iload_n hx hb d_M_inStep_32 rfl (lv_at hl 1 rfl) ?_
        exact W.iret (v := 1) hx hb hr (fun t ht _ => ⟨_, rfl, (by simp [cn3, z1, hc2, hc4, hc10]), ht⟩) (fun _ h => by cases h) d_M_inStep_33
      · --  (a11 2) = 0
        refine lv_iconst (v := 1) hx hb d_M_inStep_19 (by decide) ?_
        refine lv_goto (tgt := 24) hx hb d_M_inStep_20 rfl ?_
        refine lv_iadd hx hb d_M_inStep_24 ?_
        refine W.eq (g2 := F0 m 25 ls [.int 2]) rfl ?_
        refine lv_istore_n hx hb d_M_inStep_25 rfl hl (by decide) rfl (fun ls hl => ?_)
        replace hl : lv_has ls 3 [(1, .int 2), (2, .int 2), (0, .ref m0)] := hl
        refine lv_iinc (k := 1) (v := 3) hx hb d_M_inStep_26 hl rfl rfl (by decide) rfl (fun ls hl => ?_)
        replace hl : lv_has ls 3 [(2, .int 3), (1, .int 2), (0, .ref m0)] := hl
        refine lv_goto (tgt := 4) hx hb d_M_inStep_29 rfl ?_
        refine lv_iload_n hx hb d_M_inStep_4 rfl (lv_at hl 0 rfl) ?_
        refine lv_iconst (v := 3) hx hb d_M_inStep_5 (by decide) ?_
        refine lv_icmp_ge (tgt := 32) hx hb d_M_inStep_6 rfl (fun hc12 => ?_) (fun hc12 => by first | exact absurd (by decide) hc12 | exact absurd hc12 (by decide))
        refine lv_iload_n hx hb d_M_inStep_32 rfl (lv_at hl 1 rfl) ?_
        exact W.iret (v := 2) hx hb hr (fun t ht _ => ⟨_, rfl, (by simp [cn3, z1, hc2, hc4, hc10]), ht⟩) (fun _ h => by cases h) d_M_inStep_33
  · --  (a11 0) = 0
    refine lv_iconst (v := 1) hx hb d_M_inStep_19 (by decide) ?_
    refine lv_goto (tgt := 24) hx hb d_M_inStep_20 rfl ?_
    refine lv_iadd hx hb d_M_inStep_24 ?_
    refine W.eq (g2 := F0 m 25 ls [.int 1]) rfl ?_
    refine lv_istore_n hx hb d_M_inStep_25 rfl hl (by decide) rfl (fun ls hl => ?_)
    replace hl : lv_has ls 3 [(1, .int 1), (2, .int 0), (0, .ref m0)] := hl
    refine lv_iinc (k := 1) (v := 1) hx hb d_M_inStep_26 hl rfl rfl (by decide) rfl (fun ls hl => ?_)
    replace hl : lv_has ls 3 [(2, .int 1), (1, .int 1), (0, .ref m0)] := hl
    refine lv_goto (tgt := 4) hx hb d_M_inStep_29 rfl ?_
    refine lv_iload_n hx hb d_M_inStep_4 rfl (lv_at hl 0 rfl) ?_
    refine lv_iconst (v := 3) hx hb d_M_inStep_5 (by decide) ?_
    refine lv_icmp_ge (tgt := 32) hx hb d_M_inStep_6 rfl (fun hc13 => by first | exact absurd hc13 (by decide) | exact absurd (by decide) hc13) (fun hc13 => ?_)
    refine lv_iload_n hx hb d_M_inStep_9 rfl (lv_at hl 1 rfl) ?_
    refine lv_aload_n hx hb d_M_inStep_10 rfl (lv_at hl 2 rfl) ?_
    refine va_get (D := (dC, dI)) (ci := 6) (v := .ref (ga 11)) (C := "VotedTripleModel") (T := F_M) (N := 37) hx hb hw in_M hown hK hP 0 rfl rfl 11 (by decide) (hw _ k_735) (fun _ h9 => h9) rfl d_M_inStep_11 ?_
    refine lv_iload_n hx hb d_M_inStep_14 rfl (lv_at hl 0 rfl) ?_
    refine va_iald hx hb hK hP 1 0 rfl rfl (by unfold vp_in; decide) d_M_inStep_15 ?_
    refine W.eq (g2 := F0 m 16 ls [.int (a11 1), .int 1]) rfl ?_
    refine lv_if_ne (tgt := 23) hx hb d_M_inStep_16 rfl (fun hc14 => ?_) (fun hc14 => ?_)
    · --  ¬ (a11 1) = 0
      refine lv_iconst (v := 0) hx hb d_M_inStep_23 (by decide) ?_
      refine lv_iadd hx hb d_M_inStep_24 ?_
      refine W.eq (g2 := F0 m 25 ls [.int 1]) rfl ?_
      refine lv_istore_n hx hb d_M_inStep_25 rfl hl (by decide) rfl (fun ls hl => ?_)
      replace hl : lv_has ls 3 [(1, .int 1), (2, .int 1), (0, .ref m0)] := hl
      refine lv_iinc (k := 1) (v := 2) hx hb d_M_inStep_26 hl rfl rfl (by decide) rfl (fun ls hl => ?_)
      replace hl : lv_has ls 3 [(2, .int 2), (1, .int 1), (0, .ref m0)] := hl
      refine lv_goto (tgt := 4) hx hb d_M_inStep_29 rfl ?_
      refine lv_iload_n hx hb d_M_inStep_4 rfl (lv_at hl 0 rfl) ?_
      refine lv_iconst (v := 3) hx hb d_M_inStep_5 (by decide) ?_
      refine lv_icmp_ge (tgt := 32) hx hb d_M_inStep_6 rfl (fun hc15 => by first | exact absurd hc15 (by decide) | exact absurd (by decide) hc15) (fun hc15 => ?_)
      refine lv_iload_n hx hb d_M_inStep_9 rfl (lv_at hl 1 rfl) ?_
      refine lv_aload_n hx hb d_M_inStep_10 rfl (lv_at hl 2 rfl) ?_
      refine va_get (D := (dC, dI)) (ci := 6) (v := .ref (ga 11)) (C := "VotedTripleModel") (T := F_M) (N := 37) hx hb hw in_M hown hK hP 0 rfl rfl 11 (by decide) (hw _ k_735) (fun _ h9 => h9) rfl d_M_inStep_11 ?_
      refine lv_iload_n hx hb d_M_inStep_14 rfl (lv_at hl 0 rfl) ?_
      refine va_iald hx hb hK hP 1 0 rfl rfl (by unfold vp_in; decide) d_M_inStep_15 ?_
      refine W.eq (g2 := F0 m 16 ls [.int (a11 2), .int 1]) rfl ?_
      refine lv_if_ne (tgt := 23) hx hb d_M_inStep_16 rfl (fun hc16 => ?_) (fun hc16 => ?_)
      · --  ¬ (a11 2) = 0
        refine lv_iconst (v := 0) hx hb d_M_inStep_23 (by decide) ?_
        refine lv_iadd hx hb d_M_inStep_24 ?_
        refine W.eq (g2 := F0 m 25 ls [.int 1]) rfl ?_
        refine lv_istore_n hx hb d_M_inStep_25 rfl hl (by decide) rfl (fun ls hl => ?_)
        replace hl : lv_has ls 3 [(1, .int 1), (2, .int 2), (0, .ref m0)] := hl
        refine lv_iinc (k := 1) (v := 3) hx hb d_M_inStep_26 hl rfl rfl (by decide) rfl (fun ls hl => ?_)
        replace hl : lv_has ls 3 [(2, .int 3), (1, .int 1), (0, .ref m0)] := hl
        refine lv_goto (tgt := 4) hx hb d_M_inStep_29 rfl ?_
        refine lv_iload_n hx hb d_M_inStep_4 rfl (lv_at hl 0 rfl) ?_
        refine lv_iconst (v := 3) hx hb d_M_inStep_5 (by decide) ?_
        refine lv_icmp_ge (tgt := 32) hx hb d_M_inStep_6 rfl (fun hc17 => ?_) (fun hc17 => by first | exact absurd (by decide) hc17 | exact absurd hc17 (by decide))
        refine lv_iload_n hx hb d_M_inStep_32 rfl (lv_at hl 1 rfl) ?_
        exact W.iret (v := 1) hx hb hr (fun t ht _ => ⟨_, rfl, (by simp [cn3, z1, hc2, hc14, hc16]), ht⟩) (fun _ h => by cases h) d_M_inStep_33
      · --  (a11 2) = 0
        refine lv_iconst (v := 1) hx hb d_M_inStep_19 (by decide) ?_
        refine lv_goto (tgt := 24) hx hb d_M_inStep_20 rfl ?_
        refine lv_iadd hx hb d_M_inStep_24 ?_
        refine W.eq (g2 := F0 m 25 ls [.int 2]) rfl ?_
        refine lv_istore_n hx hb d_M_inStep_25 rfl hl (by decide) rfl (fun ls hl => ?_)
        replace hl : lv_has ls 3 [(1, .int 2), (2, .int 2), (0, .ref m0)] := hl
        refine lv_iinc (k := 1) (v := 3) hx hb d_M_inStep_26 hl rfl rfl (by decide) rfl (fun ls hl => ?_)
        replace hl : lv_has ls 3 [(2, .int 3), (1, .int 2), (0, .ref m0)] := hl
        refine lv_goto (tgt := 4) hx hb d_M_inStep_29 rfl ?_
        refine lv_iload_n hx hb d_M_inStep_4 rfl (lv_at hl 0 rfl) ?_
        refine lv_iconst (v := 3) hx hb d_M_inStep_5 (by decide) ?_
        refine lv_icmp_ge (tgt := 32) hx hb d_M_inStep_6 rfl (fun hc18 => ?_) (fun hc18 => by first | exact absurd (by decide) hc18 | exact absurd hc18 (by decide))
        refine lv_iload_n hx hb d_M_inStep_32 rfl (lv_at hl 1 rfl) ?_
        exact W.iret (v := 2) hx hb hr (fun t ht _ => ⟨_, rfl, (by simp [cn3, z1, hc2, hc14, hc16]), ht⟩) (fun _ h => by cases h) d_M_inStep_33
    · --  (a11 1) = 0
      refine lv_iconst (v := 1) hx hb d_M_inStep_19 (by decide) ?_
      refine lv_goto (tgt := 24) hx hb d_M_inStep_20 rfl ?_
      refine lv_iadd hx hb d_M_inStep_24 ?_
      refine W.eq (g2 := F0 m 25 ls [.int 2]) rfl ?_
      refine lv_istore_n hx hb d_M_inStep_25 rfl hl (by decide) rfl (fun ls hl => ?_)
      replace hl : lv_has ls 3 [(1, .int 2), (2, .int 1), (0, .ref m0)] := hl
      refine lv_iinc (k := 1) (v := 2) hx hb d_M_inStep_26 hl rfl rfl (by decide) rfl (fun ls hl => ?_)
      replace hl : lv_has ls 3 [(2, .int 2), (1, .int 2), (0, .ref m0)] := hl
      refine lv_goto (tgt := 4) hx hb d_M_inStep_29 rfl ?_
      refine lv_iload_n hx hb d_M_inStep_4 rfl (lv_at hl 0 rfl) ?_
      refine lv_iconst (v := 3) hx hb d_M_inStep_5 (by decide) ?_
      refine lv_icmp_ge (tgt := 32) hx hb d_M_inStep_6 rfl (fun hc19 => by first | exact absurd hc19 (by decide) | exact absurd (by decide) hc19) (fun hc19 => ?_)
      refine lv_iload_n hx hb d_M_inStep_9 rfl (lv_at hl 1 rfl) ?_
      refine lv_aload_n hx hb d_M_inStep_10 rfl (lv_at hl 2 rfl) ?_
      refine va_get (D := (dC, dI)) (ci := 6) (v := .ref (ga 11)) (C := "VotedTripleModel") (T := F_M) (N := 37) hx hb hw in_M hown hK hP 0 rfl rfl 11 (by decide) (hw _ k_735) (fun _ h9 => h9) rfl d_M_inStep_11 ?_
      refine lv_iload_n hx hb d_M_inStep_14 rfl (lv_at hl 0 rfl) ?_
      refine va_iald hx hb hK hP 1 0 rfl rfl (by unfold vp_in; decide) d_M_inStep_15 ?_
      refine W.eq (g2 := F0 m 16 ls [.int (a11 2), .int 2]) rfl ?_
      refine lv_if_ne (tgt := 23) hx hb d_M_inStep_16 rfl (fun hc20 => ?_) (fun hc20 => ?_)
      · --  ¬ (a11 2) = 0
        refine lv_iconst (v := 0) hx hb d_M_inStep_23 (by decide) ?_
        refine lv_iadd hx hb d_M_inStep_24 ?_
        refine W.eq (g2 := F0 m 25 ls [.int 2]) rfl ?_
        refine lv_istore_n hx hb d_M_inStep_25 rfl hl (by decide) rfl (fun ls hl => ?_)
        replace hl : lv_has ls 3 [(1, .int 2), (2, .int 2), (0, .ref m0)] := hl
        refine lv_iinc (k := 1) (v := 3) hx hb d_M_inStep_26 hl rfl rfl (by decide) rfl (fun ls hl => ?_)
        replace hl : lv_has ls 3 [(2, .int 3), (1, .int 2), (0, .ref m0)] := hl
        refine lv_goto (tgt := 4) hx hb d_M_inStep_29 rfl ?_
        refine lv_iload_n hx hb d_M_inStep_4 rfl (lv_at hl 0 rfl) ?_
        refine lv_iconst (v := 3) hx hb d_M_inStep_5 (by decide) ?_
        refine lv_icmp_ge (tgt := 32) hx hb d_M_inStep_6 rfl (fun hc21 => ?_) (fun hc21 => by first | exact absurd (by decide) hc21 | exact absurd hc21 (by decide))
        refine lv_iload_n hx hb d_M_inStep_32 rfl (lv_at hl 1 rfl) ?_
        exact W.iret (v := 2) hx hb hr (fun t ht _ => ⟨_, rfl, (by simp [cn3, z1, hc2, hc14, hc20]), ht⟩) (fun _ h => by cases h) d_M_inStep_33
      · --  (a11 2) = 0
        refine lv_iconst (v := 1) hx hb d_M_inStep_19 (by decide) ?_
        refine lv_goto (tgt := 24) hx hb d_M_inStep_20 rfl ?_
        refine lv_iadd hx hb d_M_inStep_24 ?_
        refine W.eq (g2 := F0 m 25 ls [.int 3]) rfl ?_
        refine lv_istore_n hx hb d_M_inStep_25 rfl hl (by decide) rfl (fun ls hl => ?_)
        replace hl : lv_has ls 3 [(1, .int 3), (2, .int 2), (0, .ref m0)] := hl
        refine lv_iinc (k := 1) (v := 3) hx hb d_M_inStep_26 hl rfl rfl (by decide) rfl (fun ls hl => ?_)
        replace hl : lv_has ls 3 [(2, .int 3), (1, .int 3), (0, .ref m0)] := hl
        refine lv_goto (tgt := 4) hx hb d_M_inStep_29 rfl ?_
        refine lv_iload_n hx hb d_M_inStep_4 rfl (lv_at hl 0 rfl) ?_
        refine lv_iconst (v := 3) hx hb d_M_inStep_5 (by decide) ?_
        refine lv_icmp_ge (tgt := 32) hx hb d_M_inStep_6 rfl (fun hc22 => ?_) (fun hc22 => by first | exact absurd (by decide) hc22 | exact absurd hc22 (by decide))
        refine lv_iload_n hx hb d_M_inStep_32 rfl (lv_at hl 1 rfl) ?_
        exact W.iret (v := 3) hx hb hr (fun t ht _ => ⟨_, rfl, (by simp [cn3, z1, hc2, hc14, hc20]), ht⟩) (fun _ h => by cases h) d_M_inStep_33

set_option maxHeartbeats 4000000 in
set_option maxRecDepth 100000 in
theorem c_M_isLike (l : Launch) (dC : Nat → ClassId) (dI : Nat → Nat → Nat) (m0 : Nat) (ga : Nat → Nat) (gc : Nat → ClassId) (uM : Nat → Int32) (cn : Nat) (sn : Nat) (cm : Nat) (us : Nat) (wt : Nat) (oc : Nat) (ou : Nat) (ow : Nat) (a18 : Nat → Int32) (a19 : Nat → Int32) (mk : Nat) (nk : Nat) (mi : Int32) (nj : Int32) (hmi : mi = nI mk) (hmk : mk < 3) (hnj : nj = nI nk) (hnk : nk < 3) : Met l y_M_isLike (tbw y_M_isLike b_M_isLike 3 (some .boolean)) ({ frames := 0, cells := 0, slots := 0, locals := 0 }) (va_Pc [.ref m0, .int mi, .int nj] (fun U => va_P (dC, dI) classes [(m0, .inr (6, oM ga uM cn sn cm us wt oc ou ow)), (ga 18, .inl (gc 18, 3, .inl a18)), (ga 19, .inl (gc 19, 3, .inl a19))] U.heap ∧ va_K (dC, dI) classes [(gc 18, .int), (gc 19, .boolean)] U)) (vp_Si (fun r => (True) ∧ r = s_M_isLike a18 a19 mi nj)) 0 0 (fun _ => False) := by
  refine Met.ofW (cc := b_M_isLike) (maxL := 3) (ret := (some .boolean)) (by decide) rfl ?_
  intro p e s m args below meth c s₁ B hml hv
  obtain ⟨rfl, hP, hK⟩ := hv
  have hx := B.exec
  have hb := B.bytes
  have hr := B.returns
  have hts := atoms_spec (ws := (tbw y_M_isLike b_M_isLike 3 (some .boolean))) B.pre
  have hw : ∀ z9 ∈ tb, z9.before ([.ref m0, .int mi, .int nj] : List Value).toArray s = true := fun z9 h => hts z9 (List.mem_cons_of_mem _ h)
  have hown : s.vm.findClass "VotedTripleModel" = some m.cls := findClass_of_methodNamed B.named
  have hlocks := B.notSynchronized
  replace hl := lv_entry ([.ref m0, .int mi, .int nj]) (n := 3) (Nat.le_of_ble_eq_true rfl)
  rw [lg_entry_eq]
  generalize (lg_sl ([.ref m0, .int mi, .int nj]) ++ List.replicate (3 - (lg_sl ([.ref m0, .int mi, .int nj])).length) Slot.unset).toArray = ls at hl ⊢
  replace hl : lv_has ls 3 [(0, .ref m0), (1, .int mi), (2, .int nj)] := hl
  generalize hSP : s_M_isLike a18 a19 mi nj = SP
  refine lv_aload_n hx hb d_M_isLike_0 rfl (lv_at hl 0 rfl) ?_
  refine va_get (D := (dC, dI)) (ci := 6) (v := .ref (ga 18)) (C := "VotedTripleModel") (T := F_M) (N := 37) hx hb hw in_M hown hK hP 0 rfl rfl 18 (by decide) (hw _ k_742) (fun _ h9 => h9) rfl d_M_isLike_1 ?_
  refine lv_iload_n hx hb d_M_isLike_4 rfl (lv_at hl 1 rfl) ?_
  refine va_iald hx hb hK hP 1 0 rfl rfl (mi_in hmi hmk) d_M_isLike_5 ?_
  refine lv_aload_n hx hb d_M_isLike_6 rfl (lv_at hl 0 rfl) ?_
  refine va_get (D := (dC, dI)) (ci := 6) (v := .ref (ga 18)) (C := "VotedTripleModel") (T := F_M) (N := 37) hx hb hw in_M hown hK hP 0 rfl rfl 18 (by decide) (hw _ k_742) (fun _ h9 => h9) rfl d_M_isLike_7 ?_
  refine lv_iload_n hx hb d_M_isLike_10 rfl (lv_at hl 2 rfl) ?_
  refine va_iald hx hb hK hP 1 0 rfl rfl (mi_in hnj hnk) d_M_isLike_11 ?_
  refine lv_icmp_ne (tgt := 34) hx hb d_M_isLike_12 rfl (fun hc1 => ?_) (fun hc1 => ?_)
  · --  ¬ (a18 (Int32.toNatClampNeg mi)) = (a18 (Int32.toNatClampNeg nj))
    refine lv_iconst (v := 0) hx hb d_M_isLike_34 (by decide) ?_
    exact W.zret (v := 0) (ty := .boolean) hx hb hr rfl (fun t ht _ => ⟨_, rfl, ⟨trivial, (by rw [← hSP, s_M_isLike]; try (rw [if_neg hc1]); all_goals rfl)⟩, ht⟩) (fun _ h => by cases h) d_M_isLike_35
  · --  (a18 (Int32.toNatClampNeg mi)) = (a18 (Int32.toNatClampNeg nj))
    refine lv_aload_n hx hb d_M_isLike_15 rfl (lv_at hl 0 rfl) ?_
    refine va_get (D := (dC, dI)) (ci := 6) (v := .ref (ga 19)) (C := "VotedTripleModel") (T := F_M) (N := 37) hx hb hw in_M hown hK hP 0 rfl rfl 19 (by decide) (hw _ k_743) (fun _ h9 => h9) rfl d_M_isLike_16 ?_
    refine lv_iload_n hx hb d_M_isLike_19 rfl (lv_at hl 1 rfl) ?_
    refine va_zald hx hb hK hP 2 1 rfl rfl (mi_in hmi hmk) d_M_isLike_20 ?_
    refine lv_aload_n hx hb d_M_isLike_21 rfl (lv_at hl 0 rfl) ?_
    refine va_get (D := (dC, dI)) (ci := 6) (v := .ref (ga 19)) (C := "VotedTripleModel") (T := F_M) (N := 37) hx hb hw in_M hown hK hP 0 rfl rfl 19 (by decide) (hw _ k_743) (fun _ h9 => h9) rfl d_M_isLike_22 ?_
    refine lv_iload_n hx hb d_M_isLike_25 rfl (lv_at hl 2 rfl) ?_
    refine va_zald hx hb hK hP 2 1 rfl rfl (mi_in hnj hnk) d_M_isLike_26 ?_
    refine lv_icmp_ne (tgt := 34) hx hb d_M_isLike_27 rfl (fun hc2 => ?_) (fun hc2 => ?_)
    · --  ¬ (a19 (Int32.toNatClampNeg mi)) = (a19 (Int32.toNatClampNeg nj))
      refine lv_iconst (v := 0) hx hb d_M_isLike_34 (by decide) ?_
      exact W.zret (v := 0) (ty := .boolean) hx hb hr rfl (fun t ht _ => ⟨_, rfl, ⟨trivial, (by rw [← hSP, s_M_isLike]; try (rw [if_pos hc1]); try (rw [if_neg hc2]); all_goals rfl)⟩, ht⟩) (fun _ h => by cases h) d_M_isLike_35
    · --  (a19 (Int32.toNatClampNeg mi)) = (a19 (Int32.toNatClampNeg nj))
      refine lv_iconst (v := 1) hx hb d_M_isLike_30 (by decide) ?_
      refine lv_goto (tgt := 35) hx hb d_M_isLike_31 rfl ?_
      exact W.zret (v := 1) (ty := .boolean) hx hb hr rfl (fun t ht _ => ⟨_, rfl, ⟨trivial, (by rw [← hSP, s_M_isLike]; try (rw [if_pos hc1]); try (rw [if_pos hc2]); all_goals rfl)⟩, ht⟩) (fun _ h => by cases h) d_M_isLike_35

set_option maxHeartbeats 4000000 in
set_option maxRecDepth 100000 in
theorem c_M_vote (l : Launch) (dC : Nat → ClassId) (dI : Nat → Nat → Nat) (m0 : Nat) (ga : Nat → Nat) (gc : Nat → ClassId) (uM : Nat → Int32) (cn : Nat) (sn : Nat) (cm : Nat) (us : Nat) (wt : Nat) (oc : Nat) (ou : Nat) (ow : Nat) (a11 : Nat → Int32) (a18 : Nat → Int32) (a19 : Nat → Int32) (a23 : Nat → Int32) (hin : s3 a11) (sz : Nat) : Met l y_M_vote (tbw y_M_vote b_M_vote 6 (some .int)) ({ frames := 1, cells := 0, slots := 0, locals := 22 }) (va_Pc [.ref m0] (fun U => U.heap.size = sz ∧ va_P (dC, dI) classes [(m0, .inr (6, oM ga uM cn sn cm us wt oc ou ow)), (ga 11, .inl (gc 11, 3, .inl a11)), (ga 18, .inl (gc 18, 3, .inl a18)), (ga 19, .inl (gc 19, 3, .inl a19)), (ga 23, .inl (gc 23, 3, .inl a23))] U.heap ∧ va_K (dC, dI) classes [(gc 11, .int), (gc 18, .int), (gc 19, .boolean), (gc 23, .boolean)] U ∧ va_D (fun _ => True) [(m0, .inr (6, oM ga uM cn sn cm us wt oc ou ow)), (ga 11, .inl (gc 11, 3, .inl a11)), (ga 18, .inl (gc 18, 3, .inl a18)), (ga 19, .inl (gc 19, 3, .inl a19)), (ga 23, .inl (gc 23, 3, .inl a23))])) (va_Qi (fun (r : Int32) (u9 : (Nat → Int32) × Int32) => match u9 with | (a23n, y7) => (i012 r) ∧ (r, a23n, y7) = s_M_vote uM a11 a18 a19 a23) (fun (u9 : (Nat → Int32) × Int32) t => match u9 with | (a23n, y7) => va_P (dC, dI) classes [(m0, .inr (6, oM ga (upc uM 7 y7) cn sn cm us wt oc ou ow)), (ga 11, .inl (gc 11, 3, .inl a11)), (ga 18, .inl (gc 18, 3, .inl a18)), (ga 19, .inl (gc 19, 3, .inl a19)), (ga 23, .inl (gc 23, 3, .inl a23n))] t.heap ∧ va_K (dC, dI) classes [(gc 11, .int), (gc 18, .int), (gc 19, .boolean), (gc 23, .boolean)] t ∧ va_D (va_A [(m0, .inr (6, oM ga uM cn sn cm us wt oc ou ow)), (ga 11, .inl (gc 11, 3, .inl a11)), (ga 18, .inl (gc 18, 3, .inl a18)), (ga 19, .inl (gc 19, 3, .inl a19)), (ga 23, .inl (gc 23, 3, .inl a23))] sz) [(m0, .inr (6, oM ga (upc uM 7 y7) cn sn cm us wt oc ou ow)), (ga 11, .inl (gc 11, 3, .inl a11)), (ga 18, .inl (gc 18, 3, .inl a18)), (ga 19, .inl (gc 19, 3, .inl a19)), (ga 23, .inl (gc 23, 3, .inl a23n))]) (va_A [(m0, .inr (6, oM ga uM cn sn cm us wt oc ou ow)), (ga 11, .inl (gc 11, 3, .inl a11)), (ga 18, .inl (gc 18, 3, .inl a18)), (ga 19, .inl (gc 19, 3, .inl a19)), (ga 23, .inl (gc 23, 3, .inl a23))] sz)) 0 0 (va_A [(m0, .inr (6, oM ga uM cn sn cm us wt oc ou ow)), (ga 11, .inl (gc 11, 3, .inl a11)), (ga 18, .inl (gc 18, 3, .inl a18)), (ga 19, .inl (gc 19, 3, .inl a19)), (ga 23, .inl (gc 23, 3, .inl a23))] sz) := by
  refine Met.ofW (cc := b_M_vote) (maxL := 6) (ret := (some .int)) (by decide) rfl ?_
  intro p e s m args below meth c s₁ B hml hv
  obtain ⟨rfl, hsz, hP, hK, hD0⟩ := hv
  have hx := B.exec
  have hb := B.bytes
  have hr := B.returns
  have hts := atoms_spec (ws := (tbw y_M_vote b_M_vote 6 (some .int))) B.pre
  have hw : ∀ z9 ∈ tb, z9.before ([.ref m0] : List Value).toArray s = true := fun z9 h => hts z9 (List.mem_cons_of_mem _ h)
  have hown : s.vm.findClass "VotedTripleModel" = some m.cls := findClass_of_methodNamed B.named
  have hlocks := B.notSynchronized
  subst hsz
  replace hD := hD0.self (sz := s.heap.size)
  generalize hAe : va_A [(m0, .inr (6, oM ga uM cn sn cm us wt oc ou ow)), (ga 11, .inl (gc 11, 3, .inl a11)), (ga 18, .inl (gc 18, 3, .inl a18)), (ga 19, .inl (gc 19, 3, .inl a19)), (ga 23, .inl (gc 23, 3, .inl a23))] s.heap.size = A at hD ⊢
  have hA : ∀ q : Nat, s.heap.size ≤ q → A q := fun q h => by rw [← hAe]; exact Or.inr h
  have hS : va_S A s.heap s.heap [] := va_S.rf
  replace hl := lv_entry ([.ref m0]) (n := 6) (Nat.le_of_ble_eq_true rfl)
  rw [lg_entry_eq]
  generalize (lg_sl ([.ref m0]) ++ List.replicate (6 - (lg_sl ([.ref m0])).length) Slot.unset).toArray = ls at hl ⊢
  replace hl : lv_has ls 6 [(0, .ref m0)] := hl
  generalize hSP : s_M_vote uM a11 a18 a19 a23 = SP
  refine lv_iconst (v := 0) hx hb d_M_vote_0 (by decide) ?_
  refine lv_istore_n hx hb d_M_vote_1 rfl hl (by decide) rfl (fun ls hl => ?_)
  replace hl : lv_has ls 6 [(1, .int 0), (0, .ref m0)] := hl
  refine lv_iconst (v := (-1)) hx hb d_M_vote_2 (by decide) ?_
  refine lv_istore_n hx hb d_M_vote_3 rfl hl (by decide) rfl (fun ls hl => ?_)
  replace hl : lv_has ls 6 [(2, .int (-1)), (1, .int 0), (0, .ref m0)] := hl
  refine lv_iconst (v := (-1)) hx hb d_M_vote_4 (by decide) ?_
  refine lv_istore_n hx hb d_M_vote_5 rfl hl (by decide) rfl (fun ls hl => ?_)
  replace hl : lv_has ls 6 [(3, .int (-1)), (2, .int (-1)), (1, .int 0), (0, .ref m0)] := hl
  refine lv_iconst (v := (-1)) hx hb d_M_vote_6 (by decide) ?_
  refine lv_istore hx hb d_M_vote_7 hl (by decide) rfl (fun ls hl => ?_)
  replace hl : lv_has ls 6 [(4, .int (-1)), (3, .int (-1)), (2, .int (-1)), (1, .int 0), (0, .ref m0)] := hl
  refine lv_iconst (v := 0) hx hb d_M_vote_9 (by decide) ?_
  refine lv_istore hx hb d_M_vote_10 hl (by decide) rfl (fun ls hl => ?_)
  replace hl : lv_has ls 6 [(5, .int 0), (4, .int (-1)), (3, .int (-1)), (2, .int (-1)), (1, .int 0), (0, .ref m0)] := hl
  refine lv_iload hx hb d_M_vote_12 (lv_at hl 0 rfl) ?_
  refine lv_iconst (v := 3) hx hb d_M_vote_14 (by decide) ?_
  refine lv_icmp_ge (tgt := 65) hx hb d_M_vote_15 rfl (fun hc1 => by first | exact absurd hc1 (by decide) | exact absurd (by decide) hc1) (fun hc1 => ?_)
  refine lv_aload_n hx hb d_M_vote_18 rfl (lv_at hl 5 rfl) ?_
  refine va_get (D := (dC, dI)) (ci := 6) (v := .ref (ga 11)) (C := "VotedTripleModel") (T := F_M) (N := 37) hx hb hw in_M hown hK hP 0 rfl rfl 11 (by decide) (hw _ k_735) (fun _ h9 => h9) rfl d_M_vote_19 ?_
  refine lv_iload hx hb d_M_vote_22 (lv_at hl 0 rfl) ?_
  refine va_iald hx hb hK hP 1 0 rfl rfl (by unfold vp_in; decide) d_M_vote_24 ?_
  refine W.eq (g2 := F0 m 25 ls [.int (a11 0)]) rfl ?_
  refine lv_if_eq (tgt := 31) hx hb d_M_vote_25 rfl (fun hc2 => ?_) (fun hc2 => ?_)
  · --  (a11 0) = 0
    refine lv_iinc (k := 4) (v := 1) hx hb d_M_vote_31 hl rfl rfl (by decide) rfl (fun ls hl => ?_)
    replace hl : lv_has ls 6 [(1, .int 1), (5, .int 0), (4, .int (-1)), (3, .int (-1)), (2, .int (-1)), (0, .ref m0)] := hl
    refine lv_iload_n hx hb d_M_vote_34 rfl (lv_at hl 0 rfl) ?_
    refine lv_iconst (v := 1) hx hb d_M_vote_35 (by decide) ?_
    refine lv_icmp_ne (tgt := 42) hx hb d_M_vote_36 rfl (fun hc3 => by first | exact absurd hc3 (fun hh => hh rfl) | exact absurd (fun hh => hh rfl) hc3) (fun hc3 => ?_)
    refine lv_iload hx hb d_M_vote_39 (lv_at hl 1 rfl) ?_
    refine lv_istore_n hx hb d_M_vote_41 rfl hl (by decide) rfl (fun ls hl => ?_)
    replace hl : lv_has ls 6 [(2, .int 0), (1, .int 1), (5, .int 0), (4, .int (-1)), (3, .int (-1)), (0, .ref m0)] := hl
    refine lv_iload_n hx hb d_M_vote_42 rfl (lv_at hl 1 rfl) ?_
    refine lv_iconst (v := 2) hx hb d_M_vote_43 (by decide) ?_
    refine lv_icmp_ne (tgt := 50) hx hb d_M_vote_44 rfl (fun hc4 => ?_) (fun hc4 => by first | exact absurd (by decide) hc4 | exact absurd hc4 (by decide))
    refine lv_iload_n hx hb d_M_vote_50 rfl (lv_at hl 1 rfl) ?_
    refine lv_iconst (v := 3) hx hb d_M_vote_51 (by decide) ?_
    refine lv_icmp_ne (tgt := 59) hx hb d_M_vote_52 rfl (fun hc5 => ?_) (fun hc5 => by first | exact absurd (by decide) hc5 | exact absurd hc5 (by decide))
    refine lv_iinc (k := 2) (v := 1) hx hb d_M_vote_59 hl rfl rfl (by decide) rfl (fun ls hl => ?_)
    replace hl : lv_has ls 6 [(5, .int 1), (2, .int 0), (1, .int 1), (4, .int (-1)), (3, .int (-1)), (0, .ref m0)] := hl
    refine lv_goto (tgt := 12) hx hb d_M_vote_62 rfl ?_
    refine lv_iload hx hb d_M_vote_12 (lv_at hl 0 rfl) ?_
    refine lv_iconst (v := 3) hx hb d_M_vote_14 (by decide) ?_
    refine lv_icmp_ge (tgt := 65) hx hb d_M_vote_15 rfl (fun hc6 => by first | exact absurd hc6 (by decide) | exact absurd (by decide) hc6) (fun hc6 => ?_)
    refine lv_aload_n hx hb d_M_vote_18 rfl (lv_at hl 5 rfl) ?_
    refine va_get (D := (dC, dI)) (ci := 6) (v := .ref (ga 11)) (C := "VotedTripleModel") (T := F_M) (N := 37) hx hb hw in_M hown hK hP 0 rfl rfl 11 (by decide) (hw _ k_735) (fun _ h9 => h9) rfl d_M_vote_19 ?_
    refine lv_iload hx hb d_M_vote_22 (lv_at hl 0 rfl) ?_
    refine va_iald hx hb hK hP 1 0 rfl rfl (by unfold vp_in; decide) d_M_vote_24 ?_
    refine W.eq (g2 := F0 m 25 ls [.int (a11 1)]) rfl ?_
    refine lv_if_eq (tgt := 31) hx hb d_M_vote_25 rfl (fun hc7 => ?_) (fun hc7 => ?_)
    · --  (a11 1) = 0
      refine lv_iinc (k := 2) (v := 2) hx hb d_M_vote_31 hl rfl rfl (by decide) rfl (fun ls hl => ?_)
      replace hl : lv_has ls 6 [(1, .int 2), (5, .int 1), (2, .int 0), (4, .int (-1)), (3, .int (-1)), (0, .ref m0)] := hl
      refine lv_iload_n hx hb d_M_vote_34 rfl (lv_at hl 0 rfl) ?_
      refine lv_iconst (v := 1) hx hb d_M_vote_35 (by decide) ?_
      refine lv_icmp_ne (tgt := 42) hx hb d_M_vote_36 rfl (fun hc8 => ?_) (fun hc8 => by first | exact absurd (by decide) hc8 | exact absurd hc8 (by decide))
      refine lv_iload_n hx hb d_M_vote_42 rfl (lv_at hl 0 rfl) ?_
      refine lv_iconst (v := 2) hx hb d_M_vote_43 (by decide) ?_
      refine lv_icmp_ne (tgt := 50) hx hb d_M_vote_44 rfl (fun hc9 => by first | exact absurd hc9 (fun hh => hh rfl) | exact absurd (fun hh => hh rfl) hc9) (fun hc9 => ?_)
      refine lv_iload hx hb d_M_vote_47 (lv_at hl 1 rfl) ?_
      refine lv_istore_n hx hb d_M_vote_49 rfl hl (by decide) rfl (fun ls hl => ?_)
      replace hl : lv_has ls 6 [(3, .int 1), (1, .int 2), (5, .int 1), (2, .int 0), (4, .int (-1)), (0, .ref m0)] := hl
      refine lv_iload_n hx hb d_M_vote_50 rfl (lv_at hl 1 rfl) ?_
      refine lv_iconst (v := 3) hx hb d_M_vote_51 (by decide) ?_
      refine lv_icmp_ne (tgt := 59) hx hb d_M_vote_52 rfl (fun hc10 => ?_) (fun hc10 => by first | exact absurd (by decide) hc10 | exact absurd hc10 (by decide))
      refine lv_iinc (k := 2) (v := 2) hx hb d_M_vote_59 hl rfl rfl (by decide) rfl (fun ls hl => ?_)
      replace hl : lv_has ls 6 [(5, .int 2), (3, .int 1), (1, .int 2), (2, .int 0), (4, .int (-1)), (0, .ref m0)] := hl
      refine lv_goto (tgt := 12) hx hb d_M_vote_62 rfl ?_
      refine lv_iload hx hb d_M_vote_12 (lv_at hl 0 rfl) ?_
      refine lv_iconst (v := 3) hx hb d_M_vote_14 (by decide) ?_
      refine lv_icmp_ge (tgt := 65) hx hb d_M_vote_15 rfl (fun hc11 => by first | exact absurd hc11 (by decide) | exact absurd (by decide) hc11) (fun hc11 => ?_)
      refine lv_aload_n hx hb d_M_vote_18 rfl (lv_at hl 5 rfl) ?_
      refine va_get (D := (dC, dI)) (ci := 6) (v := .ref (ga 11)) (C := "VotedTripleModel") (T := F_M) (N := 37) hx hb hw in_M hown hK hP 0 rfl rfl 11 (by decide) (hw _ k_735) (fun _ h9 => h9) rfl d_M_vote_19 ?_
      refine lv_iload hx hb d_M_vote_22 (lv_at hl 0 rfl) ?_
      refine va_iald hx hb hK hP 1 0 rfl rfl (by unfold vp_in; decide) d_M_vote_24 ?_
      refine W.eq (g2 := F0 m 25 ls [.int (a11 2)]) rfl ?_
      refine lv_if_eq (tgt := 31) hx hb d_M_vote_25 rfl (fun hc12 => ?_) (fun hc12 => ?_)
      · --  (a11 2) = 0
        refine lv_iinc (k := 2) (v := 3) hx hb d_M_vote_31 hl rfl rfl (by decide) rfl (fun ls hl => ?_)
        replace hl : lv_has ls 6 [(1, .int 3), (5, .int 2), (3, .int 1), (2, .int 0), (4, .int (-1)), (0, .ref m0)] := hl
        refine lv_iload_n hx hb d_M_vote_34 rfl (lv_at hl 0 rfl) ?_
        refine lv_iconst (v := 1) hx hb d_M_vote_35 (by decide) ?_
        refine lv_icmp_ne (tgt := 42) hx hb d_M_vote_36 rfl (fun hc13 => ?_) (fun hc13 => by first | exact absurd (by decide) hc13 | exact absurd hc13 (by decide))
        refine lv_iload_n hx hb d_M_vote_42 rfl (lv_at hl 0 rfl) ?_
        refine lv_iconst (v := 2) hx hb d_M_vote_43 (by decide) ?_
        refine lv_icmp_ne (tgt := 50) hx hb d_M_vote_44 rfl (fun hc14 => ?_) (fun hc14 => by first | exact absurd (by decide) hc14 | exact absurd hc14 (by decide))
        refine lv_iload_n hx hb d_M_vote_50 rfl (lv_at hl 0 rfl) ?_
        refine lv_iconst (v := 3) hx hb d_M_vote_51 (by decide) ?_
        refine lv_icmp_ne (tgt := 59) hx hb d_M_vote_52 rfl (fun hc15 => by first | exact absurd hc15 (fun hh => hh rfl) | exact absurd (fun hh => hh rfl) hc15) (fun hc15 => ?_)
        refine lv_iload hx hb d_M_vote_55 (lv_at hl 1 rfl) ?_
        refine lv_istore hx hb d_M_vote_57 hl (by decide) rfl (fun ls hl => ?_)
        replace hl : lv_has ls 6 [(4, .int 2), (1, .int 3), (5, .int 2), (3, .int 1), (2, .int 0), (0, .ref m0)] := hl
        refine lv_iinc (k := 2) (v := 3) hx hb d_M_vote_59 hl rfl rfl (by decide) rfl (fun ls hl => ?_)
        replace hl : lv_has ls 6 [(5, .int 3), (4, .int 2), (1, .int 3), (3, .int 1), (2, .int 0), (0, .ref m0)] := hl
        refine lv_goto (tgt := 12) hx hb d_M_vote_62 rfl ?_
        refine lv_iload hx hb d_M_vote_12 (lv_at hl 0 rfl) ?_
        refine lv_iconst (v := 3) hx hb d_M_vote_14 (by decide) ?_
        refine lv_icmp_ge (tgt := 65) hx hb d_M_vote_15 rfl (fun hc16 => ?_) (fun hc16 => by first | exact absurd (by decide) hc16 | exact absurd hc16 (by decide))
        refine lv_iload_n hx hb d_M_vote_65 rfl (lv_at hl 2 rfl) ?_
        refine lv_iconst (v := 1) hx hb d_M_vote_66 (by decide) ?_
        refine lv_icmp_ne (tgt := 72) hx hb d_M_vote_67 rfl (fun hc17 => ?_) (fun hc17 => by first | exact absurd (by decide) hc17 | exact absurd hc17 (by decide))
        refine lv_iload_n hx hb d_M_vote_72 rfl (lv_at hl 2 rfl) ?_
        refine lv_iconst (v := 2) hx hb d_M_vote_73 (by decide) ?_
        refine lv_icmp_ne (tgt := 151) hx hb d_M_vote_74 rfl (fun hc18 => ?_) (fun hc18 => by first | exact absurd (by decide) hc18 | exact absurd hc18 (by decide))
        refine lv_aload_n hx hb d_M_vote_151 rfl (lv_at hl 5 rfl) ?_
        refine lv_iload_n hx hb d_M_vote_152 rfl (lv_at hl 4 rfl) ?_
        refine lv_iload_n hx hb d_M_vote_153 rfl (lv_at hl 3 rfl) ?_
        replace hPc := hP.sub (ws' := [(m0, .inr (6, oM ga uM cn sn cm us wt oc ou ow)), (ga 18, .inl (gc 18, 3, .inl a18)), (ga 19, .inl (gc 19, 3, .inl a19))]) [0, 2, 3] rfl
        replace hKc := hK.sub (tys' := [(gc 18, .int), (gc 19, .boolean)]) [1, 2] rfl
        refine vp_callSi (va_runV (C := "VotedTripleModel") (As := [.int 0, .int 1]) (rest := []) ⟨hx, hb, hml, hown, hw⟩ (c_M_isLike l dC dI m0 ga gc uM cn sn cm us wt oc ou ow a18 a19 0 1 0 1 rfl (by decide) rfl (by decide)) (cwV 2 hw (gdV (k_907) (k_904) (k_906) (ks_29) (k_8)) rfl rfl rfl (by decide +kernel) ⟨Nat.le_of_ble_eq_true rfl, Nat.le_of_ble_eq_true rfl⟩) ⟨fun a U g mk q => ⟨q.1, q.2.1, va_K.moved (u := U) (U := U.calling g mk a) (Vm.Alike.refl U.vm) q.2.2⟩, va_recv hK hP rfl (q0 := 0) rfl, fun U hU hW => ⟨rfl, by rw [hU]; exact hPc, va_K.moved hW.alike hKc⟩⟩ rfl rfl hl.1 rfl (lv_room (Nat.le_of_ble_eq_true rfl)) d_M_vote_154 ⟨Nat.le_of_ble_eq_true rfl, Nat.le_of_ble_eq_true rfl⟩).run (fun r19 hr20 => ?_)
        obtain ⟨hr20, hr20E⟩ := hr20
        refine lv_if_eq (tgt := 172) hx hb d_M_vote_157 rfl (fun hc21 => ?_) (fun hc21 => ?_)
        · --  r19 = 0
          refine lv_aload_n hx hb d_M_vote_172 rfl (lv_at hl 5 rfl) ?_
          refine lv_dup hx hb d_M_vote_173 rfl ?_
          refine va_get (D := (dC, dI)) (ci := 6) (v := .int (uM 7)) (C := "VotedTripleModel") (T := F_M) (N := 37) hx hb hw in_M hown hK hP 0 rfl rfl 7 (by decide) (hw _ k_731) (fun _ h9 => h9) rfl d_M_vote_174 ?_
          refine lv_iconst (v := 1) hx hb d_M_vote_177 (by decide) ?_
          refine lv_iadd hx hb d_M_vote_178 ?_
          refine va_put (D := (dC, dI)) (ci := 6) (v := .int ((uM 7) + (1 : Int32))) (ty := .int) (C := "VotedTripleModel") (T := F_M) (N := 37) hx hb hw in_M ft_M tyok_M nm_M hown hK hP hD hS 0 rfl rfl 7 (by decide) (hw _ k_731) (fun _ h9 => h9) rfl (by decide +kernel) rfl rfl (Nat.le_of_ble_eq_true rfl) d_M_vote_179 (fun H locs hP hD hS => ?_)
          replace hP : va_P (dC, dI) classes [(m0, .inr (6, [.int (uM 0), .int (nI cn), .ref (ga 2), .int (uM 3), .int (uM 4), .int (uM 5), .int (nI sn), .int ((uM 7) + (1 : Int32)), .ref (ga 8), .ref (ga 9), .ref (ga 10), .ref (ga 11), .ref (ga 12), .ref (ga 13), .ref (ga 14), .ref (ga 15), .ref (ga 16), .ref (ga 17), .ref (ga 18), .ref (ga 19), .ref (ga 20), .ref (ga 21), .ref (ga 22), .ref (ga 23), .int (uM 24), .int (uM 25), .int (nI cm), .int (nI us), .ref (ga 28), .int (nI wt), .ref (ga 30), .ref (ga 31), .ref (ga 32), .int (nI oc), .int (nI ou), .int (nI ow), .ref (ga 36)])), (ga 11, .inl (gc 11, 3, .inl a11)), (ga 18, .inl (gc 18, 3, .inl a18)), (ga 19, .inl (gc 19, 3, .inl a19)), (ga 23, .inl (gc 23, 3, .inl a23))] H := hP
          replace hD : va_D A [(m0, .inr (6, [.int (uM 0), .int (nI cn), .ref (ga 2), .int (uM 3), .int (uM 4), .int (uM 5), .int (nI sn), .int ((uM 7) + (1 : Int32)), .ref (ga 8), .ref (ga 9), .ref (ga 10), .ref (ga 11), .ref (ga 12), .ref (ga 13), .ref (ga 14), .ref (ga 15), .ref (ga 16), .ref (ga 17), .ref (ga 18), .ref (ga 19), .ref (ga 20), .ref (ga 21), .ref (ga 22), .ref (ga 23), .int (uM 24), .int (uM 25), .int (nI cm), .int (nI us), .ref (ga 28), .int (nI wt), .ref (ga 30), .ref (ga 31), .ref (ga 32), .int (nI oc), .int (nI ou), .int (nI ow), .ref (ga 36)])), (ga 11, .inl (gc 11, 3, .inl a11)), (ga 18, .inl (gc 18, 3, .inl a18)), (ga 19, .inl (gc 19, 3, .inl a19)), (ga 23, .inl (gc 23, 3, .inl a23))] := hD
          refine lv_aload_n hx hb d_M_vote_182 rfl (lv_at hl 5 rfl) ?_
          refine lv_iload_n hx hb d_M_vote_183 rfl (lv_at hl 4 rfl) ?_
          refine lv_iload_n hx hb d_M_vote_184 rfl (lv_at hl 3 rfl) ?_
          replace hP : va_P (dC, dI) classes [(m0, .inr (6, oM ga (upc uM 7 ((uM 7) + (1 : Int32))) cn sn cm us wt oc ou ow)), (ga 11, .inl (gc 11, 3, .inl a11)), (ga 18, .inl (gc 18, 3, .inl a18)), (ga 19, .inl (gc 19, 3, .inl a19)), (ga 23, .inl (gc 23, 3, .inl a23))] H := hP
          replace hD : va_D A [(m0, .inr (6, oM ga (upc uM 7 ((uM 7) + (1 : Int32))) cn sn cm us wt oc ou ow)), (ga 11, .inl (gc 11, 3, .inl a11)), (ga 18, .inl (gc 18, 3, .inl a18)), (ga 19, .inl (gc 19, 3, .inl a19)), (ga 23, .inl (gc 23, 3, .inl a23))] := hD
          replace hPc := hP.sub (ws' := [(m0, .inr (6, oM ga (upc uM 7 ((uM 7) + (1 : Int32))) cn sn cm us wt oc ou ow)), (ga 18, .inl (gc 18, 3, .inl a18)), (ga 19, .inl (gc 19, 3, .inl a19))]) [0, 2, 3] rfl
          replace hKc := hK.sub (tys' := [(gc 18, .int), (gc 19, .boolean)]) [1, 2] rfl
          refine vp_callSi (va_runV (C := "VotedTripleModel") (As := [.int 0, .int 1]) (rest := []) ⟨hx, hb, hml, hown, hw⟩ (c_M_isLike l dC dI m0 ga gc (upc uM 7 ((uM 7) + (1 : Int32))) cn sn cm us wt oc ou ow a18 a19 0 1 0 1 rfl (by decide) rfl (by decide)) (cwV 2 hw (gdV (k_907) (k_904) (k_906) (ks_29) (k_8)) rfl rfl rfl (by decide +kernel) ⟨Nat.le_of_ble_eq_true rfl, Nat.le_of_ble_eq_true rfl⟩) ⟨fun a U g mk q => ⟨q.1, q.2.1, va_K.moved (u := U) (U := U.calling g mk a) (Vm.Alike.refl U.vm) q.2.2⟩, va_recv hK hP rfl (q0 := 0) rfl, fun U hU hW => ⟨rfl, by rw [hU]; exact hPc, va_K.moved hW.alike hKc⟩⟩ rfl rfl hl.1 rfl (lv_room (Nat.le_of_ble_eq_true rfl)) d_M_vote_185 ⟨Nat.le_of_ble_eq_true rfl, Nat.le_of_ble_eq_true rfl⟩).run (fun r22 hr23 => ?_)
          obtain ⟨hr23, hr23E⟩ := hr23
          obtain rfl : r19 = r22 := hr20E.trans hr23E.symm
          refine lv_if_eq (tgt := 201) hx hb d_M_vote_188 rfl (fun hc24 => ?_) (fun hc24 => by first | exact absurd (hc21) hc24 | exact absurd hc24 (hc21))
          refine lv_aload_n hx hb d_M_vote_201 rfl (lv_at hl 5 rfl) ?_
          refine lv_iload_n hx hb d_M_vote_202 rfl (lv_at hl 4 rfl) ?_
          refine lv_iload hx hb d_M_vote_203 (lv_at hl 1 rfl) ?_
          replace hPc := hP.sub (ws' := [(m0, .inr (6, oM ga (upc uM 7 ((uM 7) + (1 : Int32))) cn sn cm us wt oc ou ow)), (ga 18, .inl (gc 18, 3, .inl a18)), (ga 19, .inl (gc 19, 3, .inl a19))]) [0, 2, 3] rfl
          replace hKc := hK.sub (tys' := [(gc 18, .int), (gc 19, .boolean)]) [1, 2] rfl
          refine vp_callSi (va_runV (C := "VotedTripleModel") (As := [.int 0, .int 2]) (rest := []) ⟨hx, hb, hml, hown, hw⟩ (c_M_isLike l dC dI m0 ga gc (upc uM 7 ((uM 7) + (1 : Int32))) cn sn cm us wt oc ou ow a18 a19 0 2 0 2 rfl (by decide) rfl (by decide)) (cwV 2 hw (gdV (k_907) (k_904) (k_906) (ks_29) (k_8)) rfl rfl rfl (by decide +kernel) ⟨Nat.le_of_ble_eq_true rfl, Nat.le_of_ble_eq_true rfl⟩) ⟨fun a U g mk q => ⟨q.1, q.2.1, va_K.moved (u := U) (U := U.calling g mk a) (Vm.Alike.refl U.vm) q.2.2⟩, va_recv hK hP rfl (q0 := 0) rfl, fun U hU hW => ⟨rfl, by rw [hU]; exact hPc, va_K.moved hW.alike hKc⟩⟩ rfl rfl hl.1 rfl (lv_room (Nat.le_of_ble_eq_true rfl)) d_M_vote_205 ⟨Nat.le_of_ble_eq_true rfl, Nat.le_of_ble_eq_true rfl⟩).run (fun r25 hr26 => ?_)
          obtain ⟨hr26, hr26E⟩ := hr26
          refine lv_if_eq (tgt := 220) hx hb d_M_vote_208 rfl (fun hc27 => ?_) (fun hc27 => ?_)
          · --  r25 = 0
            refine lv_aload_n hx hb d_M_vote_220 rfl (lv_at hl 5 rfl) ?_
            refine lv_iload_n hx hb d_M_vote_221 rfl (lv_at hl 3 rfl) ?_
            refine lv_iload hx hb d_M_vote_222 (lv_at hl 1 rfl) ?_
            replace hPc := hP.sub (ws' := [(m0, .inr (6, oM ga (upc uM 7 ((uM 7) + (1 : Int32))) cn sn cm us wt oc ou ow)), (ga 18, .inl (gc 18, 3, .inl a18)), (ga 19, .inl (gc 19, 3, .inl a19))]) [0, 2, 3] rfl
            replace hKc := hK.sub (tys' := [(gc 18, .int), (gc 19, .boolean)]) [1, 2] rfl
            refine vp_callSi (va_runV (C := "VotedTripleModel") (As := [.int 1, .int 2]) (rest := []) ⟨hx, hb, hml, hown, hw⟩ (c_M_isLike l dC dI m0 ga gc (upc uM 7 ((uM 7) + (1 : Int32))) cn sn cm us wt oc ou ow a18 a19 1 2 1 2 rfl (by decide) rfl (by decide)) (cwV 2 hw (gdV (k_907) (k_904) (k_906) (ks_29) (k_8)) rfl rfl rfl (by decide +kernel) ⟨Nat.le_of_ble_eq_true rfl, Nat.le_of_ble_eq_true rfl⟩) ⟨fun a U g mk q => ⟨q.1, q.2.1, va_K.moved (u := U) (U := U.calling g mk a) (Vm.Alike.refl U.vm) q.2.2⟩, va_recv hK hP rfl (q0 := 0) rfl, fun U hU hW => ⟨rfl, by rw [hU]; exact hPc, va_K.moved hW.alike hKc⟩⟩ rfl rfl hl.1 rfl (lv_room (Nat.le_of_ble_eq_true rfl)) d_M_vote_224 ⟨Nat.le_of_ble_eq_true rfl, Nat.le_of_ble_eq_true rfl⟩).run (fun r28 hr29 => ?_)
            obtain ⟨hr29, hr29E⟩ := hr29
            refine lv_if_eq (tgt := 239) hx hb d_M_vote_227 rfl (fun hc30 => ?_) (fun hc30 => ?_)
            · --  r28 = 0
              refine lv_iconst (v := (-1)) hx hb d_M_vote_239 (by decide) ?_
              have hP9 := hP.sub (ws' := [(m0, .inr (6, oM ga (upc uM 7 (upc uM 7 ((uM 7) + (1 : Int32)) 7)) cn sn cm us wt oc ou ow)), (ga 11, .inl (gc 11, 3, .inl a11)), (ga 18, .inl (gc 18, 3, .inl a18)), (ga 19, .inl (gc 19, 3, .inl a19)), (ga 23, .inl (gc 23, 3, .inl a23))]) [0, 1, 2, 3, 4] rfl
              have hD9 := hD.sub (ws' := [(m0, .inr (6, oM ga (upc uM 7 (upc uM 7 ((uM 7) + (1 : Int32)) 7)) cn sn cm us wt oc ou ow)), (ga 11, .inl (gc 11, 3, .inl a11)), (ga 18, .inl (gc 18, 3, .inl a18)), (ga 19, .inl (gc 19, 3, .inl a19)), (ga 23, .inl (gc 23, 3, .inl a23))]) [0, 1, 2, 3, 4] (by decide) rfl
              have hK9 := hK.sub (tys' := [(gc 11, .int), (gc 18, .int), (gc 19, .boolean), (gc 23, .boolean)]) [0, 1, 2, 3] rfl
              refine W.widen (k := 0) (n := 0) (Nat.le_of_ble_eq_true rfl) (Nat.le_of_ble_eq_true rfl) ?_
              exact W.iret (v := (-1)) hx hb hr (fun t ht hW => ⟨⟨_, (a23, upc uM 7 ((uM 7) + (1 : Int32)) 7), rfl, ⟨(Or.inl rfl), (by rw [← hSP, s_M_vote]; try (rw [if_pos hc2]); try (rw [if_pos hc7]); try (rw [if_pos hc12]); try (rw [← hr20E, bnd_eq]); try (rw [if_pos hc21]); try (rw [← hr26E, bnd_eq]); try (rw [if_pos hc27]); try (rw [← hr29E, bnd_eq]); try (rw [if_pos hc30]); all_goals rfl)⟩, by rw [ht]; exact hP9, va_K.moved hW.alike hK9, hD9⟩, hS.F ht⟩) hS.2.2 d_M_vote_240
            · --  ¬ r28 = 0
              refine lv_aload_n hx hb d_M_vote_230 rfl (lv_at hl 5 rfl) ?_
              refine va_get (D := (dC, dI)) (ci := 6) (v := .ref (ga 23)) (C := "VotedTripleModel") (T := F_M) (N := 37) hx hb hw in_M hown hK hP 0 rfl rfl 23 (by decide) (hw _ k_747) (fun _ h9 => h9) rfl d_M_vote_231 ?_
              refine lv_iload_n hx hb d_M_vote_234 rfl (lv_at hl 4 rfl) ?_
              refine lv_iconst (v := 1) hx hb d_M_vote_235 (by decide) ?_
              refine va_zast hx hb hK hP hD hS 4 3 rfl rfl (by unfold vp_in; decide) d_M_vote_236 (fun H locs hP hD hS => ?_)
              replace hP : va_P (dC, dI) classes [(m0, .inr (6, oM ga (upc uM 7 ((uM 7) + (1 : Int32))) cn sn cm us wt oc ou ow)), (ga 11, .inl (gc 11, 3, .inl a11)), (ga 18, .inl (gc 18, 3, .inl a18)), (ga 19, .inl (gc 19, 3, .inl a19)), (ga 23, .inl (gc 23, 3, .inl (upd a23 0 (1 : Int32))))] H := hP
              replace hD : va_D A [(m0, .inr (6, oM ga (upc uM 7 ((uM 7) + (1 : Int32))) cn sn cm us wt oc ou ow)), (ga 11, .inl (gc 11, 3, .inl a11)), (ga 18, .inl (gc 18, 3, .inl a18)), (ga 19, .inl (gc 19, 3, .inl a19)), (ga 23, .inl (gc 23, 3, .inl (upd a23 0 (1 : Int32))))] := hD
              refine lv_iload_n hx hb d_M_vote_237 rfl (lv_at hl 3 rfl) ?_
              have hP9 := hP.sub (ws' := [(m0, .inr (6, oM ga (upc uM 7 (upc uM 7 ((uM 7) + (1 : Int32)) 7)) cn sn cm us wt oc ou ow)), (ga 11, .inl (gc 11, 3, .inl a11)), (ga 18, .inl (gc 18, 3, .inl a18)), (ga 19, .inl (gc 19, 3, .inl a19)), (ga 23, .inl (gc 23, 3, .inl (upd a23 0 (1 : Int32))))]) [0, 1, 2, 3, 4] rfl
              have hD9 := hD.sub (ws' := [(m0, .inr (6, oM ga (upc uM 7 (upc uM 7 ((uM 7) + (1 : Int32)) 7)) cn sn cm us wt oc ou ow)), (ga 11, .inl (gc 11, 3, .inl a11)), (ga 18, .inl (gc 18, 3, .inl a18)), (ga 19, .inl (gc 19, 3, .inl a19)), (ga 23, .inl (gc 23, 3, .inl (upd a23 0 (1 : Int32))))]) [0, 1, 2, 3, 4] (by decide) rfl
              have hK9 := hK.sub (tys' := [(gc 11, .int), (gc 18, .int), (gc 19, .boolean), (gc 23, .boolean)]) [0, 1, 2, 3] rfl
              refine W.widen (k := 0) (n := 0) (Nat.le_of_ble_eq_true rfl) (Nat.le_of_ble_eq_true rfl) ?_
              exact W.iret (v := 1) hx hb hr (fun t ht hW => ⟨⟨_, (upd a23 0 (1 : Int32), upc uM 7 ((uM 7) + (1 : Int32)) 7), rfl, ⟨(Or.inr (Or.inr (Or.inl rfl))), (by rw [← hSP, s_M_vote]; try (rw [if_pos hc2]); try (rw [if_pos hc7]); try (rw [if_pos hc12]); try (rw [← hr20E, bnd_eq]); try (rw [if_pos hc21]); try (rw [← hr26E, bnd_eq]); try (rw [if_pos hc27]); try (rw [← hr29E, bnd_eq]); try (rw [if_neg hc30]); all_goals rfl)⟩, by rw [ht]; exact hP9, va_K.moved hW.alike hK9, hD9⟩, hS.F ht⟩) hS.2.2 d_M_vote_238
          · --  ¬ r25 = 0
            refine lv_aload_n hx hb d_M_vote_211 rfl (lv_at hl 5 rfl) ?_
            refine va_get (D := (dC, dI)) (ci := 6) (v := .ref (ga 23)) (C := "VotedTripleModel") (T := F_M) (N := 37) hx hb hw in_M hown hK hP 0 rfl rfl 23 (by decide) (hw _ k_747) (fun _ h9 => h9) rfl d_M_vote_212 ?_
            refine lv_iload_n hx hb d_M_vote_215 rfl (lv_at hl 3 rfl) ?_
            refine lv_iconst (v := 1) hx hb d_M_vote_216 (by decide) ?_
            refine va_zast hx hb hK hP hD hS 4 3 rfl rfl (by unfold vp_in; decide) d_M_vote_217 (fun H locs hP hD hS => ?_)
            replace hP : va_P (dC, dI) classes [(m0, .inr (6, oM ga (upc uM 7 ((uM 7) + (1 : Int32))) cn sn cm us wt oc ou ow)), (ga 11, .inl (gc 11, 3, .inl a11)), (ga 18, .inl (gc 18, 3, .inl a18)), (ga 19, .inl (gc 19, 3, .inl a19)), (ga 23, .inl (gc 23, 3, .inl (upd a23 1 (1 : Int32))))] H := hP
            replace hD : va_D A [(m0, .inr (6, oM ga (upc uM 7 ((uM 7) + (1 : Int32))) cn sn cm us wt oc ou ow)), (ga 11, .inl (gc 11, 3, .inl a11)), (ga 18, .inl (gc 18, 3, .inl a18)), (ga 19, .inl (gc 19, 3, .inl a19)), (ga 23, .inl (gc 23, 3, .inl (upd a23 1 (1 : Int32))))] := hD
            refine lv_iload_n hx hb d_M_vote_218 rfl (lv_at hl 4 rfl) ?_
            have hP9 := hP.sub (ws' := [(m0, .inr (6, oM ga (upc uM 7 (upc uM 7 ((uM 7) + (1 : Int32)) 7)) cn sn cm us wt oc ou ow)), (ga 11, .inl (gc 11, 3, .inl a11)), (ga 18, .inl (gc 18, 3, .inl a18)), (ga 19, .inl (gc 19, 3, .inl a19)), (ga 23, .inl (gc 23, 3, .inl (upd a23 1 (1 : Int32))))]) [0, 1, 2, 3, 4] rfl
            have hD9 := hD.sub (ws' := [(m0, .inr (6, oM ga (upc uM 7 (upc uM 7 ((uM 7) + (1 : Int32)) 7)) cn sn cm us wt oc ou ow)), (ga 11, .inl (gc 11, 3, .inl a11)), (ga 18, .inl (gc 18, 3, .inl a18)), (ga 19, .inl (gc 19, 3, .inl a19)), (ga 23, .inl (gc 23, 3, .inl (upd a23 1 (1 : Int32))))]) [0, 1, 2, 3, 4] (by decide) rfl
            have hK9 := hK.sub (tys' := [(gc 11, .int), (gc 18, .int), (gc 19, .boolean), (gc 23, .boolean)]) [0, 1, 2, 3] rfl
            refine W.widen (k := 0) (n := 0) (Nat.le_of_ble_eq_true rfl) (Nat.le_of_ble_eq_true rfl) ?_
            exact W.iret (v := 0) hx hb hr (fun t ht hW => ⟨⟨_, (upd a23 1 (1 : Int32), upc uM 7 ((uM 7) + (1 : Int32)) 7), rfl, ⟨(Or.inr (Or.inl rfl)), (by rw [← hSP, s_M_vote]; try (rw [if_pos hc2]); try (rw [if_pos hc7]); try (rw [if_pos hc12]); try (rw [← hr20E, bnd_eq]); try (rw [if_pos hc21]); try (rw [← hr26E, bnd_eq]); try (rw [if_neg hc27]); all_goals rfl)⟩, by rw [ht]; exact hP9, va_K.moved hW.alike hK9, hD9⟩, hS.F ht⟩) hS.2.2 d_M_vote_219
        · --  ¬ r19 = 0
          refine lv_aload_n hx hb d_M_vote_160 rfl (lv_at hl 5 rfl) ?_
          refine lv_iload_n hx hb d_M_vote_161 rfl (lv_at hl 3 rfl) ?_
          refine lv_iload hx hb d_M_vote_162 (lv_at hl 1 rfl) ?_
          replace hPc := hP.sub (ws' := [(m0, .inr (6, oM ga uM cn sn cm us wt oc ou ow)), (ga 18, .inl (gc 18, 3, .inl a18)), (ga 19, .inl (gc 19, 3, .inl a19))]) [0, 2, 3] rfl
          replace hKc := hK.sub (tys' := [(gc 18, .int), (gc 19, .boolean)]) [1, 2] rfl
          refine vp_callSi (va_runV (C := "VotedTripleModel") (As := [.int 1, .int 2]) (rest := []) ⟨hx, hb, hml, hown, hw⟩ (c_M_isLike l dC dI m0 ga gc uM cn sn cm us wt oc ou ow a18 a19 1 2 1 2 rfl (by decide) rfl (by decide)) (cwV 2 hw (gdV (k_907) (k_904) (k_906) (ks_29) (k_8)) rfl rfl rfl (by decide +kernel) ⟨Nat.le_of_ble_eq_true rfl, Nat.le_of_ble_eq_true rfl⟩) ⟨fun a U g mk q => ⟨q.1, q.2.1, va_K.moved (u := U) (U := U.calling g mk a) (Vm.Alike.refl U.vm) q.2.2⟩, va_recv hK hP rfl (q0 := 0) rfl, fun U hU hW => ⟨rfl, by rw [hU]; exact hPc, va_K.moved hW.alike hKc⟩⟩ rfl rfl hl.1 rfl (lv_room (Nat.le_of_ble_eq_true rfl)) d_M_vote_164 ⟨Nat.le_of_ble_eq_true rfl, Nat.le_of_ble_eq_true rfl⟩).run (fun r31 hr32 => ?_)
          obtain ⟨hr32, hr32E⟩ := hr32
          refine lv_if_eq (tgt := 172) hx hb d_M_vote_167 rfl (fun hc33 => ?_) (fun hc33 => ?_)
          · --  r31 = 0
            refine lv_aload_n hx hb d_M_vote_172 rfl (lv_at hl 5 rfl) ?_
            refine lv_dup hx hb d_M_vote_173 rfl ?_
            refine va_get (D := (dC, dI)) (ci := 6) (v := .int (uM 7)) (C := "VotedTripleModel") (T := F_M) (N := 37) hx hb hw in_M hown hK hP 0 rfl rfl 7 (by decide) (hw _ k_731) (fun _ h9 => h9) rfl d_M_vote_174 ?_
            refine lv_iconst (v := 1) hx hb d_M_vote_177 (by decide) ?_
            refine lv_iadd hx hb d_M_vote_178 ?_
            refine va_put (D := (dC, dI)) (ci := 6) (v := .int ((uM 7) + (1 : Int32))) (ty := .int) (C := "VotedTripleModel") (T := F_M) (N := 37) hx hb hw in_M ft_M tyok_M nm_M hown hK hP hD hS 0 rfl rfl 7 (by decide) (hw _ k_731) (fun _ h9 => h9) rfl (by decide +kernel) rfl rfl (Nat.le_of_ble_eq_true rfl) d_M_vote_179 (fun H locs hP hD hS => ?_)
            replace hP : va_P (dC, dI) classes [(m0, .inr (6, [.int (uM 0), .int (nI cn), .ref (ga 2), .int (uM 3), .int (uM 4), .int (uM 5), .int (nI sn), .int ((uM 7) + (1 : Int32)), .ref (ga 8), .ref (ga 9), .ref (ga 10), .ref (ga 11), .ref (ga 12), .ref (ga 13), .ref (ga 14), .ref (ga 15), .ref (ga 16), .ref (ga 17), .ref (ga 18), .ref (ga 19), .ref (ga 20), .ref (ga 21), .ref (ga 22), .ref (ga 23), .int (uM 24), .int (uM 25), .int (nI cm), .int (nI us), .ref (ga 28), .int (nI wt), .ref (ga 30), .ref (ga 31), .ref (ga 32), .int (nI oc), .int (nI ou), .int (nI ow), .ref (ga 36)])), (ga 11, .inl (gc 11, 3, .inl a11)), (ga 18, .inl (gc 18, 3, .inl a18)), (ga 19, .inl (gc 19, 3, .inl a19)), (ga 23, .inl (gc 23, 3, .inl a23))] H := hP
            replace hD : va_D A [(m0, .inr (6, [.int (uM 0), .int (nI cn), .ref (ga 2), .int (uM 3), .int (uM 4), .int (uM 5), .int (nI sn), .int ((uM 7) + (1 : Int32)), .ref (ga 8), .ref (ga 9), .ref (ga 10), .ref (ga 11), .ref (ga 12), .ref (ga 13), .ref (ga 14), .ref (ga 15), .ref (ga 16), .ref (ga 17), .ref (ga 18), .ref (ga 19), .ref (ga 20), .ref (ga 21), .ref (ga 22), .ref (ga 23), .int (uM 24), .int (uM 25), .int (nI cm), .int (nI us), .ref (ga 28), .int (nI wt), .ref (ga 30), .ref (ga 31), .ref (ga 32), .int (nI oc), .int (nI ou), .int (nI ow), .ref (ga 36)])), (ga 11, .inl (gc 11, 3, .inl a11)), (ga 18, .inl (gc 18, 3, .inl a18)), (ga 19, .inl (gc 19, 3, .inl a19)), (ga 23, .inl (gc 23, 3, .inl a23))] := hD
            refine lv_aload_n hx hb d_M_vote_182 rfl (lv_at hl 5 rfl) ?_
            refine lv_iload_n hx hb d_M_vote_183 rfl (lv_at hl 4 rfl) ?_
            refine lv_iload_n hx hb d_M_vote_184 rfl (lv_at hl 3 rfl) ?_
            replace hP : va_P (dC, dI) classes [(m0, .inr (6, oM ga (upc uM 7 ((uM 7) + (1 : Int32))) cn sn cm us wt oc ou ow)), (ga 11, .inl (gc 11, 3, .inl a11)), (ga 18, .inl (gc 18, 3, .inl a18)), (ga 19, .inl (gc 19, 3, .inl a19)), (ga 23, .inl (gc 23, 3, .inl a23))] H := hP
            replace hD : va_D A [(m0, .inr (6, oM ga (upc uM 7 ((uM 7) + (1 : Int32))) cn sn cm us wt oc ou ow)), (ga 11, .inl (gc 11, 3, .inl a11)), (ga 18, .inl (gc 18, 3, .inl a18)), (ga 19, .inl (gc 19, 3, .inl a19)), (ga 23, .inl (gc 23, 3, .inl a23))] := hD
            replace hPc := hP.sub (ws' := [(m0, .inr (6, oM ga (upc uM 7 ((uM 7) + (1 : Int32))) cn sn cm us wt oc ou ow)), (ga 18, .inl (gc 18, 3, .inl a18)), (ga 19, .inl (gc 19, 3, .inl a19))]) [0, 2, 3] rfl
            replace hKc := hK.sub (tys' := [(gc 18, .int), (gc 19, .boolean)]) [1, 2] rfl
            refine vp_callSi (va_runV (C := "VotedTripleModel") (As := [.int 0, .int 1]) (rest := []) ⟨hx, hb, hml, hown, hw⟩ (c_M_isLike l dC dI m0 ga gc (upc uM 7 ((uM 7) + (1 : Int32))) cn sn cm us wt oc ou ow a18 a19 0 1 0 1 rfl (by decide) rfl (by decide)) (cwV 2 hw (gdV (k_907) (k_904) (k_906) (ks_29) (k_8)) rfl rfl rfl (by decide +kernel) ⟨Nat.le_of_ble_eq_true rfl, Nat.le_of_ble_eq_true rfl⟩) ⟨fun a U g mk q => ⟨q.1, q.2.1, va_K.moved (u := U) (U := U.calling g mk a) (Vm.Alike.refl U.vm) q.2.2⟩, va_recv hK hP rfl (q0 := 0) rfl, fun U hU hW => ⟨rfl, by rw [hU]; exact hPc, va_K.moved hW.alike hKc⟩⟩ rfl rfl hl.1 rfl (lv_room (Nat.le_of_ble_eq_true rfl)) d_M_vote_185 ⟨Nat.le_of_ble_eq_true rfl, Nat.le_of_ble_eq_true rfl⟩).run (fun r34 hr35 => ?_)
            obtain ⟨hr35, hr35E⟩ := hr35
            obtain rfl : r19 = r34 := hr20E.trans hr35E.symm
            refine lv_if_eq (tgt := 201) hx hb d_M_vote_188 rfl (fun hc36 => by first | exact absurd hc36 (hc21) | exact absurd (hc21) hc36) (fun hc36 => ?_)
            refine lv_aload_n hx hb d_M_vote_191 rfl (lv_at hl 5 rfl) ?_
            refine va_get (D := (dC, dI)) (ci := 6) (v := .ref (ga 23)) (C := "VotedTripleModel") (T := F_M) (N := 37) hx hb hw in_M hown hK hP 0 rfl rfl 23 (by decide) (hw _ k_747) (fun _ h9 => h9) rfl d_M_vote_192 ?_
            refine lv_iload hx hb d_M_vote_195 (lv_at hl 1 rfl) ?_
            refine lv_iconst (v := 1) hx hb d_M_vote_197 (by decide) ?_
            refine va_zast hx hb hK hP hD hS 4 3 rfl rfl (by unfold vp_in; decide) d_M_vote_198 (fun H locs hP hD hS => ?_)
            replace hP : va_P (dC, dI) classes [(m0, .inr (6, oM ga (upc uM 7 ((uM 7) + (1 : Int32))) cn sn cm us wt oc ou ow)), (ga 11, .inl (gc 11, 3, .inl a11)), (ga 18, .inl (gc 18, 3, .inl a18)), (ga 19, .inl (gc 19, 3, .inl a19)), (ga 23, .inl (gc 23, 3, .inl (upd a23 2 (1 : Int32))))] H := hP
            replace hD : va_D A [(m0, .inr (6, oM ga (upc uM 7 ((uM 7) + (1 : Int32))) cn sn cm us wt oc ou ow)), (ga 11, .inl (gc 11, 3, .inl a11)), (ga 18, .inl (gc 18, 3, .inl a18)), (ga 19, .inl (gc 19, 3, .inl a19)), (ga 23, .inl (gc 23, 3, .inl (upd a23 2 (1 : Int32))))] := hD
            refine lv_iload_n hx hb d_M_vote_199 rfl (lv_at hl 4 rfl) ?_
            have hP9 := hP.sub (ws' := [(m0, .inr (6, oM ga (upc uM 7 (upc uM 7 ((uM 7) + (1 : Int32)) 7)) cn sn cm us wt oc ou ow)), (ga 11, .inl (gc 11, 3, .inl a11)), (ga 18, .inl (gc 18, 3, .inl a18)), (ga 19, .inl (gc 19, 3, .inl a19)), (ga 23, .inl (gc 23, 3, .inl (upd a23 2 (1 : Int32))))]) [0, 1, 2, 3, 4] rfl
            have hD9 := hD.sub (ws' := [(m0, .inr (6, oM ga (upc uM 7 (upc uM 7 ((uM 7) + (1 : Int32)) 7)) cn sn cm us wt oc ou ow)), (ga 11, .inl (gc 11, 3, .inl a11)), (ga 18, .inl (gc 18, 3, .inl a18)), (ga 19, .inl (gc 19, 3, .inl a19)), (ga 23, .inl (gc 23, 3, .inl (upd a23 2 (1 : Int32))))]) [0, 1, 2, 3, 4] (by decide) rfl
            have hK9 := hK.sub (tys' := [(gc 11, .int), (gc 18, .int), (gc 19, .boolean), (gc 23, .boolean)]) [0, 1, 2, 3] rfl
            refine W.widen (k := 0) (n := 0) (Nat.le_of_ble_eq_true rfl) (Nat.le_of_ble_eq_true rfl) ?_
            exact W.iret (v := 0) hx hb hr (fun t ht hW => ⟨⟨_, (upd a23 2 (1 : Int32), upc uM 7 ((uM 7) + (1 : Int32)) 7), rfl, ⟨(Or.inr (Or.inl rfl)), (by rw [← hSP, s_M_vote]; try (rw [if_pos hc2]); try (rw [if_pos hc7]); try (rw [if_pos hc12]); try (rw [← hr20E, bnd_eq]); try (rw [if_neg hc21]); try (rw [← hr32E, bnd_eq]); try (rw [if_pos hc33]); all_goals rfl)⟩, by rw [ht]; exact hP9, va_K.moved hW.alike hK9, hD9⟩, hS.F ht⟩) hS.2.2 d_M_vote_200
          · --  ¬ r31 = 0
            refine lv_iload_n hx hb d_M_vote_170 rfl (lv_at hl 4 rfl) ?_
            have hP9 := hP.sub (ws' := [(m0, .inr (6, oM ga (upc uM 7 (uM 7)) cn sn cm us wt oc ou ow)), (ga 11, .inl (gc 11, 3, .inl a11)), (ga 18, .inl (gc 18, 3, .inl a18)), (ga 19, .inl (gc 19, 3, .inl a19)), (ga 23, .inl (gc 23, 3, .inl a23))]) [0, 1, 2, 3, 4] rfl
            have hD9 := hD.sub (ws' := [(m0, .inr (6, oM ga (upc uM 7 (uM 7)) cn sn cm us wt oc ou ow)), (ga 11, .inl (gc 11, 3, .inl a11)), (ga 18, .inl (gc 18, 3, .inl a18)), (ga 19, .inl (gc 19, 3, .inl a19)), (ga 23, .inl (gc 23, 3, .inl a23))]) [0, 1, 2, 3, 4] (by decide) rfl
            have hK9 := hK.sub (tys' := [(gc 11, .int), (gc 18, .int), (gc 19, .boolean), (gc 23, .boolean)]) [0, 1, 2, 3] rfl
            refine W.widen (k := 0) (n := 0) (Nat.le_of_ble_eq_true rfl) (Nat.le_of_ble_eq_true rfl) ?_
            exact W.iret (v := 0) hx hb hr (fun t ht hW => ⟨⟨_, (a23, uM 7), rfl, ⟨(Or.inr (Or.inl rfl)), (by rw [← hSP, s_M_vote]; try (rw [if_pos hc2]); try (rw [if_pos hc7]); try (rw [if_pos hc12]); try (rw [← hr20E, bnd_eq]); try (rw [if_neg hc21]); try (rw [← hr32E, bnd_eq]); try (rw [if_neg hc33]); all_goals rfl)⟩, by rw [ht]; exact hP9, va_K.moved hW.alike hK9, hD9⟩, hS.F ht⟩) hS.2.2 d_M_vote_171
      · --  ¬ (a11 2) = 0
        refine lv_goto (tgt := 59) hx hb d_M_vote_28 rfl ?_
        refine lv_iinc (k := 0) (v := 3) hx hb d_M_vote_59 hl rfl rfl (by decide) rfl (fun ls hl => ?_)
        replace hl : lv_has ls 6 [(5, .int 3), (3, .int 1), (1, .int 2), (2, .int 0), (4, .int (-1)), (0, .ref m0)] := hl
        refine lv_goto (tgt := 12) hx hb d_M_vote_62 rfl ?_
        refine lv_iload hx hb d_M_vote_12 (lv_at hl 0 rfl) ?_
        refine lv_iconst (v := 3) hx hb d_M_vote_14 (by decide) ?_
        refine lv_icmp_ge (tgt := 65) hx hb d_M_vote_15 rfl (fun hc37 => ?_) (fun hc37 => by first | exact absurd (by decide) hc37 | exact absurd hc37 (by decide))
        refine lv_iload_n hx hb d_M_vote_65 rfl (lv_at hl 2 rfl) ?_
        refine lv_iconst (v := 1) hx hb d_M_vote_66 (by decide) ?_
        refine lv_icmp_ne (tgt := 72) hx hb d_M_vote_67 rfl (fun hc38 => ?_) (fun hc38 => by first | exact absurd (by decide) hc38 | exact absurd hc38 (by decide))
        refine lv_iload_n hx hb d_M_vote_72 rfl (lv_at hl 2 rfl) ?_
        refine lv_iconst (v := 2) hx hb d_M_vote_73 (by decide) ?_
        refine lv_icmp_ne (tgt := 151) hx hb d_M_vote_74 rfl (fun hc39 => by first | exact absurd hc39 (fun hh => hh rfl) | exact absurd (fun hh => hh rfl) hc39) (fun hc39 => ?_)
        refine lv_aload_n hx hb d_M_vote_77 rfl (lv_at hl 5 rfl) ?_
        refine lv_iload_n hx hb d_M_vote_78 rfl (lv_at hl 3 rfl) ?_
        refine lv_iload_n hx hb d_M_vote_79 rfl (lv_at hl 1 rfl) ?_
        replace hPc := hP.sub (ws' := [(m0, .inr (6, oM ga uM cn sn cm us wt oc ou ow)), (ga 18, .inl (gc 18, 3, .inl a18)), (ga 19, .inl (gc 19, 3, .inl a19))]) [0, 2, 3] rfl
        replace hKc := hK.sub (tys' := [(gc 18, .int), (gc 19, .boolean)]) [1, 2] rfl
        refine vp_callSi (va_runV (C := "VotedTripleModel") (As := [.int 0, .int 1]) (rest := []) ⟨hx, hb, hml, hown, hw⟩ (c_M_isLike l dC dI m0 ga gc uM cn sn cm us wt oc ou ow a18 a19 0 1 0 1 rfl (by decide) rfl (by decide)) (cwV 2 hw (gdV (k_907) (k_904) (k_906) (ks_29) (k_8)) rfl rfl rfl (by decide +kernel) ⟨Nat.le_of_ble_eq_true rfl, Nat.le_of_ble_eq_true rfl⟩) ⟨fun a U g mk q => ⟨q.1, q.2.1, va_K.moved (u := U) (U := U.calling g mk a) (Vm.Alike.refl U.vm) q.2.2⟩, va_recv hK hP rfl (q0 := 0) rfl, fun U hU hW => ⟨rfl, by rw [hU]; exact hPc, va_K.moved hW.alike hKc⟩⟩ rfl rfl hl.1 rfl (lv_room (Nat.le_of_ble_eq_true rfl)) d_M_vote_80 ⟨Nat.le_of_ble_eq_true rfl, Nat.le_of_ble_eq_true rfl⟩).run (fun r40 hr41 => ?_)
        obtain ⟨hr41, hr41E⟩ := hr41
        refine lv_if_eq (tgt := 88) hx hb d_M_vote_83 rfl (fun hc42 => ?_) (fun hc42 => ?_)
        · --  r40 = 0
          refine lv_aload_n hx hb d_M_vote_88 rfl (lv_at hl 5 rfl) ?_
          refine lv_dup hx hb d_M_vote_89 rfl ?_
          refine va_get (D := (dC, dI)) (ci := 6) (v := .int (uM 7)) (C := "VotedTripleModel") (T := F_M) (N := 37) hx hb hw in_M hown hK hP 0 rfl rfl 7 (by decide) (hw _ k_731) (fun _ h9 => h9) rfl d_M_vote_90 ?_
          refine lv_iconst (v := 1) hx hb d_M_vote_93 (by decide) ?_
          refine lv_iadd hx hb d_M_vote_94 ?_
          refine va_put (D := (dC, dI)) (ci := 6) (v := .int ((uM 7) + (1 : Int32))) (ty := .int) (C := "VotedTripleModel") (T := F_M) (N := 37) hx hb hw in_M ft_M tyok_M nm_M hown hK hP hD hS 0 rfl rfl 7 (by decide) (hw _ k_731) (fun _ h9 => h9) rfl (by decide +kernel) rfl rfl (Nat.le_of_ble_eq_true rfl) d_M_vote_95 (fun H locs hP hD hS => ?_)
          replace hP : va_P (dC, dI) classes [(m0, .inr (6, [.int (uM 0), .int (nI cn), .ref (ga 2), .int (uM 3), .int (uM 4), .int (uM 5), .int (nI sn), .int ((uM 7) + (1 : Int32)), .ref (ga 8), .ref (ga 9), .ref (ga 10), .ref (ga 11), .ref (ga 12), .ref (ga 13), .ref (ga 14), .ref (ga 15), .ref (ga 16), .ref (ga 17), .ref (ga 18), .ref (ga 19), .ref (ga 20), .ref (ga 21), .ref (ga 22), .ref (ga 23), .int (uM 24), .int (uM 25), .int (nI cm), .int (nI us), .ref (ga 28), .int (nI wt), .ref (ga 30), .ref (ga 31), .ref (ga 32), .int (nI oc), .int (nI ou), .int (nI ow), .ref (ga 36)])), (ga 11, .inl (gc 11, 3, .inl a11)), (ga 18, .inl (gc 18, 3, .inl a18)), (ga 19, .inl (gc 19, 3, .inl a19)), (ga 23, .inl (gc 23, 3, .inl a23))] H := hP
          replace hD : va_D A [(m0, .inr (6, [.int (uM 0), .int (nI cn), .ref (ga 2), .int (uM 3), .int (uM 4), .int (uM 5), .int (nI sn), .int ((uM 7) + (1 : Int32)), .ref (ga 8), .ref (ga 9), .ref (ga 10), .ref (ga 11), .ref (ga 12), .ref (ga 13), .ref (ga 14), .ref (ga 15), .ref (ga 16), .ref (ga 17), .ref (ga 18), .ref (ga 19), .ref (ga 20), .ref (ga 21), .ref (ga 22), .ref (ga 23), .int (uM 24), .int (uM 25), .int (nI cm), .int (nI us), .ref (ga 28), .int (nI wt), .ref (ga 30), .ref (ga 31), .ref (ga 32), .int (nI oc), .int (nI ou), .int (nI ow), .ref (ga 36)])), (ga 11, .inl (gc 11, 3, .inl a11)), (ga 18, .inl (gc 18, 3, .inl a18)), (ga 19, .inl (gc 19, 3, .inl a19)), (ga 23, .inl (gc 23, 3, .inl a23))] := hD
          refine lv_aload_n hx hb d_M_vote_98 rfl (lv_at hl 5 rfl) ?_
          refine va_get (D := (dC, dI)) (ci := 6) (v := .ref (ga 19)) (C := "VotedTripleModel") (T := F_M) (N := 37) hx hb hw in_M hown hK hP 0 rfl rfl 19 (by decide) (hw _ k_743) (fun _ h9 => h9) rfl d_M_vote_99 ?_
          refine lv_iload_n hx hb d_M_vote_102 rfl (lv_at hl 3 rfl) ?_
          refine va_zald hx hb hK hP 3 2 rfl rfl (by unfold vp_in; decide) d_M_vote_103 ?_
          refine W.eq (g2 := F0 m 104 ls [.int (a19 0)]) rfl ?_
          refine lv_aload_n hx hb d_M_vote_104 rfl (lv_at hl 5 rfl) ?_
          refine va_get (D := (dC, dI)) (ci := 6) (v := .ref (ga 19)) (C := "VotedTripleModel") (T := F_M) (N := 37) hx hb hw in_M hown hK hP 0 rfl rfl 19 (by decide) (hw _ k_743) (fun _ h9 => h9) rfl d_M_vote_105 ?_
          refine lv_iload_n hx hb d_M_vote_108 rfl (lv_at hl 1 rfl) ?_
          refine va_zald hx hb hK hP 3 2 rfl rfl (by unfold vp_in; decide) d_M_vote_109 ?_
          refine W.eq (g2 := F0 m 110 ls [.int (a19 1), .int (a19 0)]) rfl ?_
          refine lv_icmp_ne (tgt := 115) hx hb d_M_vote_110 rfl (fun hc43 => ?_) (fun hc43 => ?_)
          · --  ¬ (a19 0) = (a19 1)
            refine lv_aload_n hx hb d_M_vote_115 rfl (lv_at hl 5 rfl) ?_
            refine va_get (D := (dC, dI)) (ci := 6) (v := .ref (ga 19)) (C := "VotedTripleModel") (T := F_M) (N := 37) hx hb hw in_M hown hK hP 0 rfl rfl 19 (by decide) (hw _ k_743) (fun _ h9 => h9) rfl d_M_vote_116 ?_
            refine lv_iload_n hx hb d_M_vote_119 rfl (lv_at hl 3 rfl) ?_
            refine va_zald hx hb hK hP 3 2 rfl rfl (by unfold vp_in; decide) d_M_vote_120 ?_
            refine W.eq (g2 := F0 m 121 ls [.int (a19 0)]) rfl ?_
            refine lv_if_eq (tgt := 128) hx hb d_M_vote_121 rfl (fun hc44 => ?_) (fun hc44 => ?_)
            · --  (a19 0) = 0
              refine lv_iload_n hx hb d_M_vote_128 rfl (lv_at hl 1 rfl) ?_
              refine lv_istore hx hb d_M_vote_129 hl (by decide) rfl (fun ls hl => ?_)
              replace hl : lv_has ls 6 [(5, .int 1), (3, .int 1), (1, .int 2), (2, .int 0), (4, .int (-1)), (0, .ref m0)] := hl
              refine lv_aload_n hx hb d_M_vote_131 rfl (lv_at hl 5 rfl) ?_
              refine va_get (D := (dC, dI)) (ci := 6) (v := .ref (ga 23)) (C := "VotedTripleModel") (T := F_M) (N := 37) hx hb hw in_M hown hK hP 0 rfl rfl 23 (by decide) (hw _ k_747) (fun _ h9 => h9) rfl d_M_vote_132 ?_
              refine lv_iload hx hb d_M_vote_135 (lv_at hl 0 rfl) ?_
              refine lv_iconst (v := 1) hx hb d_M_vote_137 (by decide) ?_
              refine va_zast hx hb hK hP hD hS 4 3 rfl rfl (by unfold vp_in; decide) d_M_vote_138 (fun H locs hP hD hS => ?_)
              replace hP : va_P (dC, dI) classes [(m0, .inr (6, [.int (uM 0), .int (nI cn), .ref (ga 2), .int (uM 3), .int (uM 4), .int (uM 5), .int (nI sn), .int ((uM 7) + (1 : Int32)), .ref (ga 8), .ref (ga 9), .ref (ga 10), .ref (ga 11), .ref (ga 12), .ref (ga 13), .ref (ga 14), .ref (ga 15), .ref (ga 16), .ref (ga 17), .ref (ga 18), .ref (ga 19), .ref (ga 20), .ref (ga 21), .ref (ga 22), .ref (ga 23), .int (uM 24), .int (uM 25), .int (nI cm), .int (nI us), .ref (ga 28), .int (nI wt), .ref (ga 30), .ref (ga 31), .ref (ga 32), .int (nI oc), .int (nI ou), .int (nI ow), .ref (ga 36)])), (ga 11, .inl (gc 11, 3, .inl a11)), (ga 18, .inl (gc 18, 3, .inl a18)), (ga 19, .inl (gc 19, 3, .inl a19)), (ga 23, .inl (gc 23, 3, .inl (upd a23 1 (1 : Int32))))] H := hP
              replace hD : va_D A [(m0, .inr (6, [.int (uM 0), .int (nI cn), .ref (ga 2), .int (uM 3), .int (uM 4), .int (uM 5), .int (nI sn), .int ((uM 7) + (1 : Int32)), .ref (ga 8), .ref (ga 9), .ref (ga 10), .ref (ga 11), .ref (ga 12), .ref (ga 13), .ref (ga 14), .ref (ga 15), .ref (ga 16), .ref (ga 17), .ref (ga 18), .ref (ga 19), .ref (ga 20), .ref (ga 21), .ref (ga 22), .ref (ga 23), .int (uM 24), .int (uM 25), .int (nI cm), .int (nI us), .ref (ga 28), .int (nI wt), .ref (ga 30), .ref (ga 31), .ref (ga 32), .int (nI oc), .int (nI ou), .int (nI ow), .ref (ga 36)])), (ga 11, .inl (gc 11, 3, .inl a11)), (ga 18, .inl (gc 18, 3, .inl a18)), (ga 19, .inl (gc 19, 3, .inl a19)), (ga 23, .inl (gc 23, 3, .inl (upd a23 1 (1 : Int32))))] := hD
              refine lv_iload hx hb d_M_vote_139 (lv_at hl 0 rfl) ?_
              refine lv_iload_n hx hb d_M_vote_141 rfl (lv_at hl 3 rfl) ?_
              refine lv_icmp_ne (tgt := 149) hx hb d_M_vote_142 rfl (fun hc45 => ?_) (fun hc45 => by first | exact absurd (by decide) hc45 | exact absurd hc45 (by decide))
              refine lv_iload_n hx hb d_M_vote_149 rfl (lv_at hl 3 rfl) ?_
              have hP9 := hP.sub (ws' := [(m0, .inr (6, oM ga (upc uM 7 ((uM 7) + (1 : Int32))) cn sn cm us wt oc ou ow)), (ga 11, .inl (gc 11, 3, .inl a11)), (ga 18, .inl (gc 18, 3, .inl a18)), (ga 19, .inl (gc 19, 3, .inl a19)), (ga 23, .inl (gc 23, 3, .inl (upd a23 1 (1 : Int32))))]) [0, 1, 2, 3, 4] rfl
              have hD9 := hD.sub (ws' := [(m0, .inr (6, oM ga (upc uM 7 ((uM 7) + (1 : Int32))) cn sn cm us wt oc ou ow)), (ga 11, .inl (gc 11, 3, .inl a11)), (ga 18, .inl (gc 18, 3, .inl a18)), (ga 19, .inl (gc 19, 3, .inl a19)), (ga 23, .inl (gc 23, 3, .inl (upd a23 1 (1 : Int32))))]) [0, 1, 2, 3, 4] (by decide) rfl
              have hK9 := hK.sub (tys' := [(gc 11, .int), (gc 18, .int), (gc 19, .boolean), (gc 23, .boolean)]) [0, 1, 2, 3] rfl
              refine W.widen (k := 0) (n := 0) (Nat.le_of_ble_eq_true rfl) (Nat.le_of_ble_eq_true rfl) ?_
              exact W.iret (v := 0) hx hb hr (fun t ht hW => ⟨⟨_, (upd a23 1 (1 : Int32), (uM 7) + (1 : Int32)), rfl, ⟨(Or.inr (Or.inl rfl)), (by rw [← hSP, s_M_vote]; try (rw [if_pos hc2]); try (rw [if_pos hc7]); try (rw [if_neg hc12]); try (rw [← hr41E, bnd_eq]); try (rw [if_pos hc42]); try (rw [if_neg hc43]); try (rw [if_pos hc44]); all_goals rfl)⟩, by rw [ht]; exact hP9, va_K.moved hW.alike hK9, hD9⟩, hS.F ht⟩) hS.2.2 d_M_vote_150
            · --  ¬ (a19 0) = 0
              refine lv_iload_n hx hb d_M_vote_124 rfl (lv_at hl 3 rfl) ?_
              refine lv_goto (tgt := 129) hx hb d_M_vote_125 rfl ?_
              refine lv_istore hx hb d_M_vote_129 hl (by decide) rfl (fun ls hl => ?_)
              replace hl : lv_has ls 6 [(5, .int 0), (3, .int 1), (1, .int 2), (2, .int 0), (4, .int (-1)), (0, .ref m0)] := hl
              refine lv_aload_n hx hb d_M_vote_131 rfl (lv_at hl 5 rfl) ?_
              refine va_get (D := (dC, dI)) (ci := 6) (v := .ref (ga 23)) (C := "VotedTripleModel") (T := F_M) (N := 37) hx hb hw in_M hown hK hP 0 rfl rfl 23 (by decide) (hw _ k_747) (fun _ h9 => h9) rfl d_M_vote_132 ?_
              refine lv_iload hx hb d_M_vote_135 (lv_at hl 0 rfl) ?_
              refine lv_iconst (v := 1) hx hb d_M_vote_137 (by decide) ?_
              refine va_zast hx hb hK hP hD hS 4 3 rfl rfl (by unfold vp_in; decide) d_M_vote_138 (fun H locs hP hD hS => ?_)
              replace hP : va_P (dC, dI) classes [(m0, .inr (6, [.int (uM 0), .int (nI cn), .ref (ga 2), .int (uM 3), .int (uM 4), .int (uM 5), .int (nI sn), .int ((uM 7) + (1 : Int32)), .ref (ga 8), .ref (ga 9), .ref (ga 10), .ref (ga 11), .ref (ga 12), .ref (ga 13), .ref (ga 14), .ref (ga 15), .ref (ga 16), .ref (ga 17), .ref (ga 18), .ref (ga 19), .ref (ga 20), .ref (ga 21), .ref (ga 22), .ref (ga 23), .int (uM 24), .int (uM 25), .int (nI cm), .int (nI us), .ref (ga 28), .int (nI wt), .ref (ga 30), .ref (ga 31), .ref (ga 32), .int (nI oc), .int (nI ou), .int (nI ow), .ref (ga 36)])), (ga 11, .inl (gc 11, 3, .inl a11)), (ga 18, .inl (gc 18, 3, .inl a18)), (ga 19, .inl (gc 19, 3, .inl a19)), (ga 23, .inl (gc 23, 3, .inl (upd a23 0 (1 : Int32))))] H := hP
              replace hD : va_D A [(m0, .inr (6, [.int (uM 0), .int (nI cn), .ref (ga 2), .int (uM 3), .int (uM 4), .int (uM 5), .int (nI sn), .int ((uM 7) + (1 : Int32)), .ref (ga 8), .ref (ga 9), .ref (ga 10), .ref (ga 11), .ref (ga 12), .ref (ga 13), .ref (ga 14), .ref (ga 15), .ref (ga 16), .ref (ga 17), .ref (ga 18), .ref (ga 19), .ref (ga 20), .ref (ga 21), .ref (ga 22), .ref (ga 23), .int (uM 24), .int (uM 25), .int (nI cm), .int (nI us), .ref (ga 28), .int (nI wt), .ref (ga 30), .ref (ga 31), .ref (ga 32), .int (nI oc), .int (nI ou), .int (nI ow), .ref (ga 36)])), (ga 11, .inl (gc 11, 3, .inl a11)), (ga 18, .inl (gc 18, 3, .inl a18)), (ga 19, .inl (gc 19, 3, .inl a19)), (ga 23, .inl (gc 23, 3, .inl (upd a23 0 (1 : Int32))))] := hD
              refine lv_iload hx hb d_M_vote_139 (lv_at hl 0 rfl) ?_
              refine lv_iload_n hx hb d_M_vote_141 rfl (lv_at hl 3 rfl) ?_
              refine lv_icmp_ne (tgt := 149) hx hb d_M_vote_142 rfl (fun hc46 => by first | exact absurd hc46 (fun hh => hh rfl) | exact absurd (fun hh => hh rfl) hc46) (fun hc46 => ?_)
              refine lv_iload_n hx hb d_M_vote_145 rfl (lv_at hl 1 rfl) ?_
              refine lv_goto (tgt := 150) hx hb d_M_vote_146 rfl ?_
              have hP9 := hP.sub (ws' := [(m0, .inr (6, oM ga (upc uM 7 ((uM 7) + (1 : Int32))) cn sn cm us wt oc ou ow)), (ga 11, .inl (gc 11, 3, .inl a11)), (ga 18, .inl (gc 18, 3, .inl a18)), (ga 19, .inl (gc 19, 3, .inl a19)), (ga 23, .inl (gc 23, 3, .inl (upd a23 0 (1 : Int32))))]) [0, 1, 2, 3, 4] rfl
              have hD9 := hD.sub (ws' := [(m0, .inr (6, oM ga (upc uM 7 ((uM 7) + (1 : Int32))) cn sn cm us wt oc ou ow)), (ga 11, .inl (gc 11, 3, .inl a11)), (ga 18, .inl (gc 18, 3, .inl a18)), (ga 19, .inl (gc 19, 3, .inl a19)), (ga 23, .inl (gc 23, 3, .inl (upd a23 0 (1 : Int32))))]) [0, 1, 2, 3, 4] (by decide) rfl
              have hK9 := hK.sub (tys' := [(gc 11, .int), (gc 18, .int), (gc 19, .boolean), (gc 23, .boolean)]) [0, 1, 2, 3] rfl
              refine W.widen (k := 0) (n := 0) (Nat.le_of_ble_eq_true rfl) (Nat.le_of_ble_eq_true rfl) ?_
              exact W.iret (v := 1) hx hb hr (fun t ht hW => ⟨⟨_, (upd a23 0 (1 : Int32), (uM 7) + (1 : Int32)), rfl, ⟨(Or.inr (Or.inr (Or.inl rfl))), (by rw [← hSP, s_M_vote]; try (rw [if_pos hc2]); try (rw [if_pos hc7]); try (rw [if_neg hc12]); try (rw [← hr41E, bnd_eq]); try (rw [if_pos hc42]); try (rw [if_neg hc43]); try (rw [if_neg hc44]); all_goals rfl)⟩, by rw [ht]; exact hP9, va_K.moved hW.alike hK9, hD9⟩, hS.F ht⟩) hS.2.2 d_M_vote_150
          · --  (a19 0) = (a19 1)
            refine lv_iconst (v := (-1)) hx hb d_M_vote_113 (by decide) ?_
            have hP9 := hP.sub (ws' := [(m0, .inr (6, oM ga (upc uM 7 ((uM 7) + (1 : Int32))) cn sn cm us wt oc ou ow)), (ga 11, .inl (gc 11, 3, .inl a11)), (ga 18, .inl (gc 18, 3, .inl a18)), (ga 19, .inl (gc 19, 3, .inl a19)), (ga 23, .inl (gc 23, 3, .inl a23))]) [0, 1, 2, 3, 4] rfl
            have hD9 := hD.sub (ws' := [(m0, .inr (6, oM ga (upc uM 7 ((uM 7) + (1 : Int32))) cn sn cm us wt oc ou ow)), (ga 11, .inl (gc 11, 3, .inl a11)), (ga 18, .inl (gc 18, 3, .inl a18)), (ga 19, .inl (gc 19, 3, .inl a19)), (ga 23, .inl (gc 23, 3, .inl a23))]) [0, 1, 2, 3, 4] (by decide) rfl
            have hK9 := hK.sub (tys' := [(gc 11, .int), (gc 18, .int), (gc 19, .boolean), (gc 23, .boolean)]) [0, 1, 2, 3] rfl
            refine W.widen (k := 0) (n := 0) (Nat.le_of_ble_eq_true rfl) (Nat.le_of_ble_eq_true rfl) ?_
            exact W.iret (v := (-1)) hx hb hr (fun t ht hW => ⟨⟨_, (a23, (uM 7) + (1 : Int32)), rfl, ⟨(Or.inl rfl), (by rw [← hSP, s_M_vote]; try (rw [if_pos hc2]); try (rw [if_pos hc7]); try (rw [if_neg hc12]); try (rw [← hr41E, bnd_eq]); try (rw [if_pos hc42]); try (rw [if_pos hc43]); all_goals rfl)⟩, by rw [ht]; exact hP9, va_K.moved hW.alike hK9, hD9⟩, hS.F ht⟩) hS.2.2 d_M_vote_114
        · --  ¬ r40 = 0
          refine lv_iload_n hx hb d_M_vote_86 rfl (lv_at hl 3 rfl) ?_
          have hP9 := hP.sub (ws' := [(m0, .inr (6, oM ga (upc uM 7 (uM 7)) cn sn cm us wt oc ou ow)), (ga 11, .inl (gc 11, 3, .inl a11)), (ga 18, .inl (gc 18, 3, .inl a18)), (ga 19, .inl (gc 19, 3, .inl a19)), (ga 23, .inl (gc 23, 3, .inl a23))]) [0, 1, 2, 3, 4] rfl
          have hD9 := hD.sub (ws' := [(m0, .inr (6, oM ga (upc uM 7 (uM 7)) cn sn cm us wt oc ou ow)), (ga 11, .inl (gc 11, 3, .inl a11)), (ga 18, .inl (gc 18, 3, .inl a18)), (ga 19, .inl (gc 19, 3, .inl a19)), (ga 23, .inl (gc 23, 3, .inl a23))]) [0, 1, 2, 3, 4] (by decide) rfl
          have hK9 := hK.sub (tys' := [(gc 11, .int), (gc 18, .int), (gc 19, .boolean), (gc 23, .boolean)]) [0, 1, 2, 3] rfl
          refine W.widen (k := 0) (n := 0) (Nat.le_of_ble_eq_true rfl) (Nat.le_of_ble_eq_true rfl) ?_
          exact W.iret (v := 0) hx hb hr (fun t ht hW => ⟨⟨_, (a23, uM 7), rfl, ⟨(Or.inr (Or.inl rfl)), (by rw [← hSP, s_M_vote]; try (rw [if_pos hc2]); try (rw [if_pos hc7]); try (rw [if_neg hc12]); try (rw [← hr41E, bnd_eq]); try (rw [if_neg hc42]); all_goals rfl)⟩, by rw [ht]; exact hP9, va_K.moved hW.alike hK9, hD9⟩, hS.F ht⟩) hS.2.2 d_M_vote_87
    · --  ¬ (a11 1) = 0
      refine lv_goto (tgt := 59) hx hb d_M_vote_28 rfl ?_
      refine lv_iinc (k := 0) (v := 2) hx hb d_M_vote_59 hl rfl rfl (by decide) rfl (fun ls hl => ?_)
      replace hl : lv_has ls 6 [(5, .int 2), (2, .int 0), (1, .int 1), (4, .int (-1)), (3, .int (-1)), (0, .ref m0)] := hl
      refine lv_goto (tgt := 12) hx hb d_M_vote_62 rfl ?_
      refine lv_iload hx hb d_M_vote_12 (lv_at hl 0 rfl) ?_
      refine lv_iconst (v := 3) hx hb d_M_vote_14 (by decide) ?_
      refine lv_icmp_ge (tgt := 65) hx hb d_M_vote_15 rfl (fun hc47 => by first | exact absurd hc47 (by decide) | exact absurd (by decide) hc47) (fun hc47 => ?_)
      refine lv_aload_n hx hb d_M_vote_18 rfl (lv_at hl 5 rfl) ?_
      refine va_get (D := (dC, dI)) (ci := 6) (v := .ref (ga 11)) (C := "VotedTripleModel") (T := F_M) (N := 37) hx hb hw in_M hown hK hP 0 rfl rfl 11 (by decide) (hw _ k_735) (fun _ h9 => h9) rfl d_M_vote_19 ?_
      refine lv_iload hx hb d_M_vote_22 (lv_at hl 0 rfl) ?_
      refine va_iald hx hb hK hP 1 0 rfl rfl (by unfold vp_in; decide) d_M_vote_24 ?_
      refine W.eq (g2 := F0 m 25 ls [.int (a11 2)]) rfl ?_
      refine lv_if_eq (tgt := 31) hx hb d_M_vote_25 rfl (fun hc48 => ?_) (fun hc48 => ?_)
      · --  (a11 2) = 0
        refine lv_iinc (k := 2) (v := 2) hx hb d_M_vote_31 hl rfl rfl (by decide) rfl (fun ls hl => ?_)
        replace hl : lv_has ls 6 [(1, .int 2), (5, .int 2), (2, .int 0), (4, .int (-1)), (3, .int (-1)), (0, .ref m0)] := hl
        refine lv_iload_n hx hb d_M_vote_34 rfl (lv_at hl 0 rfl) ?_
        refine lv_iconst (v := 1) hx hb d_M_vote_35 (by decide) ?_
        refine lv_icmp_ne (tgt := 42) hx hb d_M_vote_36 rfl (fun hc49 => ?_) (fun hc49 => by first | exact absurd (by decide) hc49 | exact absurd hc49 (by decide))
        refine lv_iload_n hx hb d_M_vote_42 rfl (lv_at hl 0 rfl) ?_
        refine lv_iconst (v := 2) hx hb d_M_vote_43 (by decide) ?_
        refine lv_icmp_ne (tgt := 50) hx hb d_M_vote_44 rfl (fun hc50 => by first | exact absurd hc50 (fun hh => hh rfl) | exact absurd (fun hh => hh rfl) hc50) (fun hc50 => ?_)
        refine lv_iload hx hb d_M_vote_47 (lv_at hl 1 rfl) ?_
        refine lv_istore_n hx hb d_M_vote_49 rfl hl (by decide) rfl (fun ls hl => ?_)
        replace hl : lv_has ls 6 [(3, .int 2), (1, .int 2), (5, .int 2), (2, .int 0), (4, .int (-1)), (0, .ref m0)] := hl
        refine lv_iload_n hx hb d_M_vote_50 rfl (lv_at hl 1 rfl) ?_
        refine lv_iconst (v := 3) hx hb d_M_vote_51 (by decide) ?_
        refine lv_icmp_ne (tgt := 59) hx hb d_M_vote_52 rfl (fun hc51 => ?_) (fun hc51 => by first | exact absurd (by decide) hc51 | exact absurd hc51 (by decide))
        refine lv_iinc (k := 2) (v := 3) hx hb d_M_vote_59 hl rfl rfl (by decide) rfl (fun ls hl => ?_)
        replace hl : lv_has ls 6 [(5, .int 3), (3, .int 2), (1, .int 2), (2, .int 0), (4, .int (-1)), (0, .ref m0)] := hl
        refine lv_goto (tgt := 12) hx hb d_M_vote_62 rfl ?_
        refine lv_iload hx hb d_M_vote_12 (lv_at hl 0 rfl) ?_
        refine lv_iconst (v := 3) hx hb d_M_vote_14 (by decide) ?_
        refine lv_icmp_ge (tgt := 65) hx hb d_M_vote_15 rfl (fun hc52 => ?_) (fun hc52 => by first | exact absurd (by decide) hc52 | exact absurd hc52 (by decide))
        refine lv_iload_n hx hb d_M_vote_65 rfl (lv_at hl 2 rfl) ?_
        refine lv_iconst (v := 1) hx hb d_M_vote_66 (by decide) ?_
        refine lv_icmp_ne (tgt := 72) hx hb d_M_vote_67 rfl (fun hc53 => ?_) (fun hc53 => by first | exact absurd (by decide) hc53 | exact absurd hc53 (by decide))
        refine lv_iload_n hx hb d_M_vote_72 rfl (lv_at hl 2 rfl) ?_
        refine lv_iconst (v := 2) hx hb d_M_vote_73 (by decide) ?_
        refine lv_icmp_ne (tgt := 151) hx hb d_M_vote_74 rfl (fun hc54 => by first | exact absurd hc54 (fun hh => hh rfl) | exact absurd (fun hh => hh rfl) hc54) (fun hc54 => ?_)
        refine lv_aload_n hx hb d_M_vote_77 rfl (lv_at hl 5 rfl) ?_
        refine lv_iload_n hx hb d_M_vote_78 rfl (lv_at hl 3 rfl) ?_
        refine lv_iload_n hx hb d_M_vote_79 rfl (lv_at hl 1 rfl) ?_
        replace hPc := hP.sub (ws' := [(m0, .inr (6, oM ga uM cn sn cm us wt oc ou ow)), (ga 18, .inl (gc 18, 3, .inl a18)), (ga 19, .inl (gc 19, 3, .inl a19))]) [0, 2, 3] rfl
        replace hKc := hK.sub (tys' := [(gc 18, .int), (gc 19, .boolean)]) [1, 2] rfl
        refine vp_callSi (va_runV (C := "VotedTripleModel") (As := [.int 0, .int 2]) (rest := []) ⟨hx, hb, hml, hown, hw⟩ (c_M_isLike l dC dI m0 ga gc uM cn sn cm us wt oc ou ow a18 a19 0 2 0 2 rfl (by decide) rfl (by decide)) (cwV 2 hw (gdV (k_907) (k_904) (k_906) (ks_29) (k_8)) rfl rfl rfl (by decide +kernel) ⟨Nat.le_of_ble_eq_true rfl, Nat.le_of_ble_eq_true rfl⟩) ⟨fun a U g mk q => ⟨q.1, q.2.1, va_K.moved (u := U) (U := U.calling g mk a) (Vm.Alike.refl U.vm) q.2.2⟩, va_recv hK hP rfl (q0 := 0) rfl, fun U hU hW => ⟨rfl, by rw [hU]; exact hPc, va_K.moved hW.alike hKc⟩⟩ rfl rfl hl.1 rfl (lv_room (Nat.le_of_ble_eq_true rfl)) d_M_vote_80 ⟨Nat.le_of_ble_eq_true rfl, Nat.le_of_ble_eq_true rfl⟩).run (fun r55 hr56 => ?_)
        obtain ⟨hr56, hr56E⟩ := hr56
        refine lv_if_eq (tgt := 88) hx hb d_M_vote_83 rfl (fun hc57 => ?_) (fun hc57 => ?_)
        · --  r55 = 0
          refine lv_aload_n hx hb d_M_vote_88 rfl (lv_at hl 5 rfl) ?_
          refine lv_dup hx hb d_M_vote_89 rfl ?_
          refine va_get (D := (dC, dI)) (ci := 6) (v := .int (uM 7)) (C := "VotedTripleModel") (T := F_M) (N := 37) hx hb hw in_M hown hK hP 0 rfl rfl 7 (by decide) (hw _ k_731) (fun _ h9 => h9) rfl d_M_vote_90 ?_
          refine lv_iconst (v := 1) hx hb d_M_vote_93 (by decide) ?_
          refine lv_iadd hx hb d_M_vote_94 ?_
          refine va_put (D := (dC, dI)) (ci := 6) (v := .int ((uM 7) + (1 : Int32))) (ty := .int) (C := "VotedTripleModel") (T := F_M) (N := 37) hx hb hw in_M ft_M tyok_M nm_M hown hK hP hD hS 0 rfl rfl 7 (by decide) (hw _ k_731) (fun _ h9 => h9) rfl (by decide +kernel) rfl rfl (Nat.le_of_ble_eq_true rfl) d_M_vote_95 (fun H locs hP hD hS => ?_)
          replace hP : va_P (dC, dI) classes [(m0, .inr (6, [.int (uM 0), .int (nI cn), .ref (ga 2), .int (uM 3), .int (uM 4), .int (uM 5), .int (nI sn), .int ((uM 7) + (1 : Int32)), .ref (ga 8), .ref (ga 9), .ref (ga 10), .ref (ga 11), .ref (ga 12), .ref (ga 13), .ref (ga 14), .ref (ga 15), .ref (ga 16), .ref (ga 17), .ref (ga 18), .ref (ga 19), .ref (ga 20), .ref (ga 21), .ref (ga 22), .ref (ga 23), .int (uM 24), .int (uM 25), .int (nI cm), .int (nI us), .ref (ga 28), .int (nI wt), .ref (ga 30), .ref (ga 31), .ref (ga 32), .int (nI oc), .int (nI ou), .int (nI ow), .ref (ga 36)])), (ga 11, .inl (gc 11, 3, .inl a11)), (ga 18, .inl (gc 18, 3, .inl a18)), (ga 19, .inl (gc 19, 3, .inl a19)), (ga 23, .inl (gc 23, 3, .inl a23))] H := hP
          replace hD : va_D A [(m0, .inr (6, [.int (uM 0), .int (nI cn), .ref (ga 2), .int (uM 3), .int (uM 4), .int (uM 5), .int (nI sn), .int ((uM 7) + (1 : Int32)), .ref (ga 8), .ref (ga 9), .ref (ga 10), .ref (ga 11), .ref (ga 12), .ref (ga 13), .ref (ga 14), .ref (ga 15), .ref (ga 16), .ref (ga 17), .ref (ga 18), .ref (ga 19), .ref (ga 20), .ref (ga 21), .ref (ga 22), .ref (ga 23), .int (uM 24), .int (uM 25), .int (nI cm), .int (nI us), .ref (ga 28), .int (nI wt), .ref (ga 30), .ref (ga 31), .ref (ga 32), .int (nI oc), .int (nI ou), .int (nI ow), .ref (ga 36)])), (ga 11, .inl (gc 11, 3, .inl a11)), (ga 18, .inl (gc 18, 3, .inl a18)), (ga 19, .inl (gc 19, 3, .inl a19)), (ga 23, .inl (gc 23, 3, .inl a23))] := hD
          refine lv_aload_n hx hb d_M_vote_98 rfl (lv_at hl 5 rfl) ?_
          refine va_get (D := (dC, dI)) (ci := 6) (v := .ref (ga 19)) (C := "VotedTripleModel") (T := F_M) (N := 37) hx hb hw in_M hown hK hP 0 rfl rfl 19 (by decide) (hw _ k_743) (fun _ h9 => h9) rfl d_M_vote_99 ?_
          refine lv_iload_n hx hb d_M_vote_102 rfl (lv_at hl 3 rfl) ?_
          refine va_zald hx hb hK hP 3 2 rfl rfl (by unfold vp_in; decide) d_M_vote_103 ?_
          refine W.eq (g2 := F0 m 104 ls [.int (a19 0)]) rfl ?_
          refine lv_aload_n hx hb d_M_vote_104 rfl (lv_at hl 5 rfl) ?_
          refine va_get (D := (dC, dI)) (ci := 6) (v := .ref (ga 19)) (C := "VotedTripleModel") (T := F_M) (N := 37) hx hb hw in_M hown hK hP 0 rfl rfl 19 (by decide) (hw _ k_743) (fun _ h9 => h9) rfl d_M_vote_105 ?_
          refine lv_iload_n hx hb d_M_vote_108 rfl (lv_at hl 1 rfl) ?_
          refine va_zald hx hb hK hP 3 2 rfl rfl (by unfold vp_in; decide) d_M_vote_109 ?_
          refine W.eq (g2 := F0 m 110 ls [.int (a19 2), .int (a19 0)]) rfl ?_
          refine lv_icmp_ne (tgt := 115) hx hb d_M_vote_110 rfl (fun hc58 => ?_) (fun hc58 => ?_)
          · --  ¬ (a19 0) = (a19 2)
            refine lv_aload_n hx hb d_M_vote_115 rfl (lv_at hl 5 rfl) ?_
            refine va_get (D := (dC, dI)) (ci := 6) (v := .ref (ga 19)) (C := "VotedTripleModel") (T := F_M) (N := 37) hx hb hw in_M hown hK hP 0 rfl rfl 19 (by decide) (hw _ k_743) (fun _ h9 => h9) rfl d_M_vote_116 ?_
            refine lv_iload_n hx hb d_M_vote_119 rfl (lv_at hl 3 rfl) ?_
            refine va_zald hx hb hK hP 3 2 rfl rfl (by unfold vp_in; decide) d_M_vote_120 ?_
            refine W.eq (g2 := F0 m 121 ls [.int (a19 0)]) rfl ?_
            refine lv_if_eq (tgt := 128) hx hb d_M_vote_121 rfl (fun hc59 => ?_) (fun hc59 => ?_)
            · --  (a19 0) = 0
              refine lv_iload_n hx hb d_M_vote_128 rfl (lv_at hl 1 rfl) ?_
              refine lv_istore hx hb d_M_vote_129 hl (by decide) rfl (fun ls hl => ?_)
              replace hl : lv_has ls 6 [(5, .int 2), (3, .int 2), (1, .int 2), (2, .int 0), (4, .int (-1)), (0, .ref m0)] := hl
              refine lv_aload_n hx hb d_M_vote_131 rfl (lv_at hl 5 rfl) ?_
              refine va_get (D := (dC, dI)) (ci := 6) (v := .ref (ga 23)) (C := "VotedTripleModel") (T := F_M) (N := 37) hx hb hw in_M hown hK hP 0 rfl rfl 23 (by decide) (hw _ k_747) (fun _ h9 => h9) rfl d_M_vote_132 ?_
              refine lv_iload hx hb d_M_vote_135 (lv_at hl 0 rfl) ?_
              refine lv_iconst (v := 1) hx hb d_M_vote_137 (by decide) ?_
              refine va_zast hx hb hK hP hD hS 4 3 rfl rfl (by unfold vp_in; decide) d_M_vote_138 (fun H locs hP hD hS => ?_)
              replace hP : va_P (dC, dI) classes [(m0, .inr (6, [.int (uM 0), .int (nI cn), .ref (ga 2), .int (uM 3), .int (uM 4), .int (uM 5), .int (nI sn), .int ((uM 7) + (1 : Int32)), .ref (ga 8), .ref (ga 9), .ref (ga 10), .ref (ga 11), .ref (ga 12), .ref (ga 13), .ref (ga 14), .ref (ga 15), .ref (ga 16), .ref (ga 17), .ref (ga 18), .ref (ga 19), .ref (ga 20), .ref (ga 21), .ref (ga 22), .ref (ga 23), .int (uM 24), .int (uM 25), .int (nI cm), .int (nI us), .ref (ga 28), .int (nI wt), .ref (ga 30), .ref (ga 31), .ref (ga 32), .int (nI oc), .int (nI ou), .int (nI ow), .ref (ga 36)])), (ga 11, .inl (gc 11, 3, .inl a11)), (ga 18, .inl (gc 18, 3, .inl a18)), (ga 19, .inl (gc 19, 3, .inl a19)), (ga 23, .inl (gc 23, 3, .inl (upd a23 2 (1 : Int32))))] H := hP
              replace hD : va_D A [(m0, .inr (6, [.int (uM 0), .int (nI cn), .ref (ga 2), .int (uM 3), .int (uM 4), .int (uM 5), .int (nI sn), .int ((uM 7) + (1 : Int32)), .ref (ga 8), .ref (ga 9), .ref (ga 10), .ref (ga 11), .ref (ga 12), .ref (ga 13), .ref (ga 14), .ref (ga 15), .ref (ga 16), .ref (ga 17), .ref (ga 18), .ref (ga 19), .ref (ga 20), .ref (ga 21), .ref (ga 22), .ref (ga 23), .int (uM 24), .int (uM 25), .int (nI cm), .int (nI us), .ref (ga 28), .int (nI wt), .ref (ga 30), .ref (ga 31), .ref (ga 32), .int (nI oc), .int (nI ou), .int (nI ow), .ref (ga 36)])), (ga 11, .inl (gc 11, 3, .inl a11)), (ga 18, .inl (gc 18, 3, .inl a18)), (ga 19, .inl (gc 19, 3, .inl a19)), (ga 23, .inl (gc 23, 3, .inl (upd a23 2 (1 : Int32))))] := hD
              refine lv_iload hx hb d_M_vote_139 (lv_at hl 0 rfl) ?_
              refine lv_iload_n hx hb d_M_vote_141 rfl (lv_at hl 3 rfl) ?_
              refine lv_icmp_ne (tgt := 149) hx hb d_M_vote_142 rfl (fun hc60 => ?_) (fun hc60 => by first | exact absurd (by decide) hc60 | exact absurd hc60 (by decide))
              refine lv_iload_n hx hb d_M_vote_149 rfl (lv_at hl 3 rfl) ?_
              have hP9 := hP.sub (ws' := [(m0, .inr (6, oM ga (upc uM 7 ((uM 7) + (1 : Int32))) cn sn cm us wt oc ou ow)), (ga 11, .inl (gc 11, 3, .inl a11)), (ga 18, .inl (gc 18, 3, .inl a18)), (ga 19, .inl (gc 19, 3, .inl a19)), (ga 23, .inl (gc 23, 3, .inl (upd a23 2 (1 : Int32))))]) [0, 1, 2, 3, 4] rfl
              have hD9 := hD.sub (ws' := [(m0, .inr (6, oM ga (upc uM 7 ((uM 7) + (1 : Int32))) cn sn cm us wt oc ou ow)), (ga 11, .inl (gc 11, 3, .inl a11)), (ga 18, .inl (gc 18, 3, .inl a18)), (ga 19, .inl (gc 19, 3, .inl a19)), (ga 23, .inl (gc 23, 3, .inl (upd a23 2 (1 : Int32))))]) [0, 1, 2, 3, 4] (by decide) rfl
              have hK9 := hK.sub (tys' := [(gc 11, .int), (gc 18, .int), (gc 19, .boolean), (gc 23, .boolean)]) [0, 1, 2, 3] rfl
              refine W.widen (k := 0) (n := 0) (Nat.le_of_ble_eq_true rfl) (Nat.le_of_ble_eq_true rfl) ?_
              exact W.iret (v := 0) hx hb hr (fun t ht hW => ⟨⟨_, (upd a23 2 (1 : Int32), (uM 7) + (1 : Int32)), rfl, ⟨(Or.inr (Or.inl rfl)), (by rw [← hSP, s_M_vote]; try (rw [if_pos hc2]); try (rw [if_neg hc7]); try (rw [if_pos hc48]); try (rw [← hr56E, bnd_eq]); try (rw [if_pos hc57]); try (rw [if_neg hc58]); try (rw [if_pos hc59]); all_goals rfl)⟩, by rw [ht]; exact hP9, va_K.moved hW.alike hK9, hD9⟩, hS.F ht⟩) hS.2.2 d_M_vote_150
            · --  ¬ (a19 0) = 0
              refine lv_iload_n hx hb d_M_vote_124 rfl (lv_at hl 3 rfl) ?_
              refine lv_goto (tgt := 129) hx hb d_M_vote_125 rfl ?_
              refine lv_istore hx hb d_M_vote_129 hl (by decide) rfl (fun ls hl => ?_)
              replace hl : lv_has ls 6 [(5, .int 0), (3, .int 2), (1, .int 2), (2, .int 0), (4, .int (-1)), (0, .ref m0)] := hl
              refine lv_aload_n hx hb d_M_vote_131 rfl (lv_at hl 5 rfl) ?_
              refine va_get (D := (dC, dI)) (ci := 6) (v := .ref (ga 23)) (C := "VotedTripleModel") (T := F_M) (N := 37) hx hb hw in_M hown hK hP 0 rfl rfl 23 (by decide) (hw _ k_747) (fun _ h9 => h9) rfl d_M_vote_132 ?_
              refine lv_iload hx hb d_M_vote_135 (lv_at hl 0 rfl) ?_
              refine lv_iconst (v := 1) hx hb d_M_vote_137 (by decide) ?_
              refine va_zast hx hb hK hP hD hS 4 3 rfl rfl (by unfold vp_in; decide) d_M_vote_138 (fun H locs hP hD hS => ?_)
              replace hP : va_P (dC, dI) classes [(m0, .inr (6, [.int (uM 0), .int (nI cn), .ref (ga 2), .int (uM 3), .int (uM 4), .int (uM 5), .int (nI sn), .int ((uM 7) + (1 : Int32)), .ref (ga 8), .ref (ga 9), .ref (ga 10), .ref (ga 11), .ref (ga 12), .ref (ga 13), .ref (ga 14), .ref (ga 15), .ref (ga 16), .ref (ga 17), .ref (ga 18), .ref (ga 19), .ref (ga 20), .ref (ga 21), .ref (ga 22), .ref (ga 23), .int (uM 24), .int (uM 25), .int (nI cm), .int (nI us), .ref (ga 28), .int (nI wt), .ref (ga 30), .ref (ga 31), .ref (ga 32), .int (nI oc), .int (nI ou), .int (nI ow), .ref (ga 36)])), (ga 11, .inl (gc 11, 3, .inl a11)), (ga 18, .inl (gc 18, 3, .inl a18)), (ga 19, .inl (gc 19, 3, .inl a19)), (ga 23, .inl (gc 23, 3, .inl (upd a23 0 (1 : Int32))))] H := hP
              replace hD : va_D A [(m0, .inr (6, [.int (uM 0), .int (nI cn), .ref (ga 2), .int (uM 3), .int (uM 4), .int (uM 5), .int (nI sn), .int ((uM 7) + (1 : Int32)), .ref (ga 8), .ref (ga 9), .ref (ga 10), .ref (ga 11), .ref (ga 12), .ref (ga 13), .ref (ga 14), .ref (ga 15), .ref (ga 16), .ref (ga 17), .ref (ga 18), .ref (ga 19), .ref (ga 20), .ref (ga 21), .ref (ga 22), .ref (ga 23), .int (uM 24), .int (uM 25), .int (nI cm), .int (nI us), .ref (ga 28), .int (nI wt), .ref (ga 30), .ref (ga 31), .ref (ga 32), .int (nI oc), .int (nI ou), .int (nI ow), .ref (ga 36)])), (ga 11, .inl (gc 11, 3, .inl a11)), (ga 18, .inl (gc 18, 3, .inl a18)), (ga 19, .inl (gc 19, 3, .inl a19)), (ga 23, .inl (gc 23, 3, .inl (upd a23 0 (1 : Int32))))] := hD
              refine lv_iload hx hb d_M_vote_139 (lv_at hl 0 rfl) ?_
              refine lv_iload_n hx hb d_M_vote_141 rfl (lv_at hl 3 rfl) ?_
              refine lv_icmp_ne (tgt := 149) hx hb d_M_vote_142 rfl (fun hc61 => by first | exact absurd hc61 (fun hh => hh rfl) | exact absurd (fun hh => hh rfl) hc61) (fun hc61 => ?_)
              refine lv_iload_n hx hb d_M_vote_145 rfl (lv_at hl 1 rfl) ?_
              refine lv_goto (tgt := 150) hx hb d_M_vote_146 rfl ?_
              have hP9 := hP.sub (ws' := [(m0, .inr (6, oM ga (upc uM 7 ((uM 7) + (1 : Int32))) cn sn cm us wt oc ou ow)), (ga 11, .inl (gc 11, 3, .inl a11)), (ga 18, .inl (gc 18, 3, .inl a18)), (ga 19, .inl (gc 19, 3, .inl a19)), (ga 23, .inl (gc 23, 3, .inl (upd a23 0 (1 : Int32))))]) [0, 1, 2, 3, 4] rfl
              have hD9 := hD.sub (ws' := [(m0, .inr (6, oM ga (upc uM 7 ((uM 7) + (1 : Int32))) cn sn cm us wt oc ou ow)), (ga 11, .inl (gc 11, 3, .inl a11)), (ga 18, .inl (gc 18, 3, .inl a18)), (ga 19, .inl (gc 19, 3, .inl a19)), (ga 23, .inl (gc 23, 3, .inl (upd a23 0 (1 : Int32))))]) [0, 1, 2, 3, 4] (by decide) rfl
              have hK9 := hK.sub (tys' := [(gc 11, .int), (gc 18, .int), (gc 19, .boolean), (gc 23, .boolean)]) [0, 1, 2, 3] rfl
              refine W.widen (k := 0) (n := 0) (Nat.le_of_ble_eq_true rfl) (Nat.le_of_ble_eq_true rfl) ?_
              exact W.iret (v := 2) hx hb hr (fun t ht hW => ⟨⟨_, (upd a23 0 (1 : Int32), (uM 7) + (1 : Int32)), rfl, ⟨(Or.inr (Or.inr (Or.inr rfl))), (by rw [← hSP, s_M_vote]; try (rw [if_pos hc2]); try (rw [if_neg hc7]); try (rw [if_pos hc48]); try (rw [← hr56E, bnd_eq]); try (rw [if_pos hc57]); try (rw [if_neg hc58]); try (rw [if_neg hc59]); all_goals rfl)⟩, by rw [ht]; exact hP9, va_K.moved hW.alike hK9, hD9⟩, hS.F ht⟩) hS.2.2 d_M_vote_150
          · --  (a19 0) = (a19 2)
            refine lv_iconst (v := (-1)) hx hb d_M_vote_113 (by decide) ?_
            have hP9 := hP.sub (ws' := [(m0, .inr (6, oM ga (upc uM 7 ((uM 7) + (1 : Int32))) cn sn cm us wt oc ou ow)), (ga 11, .inl (gc 11, 3, .inl a11)), (ga 18, .inl (gc 18, 3, .inl a18)), (ga 19, .inl (gc 19, 3, .inl a19)), (ga 23, .inl (gc 23, 3, .inl a23))]) [0, 1, 2, 3, 4] rfl
            have hD9 := hD.sub (ws' := [(m0, .inr (6, oM ga (upc uM 7 ((uM 7) + (1 : Int32))) cn sn cm us wt oc ou ow)), (ga 11, .inl (gc 11, 3, .inl a11)), (ga 18, .inl (gc 18, 3, .inl a18)), (ga 19, .inl (gc 19, 3, .inl a19)), (ga 23, .inl (gc 23, 3, .inl a23))]) [0, 1, 2, 3, 4] (by decide) rfl
            have hK9 := hK.sub (tys' := [(gc 11, .int), (gc 18, .int), (gc 19, .boolean), (gc 23, .boolean)]) [0, 1, 2, 3] rfl
            refine W.widen (k := 0) (n := 0) (Nat.le_of_ble_eq_true rfl) (Nat.le_of_ble_eq_true rfl) ?_
            exact W.iret (v := (-1)) hx hb hr (fun t ht hW => ⟨⟨_, (a23, (uM 7) + (1 : Int32)), rfl, ⟨(Or.inl rfl), (by rw [← hSP, s_M_vote]; try (rw [if_pos hc2]); try (rw [if_neg hc7]); try (rw [if_pos hc48]); try (rw [← hr56E, bnd_eq]); try (rw [if_pos hc57]); try (rw [if_pos hc58]); all_goals rfl)⟩, by rw [ht]; exact hP9, va_K.moved hW.alike hK9, hD9⟩, hS.F ht⟩) hS.2.2 d_M_vote_114
        · --  ¬ r55 = 0
          refine lv_iload_n hx hb d_M_vote_86 rfl (lv_at hl 3 rfl) ?_
          have hP9 := hP.sub (ws' := [(m0, .inr (6, oM ga (upc uM 7 (uM 7)) cn sn cm us wt oc ou ow)), (ga 11, .inl (gc 11, 3, .inl a11)), (ga 18, .inl (gc 18, 3, .inl a18)), (ga 19, .inl (gc 19, 3, .inl a19)), (ga 23, .inl (gc 23, 3, .inl a23))]) [0, 1, 2, 3, 4] rfl
          have hD9 := hD.sub (ws' := [(m0, .inr (6, oM ga (upc uM 7 (uM 7)) cn sn cm us wt oc ou ow)), (ga 11, .inl (gc 11, 3, .inl a11)), (ga 18, .inl (gc 18, 3, .inl a18)), (ga 19, .inl (gc 19, 3, .inl a19)), (ga 23, .inl (gc 23, 3, .inl a23))]) [0, 1, 2, 3, 4] (by decide) rfl
          have hK9 := hK.sub (tys' := [(gc 11, .int), (gc 18, .int), (gc 19, .boolean), (gc 23, .boolean)]) [0, 1, 2, 3] rfl
          refine W.widen (k := 0) (n := 0) (Nat.le_of_ble_eq_true rfl) (Nat.le_of_ble_eq_true rfl) ?_
          exact W.iret (v := 0) hx hb hr (fun t ht hW => ⟨⟨_, (a23, uM 7), rfl, ⟨(Or.inr (Or.inl rfl)), (by rw [← hSP, s_M_vote]; try (rw [if_pos hc2]); try (rw [if_neg hc7]); try (rw [if_pos hc48]); try (rw [← hr56E, bnd_eq]); try (rw [if_neg hc57]); all_goals rfl)⟩, by rw [ht]; exact hP9, va_K.moved hW.alike hK9, hD9⟩, hS.F ht⟩) hS.2.2 d_M_vote_87
      · --  ¬ (a11 2) = 0
        refine lv_goto (tgt := 59) hx hb d_M_vote_28 rfl ?_
        refine lv_iinc (k := 0) (v := 3) hx hb d_M_vote_59 hl rfl rfl (by decide) rfl (fun ls hl => ?_)
        replace hl : lv_has ls 6 [(5, .int 3), (2, .int 0), (1, .int 1), (4, .int (-1)), (3, .int (-1)), (0, .ref m0)] := hl
        refine lv_goto (tgt := 12) hx hb d_M_vote_62 rfl ?_
        refine lv_iload hx hb d_M_vote_12 (lv_at hl 0 rfl) ?_
        refine lv_iconst (v := 3) hx hb d_M_vote_14 (by decide) ?_
        refine lv_icmp_ge (tgt := 65) hx hb d_M_vote_15 rfl (fun hc62 => ?_) (fun hc62 => by first | exact absurd (by decide) hc62 | exact absurd hc62 (by decide))
        refine lv_iload_n hx hb d_M_vote_65 rfl (lv_at hl 2 rfl) ?_
        refine lv_iconst (v := 1) hx hb d_M_vote_66 (by decide) ?_
        refine lv_icmp_ne (tgt := 72) hx hb d_M_vote_67 rfl (fun hc63 => by first | exact absurd hc63 (fun hh => hh rfl) | exact absurd (fun hh => hh rfl) hc63) (fun hc63 => ?_)
        refine lv_iload_n hx hb d_M_vote_70 rfl (lv_at hl 1 rfl) ?_
        have hP9 := hP.sub (ws' := [(m0, .inr (6, oM ga (upc uM 7 (uM 7)) cn sn cm us wt oc ou ow)), (ga 11, .inl (gc 11, 3, .inl a11)), (ga 18, .inl (gc 18, 3, .inl a18)), (ga 19, .inl (gc 19, 3, .inl a19)), (ga 23, .inl (gc 23, 3, .inl a23))]) [0, 1, 2, 3, 4] rfl
        have hD9 := hD.sub (ws' := [(m0, .inr (6, oM ga (upc uM 7 (uM 7)) cn sn cm us wt oc ou ow)), (ga 11, .inl (gc 11, 3, .inl a11)), (ga 18, .inl (gc 18, 3, .inl a18)), (ga 19, .inl (gc 19, 3, .inl a19)), (ga 23, .inl (gc 23, 3, .inl a23))]) [0, 1, 2, 3, 4] (by decide) rfl
        have hK9 := hK.sub (tys' := [(gc 11, .int), (gc 18, .int), (gc 19, .boolean), (gc 23, .boolean)]) [0, 1, 2, 3] rfl
        refine W.widen (k := 0) (n := 0) (Nat.le_of_ble_eq_true rfl) (Nat.le_of_ble_eq_true rfl) ?_
        exact W.iret (v := 0) hx hb hr (fun t ht hW => ⟨⟨_, (a23, uM 7), rfl, ⟨(Or.inr (Or.inl rfl)), (by rw [← hSP, s_M_vote]; try (rw [if_pos hc2]); try (rw [if_neg hc7]); try (rw [if_neg hc48]); all_goals rfl)⟩, by rw [ht]; exact hP9, va_K.moved hW.alike hK9, hD9⟩, hS.F ht⟩) hS.2.2 d_M_vote_71
  · --  ¬ (a11 0) = 0
    refine lv_goto (tgt := 59) hx hb d_M_vote_28 rfl ?_
    refine lv_iinc (k := 0) (v := 1) hx hb d_M_vote_59 hl rfl rfl (by decide) rfl (fun ls hl => ?_)
    replace hl : lv_has ls 6 [(5, .int 1), (4, .int (-1)), (3, .int (-1)), (2, .int (-1)), (1, .int 0), (0, .ref m0)] := hl
    refine lv_goto (tgt := 12) hx hb d_M_vote_62 rfl ?_
    refine lv_iload hx hb d_M_vote_12 (lv_at hl 0 rfl) ?_
    refine lv_iconst (v := 3) hx hb d_M_vote_14 (by decide) ?_
    refine lv_icmp_ge (tgt := 65) hx hb d_M_vote_15 rfl (fun hc64 => by first | exact absurd hc64 (by decide) | exact absurd (by decide) hc64) (fun hc64 => ?_)
    refine lv_aload_n hx hb d_M_vote_18 rfl (lv_at hl 5 rfl) ?_
    refine va_get (D := (dC, dI)) (ci := 6) (v := .ref (ga 11)) (C := "VotedTripleModel") (T := F_M) (N := 37) hx hb hw in_M hown hK hP 0 rfl rfl 11 (by decide) (hw _ k_735) (fun _ h9 => h9) rfl d_M_vote_19 ?_
    refine lv_iload hx hb d_M_vote_22 (lv_at hl 0 rfl) ?_
    refine va_iald hx hb hK hP 1 0 rfl rfl (by unfold vp_in; decide) d_M_vote_24 ?_
    refine W.eq (g2 := F0 m 25 ls [.int (a11 1)]) rfl ?_
    refine lv_if_eq (tgt := 31) hx hb d_M_vote_25 rfl (fun hc65 => ?_) (fun hc65 => ?_)
    · --  (a11 1) = 0
      refine lv_iinc (k := 4) (v := 1) hx hb d_M_vote_31 hl rfl rfl (by decide) rfl (fun ls hl => ?_)
      replace hl : lv_has ls 6 [(1, .int 1), (5, .int 1), (4, .int (-1)), (3, .int (-1)), (2, .int (-1)), (0, .ref m0)] := hl
      refine lv_iload_n hx hb d_M_vote_34 rfl (lv_at hl 0 rfl) ?_
      refine lv_iconst (v := 1) hx hb d_M_vote_35 (by decide) ?_
      refine lv_icmp_ne (tgt := 42) hx hb d_M_vote_36 rfl (fun hc66 => by first | exact absurd hc66 (fun hh => hh rfl) | exact absurd (fun hh => hh rfl) hc66) (fun hc66 => ?_)
      refine lv_iload hx hb d_M_vote_39 (lv_at hl 1 rfl) ?_
      refine lv_istore_n hx hb d_M_vote_41 rfl hl (by decide) rfl (fun ls hl => ?_)
      replace hl : lv_has ls 6 [(2, .int 1), (1, .int 1), (5, .int 1), (4, .int (-1)), (3, .int (-1)), (0, .ref m0)] := hl
      refine lv_iload_n hx hb d_M_vote_42 rfl (lv_at hl 1 rfl) ?_
      refine lv_iconst (v := 2) hx hb d_M_vote_43 (by decide) ?_
      refine lv_icmp_ne (tgt := 50) hx hb d_M_vote_44 rfl (fun hc67 => ?_) (fun hc67 => by first | exact absurd (by decide) hc67 | exact absurd hc67 (by decide))
      refine lv_iload_n hx hb d_M_vote_50 rfl (lv_at hl 1 rfl) ?_
      refine lv_iconst (v := 3) hx hb d_M_vote_51 (by decide) ?_
      refine lv_icmp_ne (tgt := 59) hx hb d_M_vote_52 rfl (fun hc68 => ?_) (fun hc68 => by first | exact absurd (by decide) hc68 | exact absurd hc68 (by decide))
      refine lv_iinc (k := 2) (v := 2) hx hb d_M_vote_59 hl rfl rfl (by decide) rfl (fun ls hl => ?_)
      replace hl : lv_has ls 6 [(5, .int 2), (2, .int 1), (1, .int 1), (4, .int (-1)), (3, .int (-1)), (0, .ref m0)] := hl
      refine lv_goto (tgt := 12) hx hb d_M_vote_62 rfl ?_
      refine lv_iload hx hb d_M_vote_12 (lv_at hl 0 rfl) ?_
      refine lv_iconst (v := 3) hx hb d_M_vote_14 (by decide) ?_
      refine lv_icmp_ge (tgt := 65) hx hb d_M_vote_15 rfl (fun hc69 => by first | exact absurd hc69 (by decide) | exact absurd (by decide) hc69) (fun hc69 => ?_)
      refine lv_aload_n hx hb d_M_vote_18 rfl (lv_at hl 5 rfl) ?_
      refine va_get (D := (dC, dI)) (ci := 6) (v := .ref (ga 11)) (C := "VotedTripleModel") (T := F_M) (N := 37) hx hb hw in_M hown hK hP 0 rfl rfl 11 (by decide) (hw _ k_735) (fun _ h9 => h9) rfl d_M_vote_19 ?_
      refine lv_iload hx hb d_M_vote_22 (lv_at hl 0 rfl) ?_
      refine va_iald hx hb hK hP 1 0 rfl rfl (by unfold vp_in; decide) d_M_vote_24 ?_
      refine W.eq (g2 := F0 m 25 ls [.int (a11 2)]) rfl ?_
      refine lv_if_eq (tgt := 31) hx hb d_M_vote_25 rfl (fun hc70 => ?_) (fun hc70 => ?_)
      · --  (a11 2) = 0
        refine lv_iinc (k := 2) (v := 2) hx hb d_M_vote_31 hl rfl rfl (by decide) rfl (fun ls hl => ?_)
        replace hl : lv_has ls 6 [(1, .int 2), (5, .int 2), (2, .int 1), (4, .int (-1)), (3, .int (-1)), (0, .ref m0)] := hl
        refine lv_iload_n hx hb d_M_vote_34 rfl (lv_at hl 0 rfl) ?_
        refine lv_iconst (v := 1) hx hb d_M_vote_35 (by decide) ?_
        refine lv_icmp_ne (tgt := 42) hx hb d_M_vote_36 rfl (fun hc71 => ?_) (fun hc71 => by first | exact absurd (by decide) hc71 | exact absurd hc71 (by decide))
        refine lv_iload_n hx hb d_M_vote_42 rfl (lv_at hl 0 rfl) ?_
        refine lv_iconst (v := 2) hx hb d_M_vote_43 (by decide) ?_
        refine lv_icmp_ne (tgt := 50) hx hb d_M_vote_44 rfl (fun hc72 => by first | exact absurd hc72 (fun hh => hh rfl) | exact absurd (fun hh => hh rfl) hc72) (fun hc72 => ?_)
        refine lv_iload hx hb d_M_vote_47 (lv_at hl 1 rfl) ?_
        refine lv_istore_n hx hb d_M_vote_49 rfl hl (by decide) rfl (fun ls hl => ?_)
        replace hl : lv_has ls 6 [(3, .int 2), (1, .int 2), (5, .int 2), (2, .int 1), (4, .int (-1)), (0, .ref m0)] := hl
        refine lv_iload_n hx hb d_M_vote_50 rfl (lv_at hl 1 rfl) ?_
        refine lv_iconst (v := 3) hx hb d_M_vote_51 (by decide) ?_
        refine lv_icmp_ne (tgt := 59) hx hb d_M_vote_52 rfl (fun hc73 => ?_) (fun hc73 => by first | exact absurd (by decide) hc73 | exact absurd hc73 (by decide))
        refine lv_iinc (k := 2) (v := 3) hx hb d_M_vote_59 hl rfl rfl (by decide) rfl (fun ls hl => ?_)
        replace hl : lv_has ls 6 [(5, .int 3), (3, .int 2), (1, .int 2), (2, .int 1), (4, .int (-1)), (0, .ref m0)] := hl
        refine lv_goto (tgt := 12) hx hb d_M_vote_62 rfl ?_
        refine lv_iload hx hb d_M_vote_12 (lv_at hl 0 rfl) ?_
        refine lv_iconst (v := 3) hx hb d_M_vote_14 (by decide) ?_
        refine lv_icmp_ge (tgt := 65) hx hb d_M_vote_15 rfl (fun hc74 => ?_) (fun hc74 => by first | exact absurd (by decide) hc74 | exact absurd hc74 (by decide))
        refine lv_iload_n hx hb d_M_vote_65 rfl (lv_at hl 2 rfl) ?_
        refine lv_iconst (v := 1) hx hb d_M_vote_66 (by decide) ?_
        refine lv_icmp_ne (tgt := 72) hx hb d_M_vote_67 rfl (fun hc75 => ?_) (fun hc75 => by first | exact absurd (by decide) hc75 | exact absurd hc75 (by decide))
        refine lv_iload_n hx hb d_M_vote_72 rfl (lv_at hl 2 rfl) ?_
        refine lv_iconst (v := 2) hx hb d_M_vote_73 (by decide) ?_
        refine lv_icmp_ne (tgt := 151) hx hb d_M_vote_74 rfl (fun hc76 => by first | exact absurd hc76 (fun hh => hh rfl) | exact absurd (fun hh => hh rfl) hc76) (fun hc76 => ?_)
        refine lv_aload_n hx hb d_M_vote_77 rfl (lv_at hl 5 rfl) ?_
        refine lv_iload_n hx hb d_M_vote_78 rfl (lv_at hl 3 rfl) ?_
        refine lv_iload_n hx hb d_M_vote_79 rfl (lv_at hl 1 rfl) ?_
        replace hPc := hP.sub (ws' := [(m0, .inr (6, oM ga uM cn sn cm us wt oc ou ow)), (ga 18, .inl (gc 18, 3, .inl a18)), (ga 19, .inl (gc 19, 3, .inl a19))]) [0, 2, 3] rfl
        replace hKc := hK.sub (tys' := [(gc 18, .int), (gc 19, .boolean)]) [1, 2] rfl
        refine vp_callSi (va_runV (C := "VotedTripleModel") (As := [.int 1, .int 2]) (rest := []) ⟨hx, hb, hml, hown, hw⟩ (c_M_isLike l dC dI m0 ga gc uM cn sn cm us wt oc ou ow a18 a19 1 2 1 2 rfl (by decide) rfl (by decide)) (cwV 2 hw (gdV (k_907) (k_904) (k_906) (ks_29) (k_8)) rfl rfl rfl (by decide +kernel) ⟨Nat.le_of_ble_eq_true rfl, Nat.le_of_ble_eq_true rfl⟩) ⟨fun a U g mk q => ⟨q.1, q.2.1, va_K.moved (u := U) (U := U.calling g mk a) (Vm.Alike.refl U.vm) q.2.2⟩, va_recv hK hP rfl (q0 := 0) rfl, fun U hU hW => ⟨rfl, by rw [hU]; exact hPc, va_K.moved hW.alike hKc⟩⟩ rfl rfl hl.1 rfl (lv_room (Nat.le_of_ble_eq_true rfl)) d_M_vote_80 ⟨Nat.le_of_ble_eq_true rfl, Nat.le_of_ble_eq_true rfl⟩).run (fun r77 hr78 => ?_)
        obtain ⟨hr78, hr78E⟩ := hr78
        refine lv_if_eq (tgt := 88) hx hb d_M_vote_83 rfl (fun hc79 => ?_) (fun hc79 => ?_)
        · --  r77 = 0
          refine lv_aload_n hx hb d_M_vote_88 rfl (lv_at hl 5 rfl) ?_
          refine lv_dup hx hb d_M_vote_89 rfl ?_
          refine va_get (D := (dC, dI)) (ci := 6) (v := .int (uM 7)) (C := "VotedTripleModel") (T := F_M) (N := 37) hx hb hw in_M hown hK hP 0 rfl rfl 7 (by decide) (hw _ k_731) (fun _ h9 => h9) rfl d_M_vote_90 ?_
          refine lv_iconst (v := 1) hx hb d_M_vote_93 (by decide) ?_
          refine lv_iadd hx hb d_M_vote_94 ?_
          refine va_put (D := (dC, dI)) (ci := 6) (v := .int ((uM 7) + (1 : Int32))) (ty := .int) (C := "VotedTripleModel") (T := F_M) (N := 37) hx hb hw in_M ft_M tyok_M nm_M hown hK hP hD hS 0 rfl rfl 7 (by decide) (hw _ k_731) (fun _ h9 => h9) rfl (by decide +kernel) rfl rfl (Nat.le_of_ble_eq_true rfl) d_M_vote_95 (fun H locs hP hD hS => ?_)
          replace hP : va_P (dC, dI) classes [(m0, .inr (6, [.int (uM 0), .int (nI cn), .ref (ga 2), .int (uM 3), .int (uM 4), .int (uM 5), .int (nI sn), .int ((uM 7) + (1 : Int32)), .ref (ga 8), .ref (ga 9), .ref (ga 10), .ref (ga 11), .ref (ga 12), .ref (ga 13), .ref (ga 14), .ref (ga 15), .ref (ga 16), .ref (ga 17), .ref (ga 18), .ref (ga 19), .ref (ga 20), .ref (ga 21), .ref (ga 22), .ref (ga 23), .int (uM 24), .int (uM 25), .int (nI cm), .int (nI us), .ref (ga 28), .int (nI wt), .ref (ga 30), .ref (ga 31), .ref (ga 32), .int (nI oc), .int (nI ou), .int (nI ow), .ref (ga 36)])), (ga 11, .inl (gc 11, 3, .inl a11)), (ga 18, .inl (gc 18, 3, .inl a18)), (ga 19, .inl (gc 19, 3, .inl a19)), (ga 23, .inl (gc 23, 3, .inl a23))] H := hP
          replace hD : va_D A [(m0, .inr (6, [.int (uM 0), .int (nI cn), .ref (ga 2), .int (uM 3), .int (uM 4), .int (uM 5), .int (nI sn), .int ((uM 7) + (1 : Int32)), .ref (ga 8), .ref (ga 9), .ref (ga 10), .ref (ga 11), .ref (ga 12), .ref (ga 13), .ref (ga 14), .ref (ga 15), .ref (ga 16), .ref (ga 17), .ref (ga 18), .ref (ga 19), .ref (ga 20), .ref (ga 21), .ref (ga 22), .ref (ga 23), .int (uM 24), .int (uM 25), .int (nI cm), .int (nI us), .ref (ga 28), .int (nI wt), .ref (ga 30), .ref (ga 31), .ref (ga 32), .int (nI oc), .int (nI ou), .int (nI ow), .ref (ga 36)])), (ga 11, .inl (gc 11, 3, .inl a11)), (ga 18, .inl (gc 18, 3, .inl a18)), (ga 19, .inl (gc 19, 3, .inl a19)), (ga 23, .inl (gc 23, 3, .inl a23))] := hD
          refine lv_aload_n hx hb d_M_vote_98 rfl (lv_at hl 5 rfl) ?_
          refine va_get (D := (dC, dI)) (ci := 6) (v := .ref (ga 19)) (C := "VotedTripleModel") (T := F_M) (N := 37) hx hb hw in_M hown hK hP 0 rfl rfl 19 (by decide) (hw _ k_743) (fun _ h9 => h9) rfl d_M_vote_99 ?_
          refine lv_iload_n hx hb d_M_vote_102 rfl (lv_at hl 3 rfl) ?_
          refine va_zald hx hb hK hP 3 2 rfl rfl (by unfold vp_in; decide) d_M_vote_103 ?_
          refine W.eq (g2 := F0 m 104 ls [.int (a19 1)]) rfl ?_
          refine lv_aload_n hx hb d_M_vote_104 rfl (lv_at hl 5 rfl) ?_
          refine va_get (D := (dC, dI)) (ci := 6) (v := .ref (ga 19)) (C := "VotedTripleModel") (T := F_M) (N := 37) hx hb hw in_M hown hK hP 0 rfl rfl 19 (by decide) (hw _ k_743) (fun _ h9 => h9) rfl d_M_vote_105 ?_
          refine lv_iload_n hx hb d_M_vote_108 rfl (lv_at hl 1 rfl) ?_
          refine va_zald hx hb hK hP 3 2 rfl rfl (by unfold vp_in; decide) d_M_vote_109 ?_
          refine W.eq (g2 := F0 m 110 ls [.int (a19 2), .int (a19 1)]) rfl ?_
          refine lv_icmp_ne (tgt := 115) hx hb d_M_vote_110 rfl (fun hc80 => ?_) (fun hc80 => ?_)
          · --  ¬ (a19 1) = (a19 2)
            refine lv_aload_n hx hb d_M_vote_115 rfl (lv_at hl 5 rfl) ?_
            refine va_get (D := (dC, dI)) (ci := 6) (v := .ref (ga 19)) (C := "VotedTripleModel") (T := F_M) (N := 37) hx hb hw in_M hown hK hP 0 rfl rfl 19 (by decide) (hw _ k_743) (fun _ h9 => h9) rfl d_M_vote_116 ?_
            refine lv_iload_n hx hb d_M_vote_119 rfl (lv_at hl 3 rfl) ?_
            refine va_zald hx hb hK hP 3 2 rfl rfl (by unfold vp_in; decide) d_M_vote_120 ?_
            refine W.eq (g2 := F0 m 121 ls [.int (a19 1)]) rfl ?_
            refine lv_if_eq (tgt := 128) hx hb d_M_vote_121 rfl (fun hc81 => ?_) (fun hc81 => ?_)
            · --  (a19 1) = 0
              refine lv_iload_n hx hb d_M_vote_128 rfl (lv_at hl 1 rfl) ?_
              refine lv_istore hx hb d_M_vote_129 hl (by decide) rfl (fun ls hl => ?_)
              replace hl : lv_has ls 6 [(5, .int 2), (3, .int 2), (1, .int 2), (2, .int 1), (4, .int (-1)), (0, .ref m0)] := hl
              refine lv_aload_n hx hb d_M_vote_131 rfl (lv_at hl 5 rfl) ?_
              refine va_get (D := (dC, dI)) (ci := 6) (v := .ref (ga 23)) (C := "VotedTripleModel") (T := F_M) (N := 37) hx hb hw in_M hown hK hP 0 rfl rfl 23 (by decide) (hw _ k_747) (fun _ h9 => h9) rfl d_M_vote_132 ?_
              refine lv_iload hx hb d_M_vote_135 (lv_at hl 0 rfl) ?_
              refine lv_iconst (v := 1) hx hb d_M_vote_137 (by decide) ?_
              refine va_zast hx hb hK hP hD hS 4 3 rfl rfl (by unfold vp_in; decide) d_M_vote_138 (fun H locs hP hD hS => ?_)
              replace hP : va_P (dC, dI) classes [(m0, .inr (6, [.int (uM 0), .int (nI cn), .ref (ga 2), .int (uM 3), .int (uM 4), .int (uM 5), .int (nI sn), .int ((uM 7) + (1 : Int32)), .ref (ga 8), .ref (ga 9), .ref (ga 10), .ref (ga 11), .ref (ga 12), .ref (ga 13), .ref (ga 14), .ref (ga 15), .ref (ga 16), .ref (ga 17), .ref (ga 18), .ref (ga 19), .ref (ga 20), .ref (ga 21), .ref (ga 22), .ref (ga 23), .int (uM 24), .int (uM 25), .int (nI cm), .int (nI us), .ref (ga 28), .int (nI wt), .ref (ga 30), .ref (ga 31), .ref (ga 32), .int (nI oc), .int (nI ou), .int (nI ow), .ref (ga 36)])), (ga 11, .inl (gc 11, 3, .inl a11)), (ga 18, .inl (gc 18, 3, .inl a18)), (ga 19, .inl (gc 19, 3, .inl a19)), (ga 23, .inl (gc 23, 3, .inl (upd a23 2 (1 : Int32))))] H := hP
              replace hD : va_D A [(m0, .inr (6, [.int (uM 0), .int (nI cn), .ref (ga 2), .int (uM 3), .int (uM 4), .int (uM 5), .int (nI sn), .int ((uM 7) + (1 : Int32)), .ref (ga 8), .ref (ga 9), .ref (ga 10), .ref (ga 11), .ref (ga 12), .ref (ga 13), .ref (ga 14), .ref (ga 15), .ref (ga 16), .ref (ga 17), .ref (ga 18), .ref (ga 19), .ref (ga 20), .ref (ga 21), .ref (ga 22), .ref (ga 23), .int (uM 24), .int (uM 25), .int (nI cm), .int (nI us), .ref (ga 28), .int (nI wt), .ref (ga 30), .ref (ga 31), .ref (ga 32), .int (nI oc), .int (nI ou), .int (nI ow), .ref (ga 36)])), (ga 11, .inl (gc 11, 3, .inl a11)), (ga 18, .inl (gc 18, 3, .inl a18)), (ga 19, .inl (gc 19, 3, .inl a19)), (ga 23, .inl (gc 23, 3, .inl (upd a23 2 (1 : Int32))))] := hD
              refine lv_iload hx hb d_M_vote_139 (lv_at hl 0 rfl) ?_
              refine lv_iload_n hx hb d_M_vote_141 rfl (lv_at hl 3 rfl) ?_
              refine lv_icmp_ne (tgt := 149) hx hb d_M_vote_142 rfl (fun hc82 => ?_) (fun hc82 => by first | exact absurd (by decide) hc82 | exact absurd hc82 (by decide))
              refine lv_iload_n hx hb d_M_vote_149 rfl (lv_at hl 3 rfl) ?_
              have hP9 := hP.sub (ws' := [(m0, .inr (6, oM ga (upc uM 7 ((uM 7) + (1 : Int32))) cn sn cm us wt oc ou ow)), (ga 11, .inl (gc 11, 3, .inl a11)), (ga 18, .inl (gc 18, 3, .inl a18)), (ga 19, .inl (gc 19, 3, .inl a19)), (ga 23, .inl (gc 23, 3, .inl (upd a23 2 (1 : Int32))))]) [0, 1, 2, 3, 4] rfl
              have hD9 := hD.sub (ws' := [(m0, .inr (6, oM ga (upc uM 7 ((uM 7) + (1 : Int32))) cn sn cm us wt oc ou ow)), (ga 11, .inl (gc 11, 3, .inl a11)), (ga 18, .inl (gc 18, 3, .inl a18)), (ga 19, .inl (gc 19, 3, .inl a19)), (ga 23, .inl (gc 23, 3, .inl (upd a23 2 (1 : Int32))))]) [0, 1, 2, 3, 4] (by decide) rfl
              have hK9 := hK.sub (tys' := [(gc 11, .int), (gc 18, .int), (gc 19, .boolean), (gc 23, .boolean)]) [0, 1, 2, 3] rfl
              refine W.widen (k := 0) (n := 0) (Nat.le_of_ble_eq_true rfl) (Nat.le_of_ble_eq_true rfl) ?_
              exact W.iret (v := 1) hx hb hr (fun t ht hW => ⟨⟨_, (upd a23 2 (1 : Int32), (uM 7) + (1 : Int32)), rfl, ⟨(Or.inr (Or.inr (Or.inl rfl))), (by rw [← hSP, s_M_vote]; try (rw [if_neg hc2]); try (rw [if_pos hc65]); try (rw [if_pos hc70]); try (rw [← hr78E, bnd_eq]); try (rw [if_pos hc79]); try (rw [if_neg hc80]); try (rw [if_pos hc81]); all_goals rfl)⟩, by rw [ht]; exact hP9, va_K.moved hW.alike hK9, hD9⟩, hS.F ht⟩) hS.2.2 d_M_vote_150
            · --  ¬ (a19 1) = 0
              refine lv_iload_n hx hb d_M_vote_124 rfl (lv_at hl 3 rfl) ?_
              refine lv_goto (tgt := 129) hx hb d_M_vote_125 rfl ?_
              refine lv_istore hx hb d_M_vote_129 hl (by decide) rfl (fun ls hl => ?_)
              replace hl : lv_has ls 6 [(5, .int 1), (3, .int 2), (1, .int 2), (2, .int 1), (4, .int (-1)), (0, .ref m0)] := hl
              refine lv_aload_n hx hb d_M_vote_131 rfl (lv_at hl 5 rfl) ?_
              refine va_get (D := (dC, dI)) (ci := 6) (v := .ref (ga 23)) (C := "VotedTripleModel") (T := F_M) (N := 37) hx hb hw in_M hown hK hP 0 rfl rfl 23 (by decide) (hw _ k_747) (fun _ h9 => h9) rfl d_M_vote_132 ?_
              refine lv_iload hx hb d_M_vote_135 (lv_at hl 0 rfl) ?_
              refine lv_iconst (v := 1) hx hb d_M_vote_137 (by decide) ?_
              refine va_zast hx hb hK hP hD hS 4 3 rfl rfl (by unfold vp_in; decide) d_M_vote_138 (fun H locs hP hD hS => ?_)
              replace hP : va_P (dC, dI) classes [(m0, .inr (6, [.int (uM 0), .int (nI cn), .ref (ga 2), .int (uM 3), .int (uM 4), .int (uM 5), .int (nI sn), .int ((uM 7) + (1 : Int32)), .ref (ga 8), .ref (ga 9), .ref (ga 10), .ref (ga 11), .ref (ga 12), .ref (ga 13), .ref (ga 14), .ref (ga 15), .ref (ga 16), .ref (ga 17), .ref (ga 18), .ref (ga 19), .ref (ga 20), .ref (ga 21), .ref (ga 22), .ref (ga 23), .int (uM 24), .int (uM 25), .int (nI cm), .int (nI us), .ref (ga 28), .int (nI wt), .ref (ga 30), .ref (ga 31), .ref (ga 32), .int (nI oc), .int (nI ou), .int (nI ow), .ref (ga 36)])), (ga 11, .inl (gc 11, 3, .inl a11)), (ga 18, .inl (gc 18, 3, .inl a18)), (ga 19, .inl (gc 19, 3, .inl a19)), (ga 23, .inl (gc 23, 3, .inl (upd a23 1 (1 : Int32))))] H := hP
              replace hD : va_D A [(m0, .inr (6, [.int (uM 0), .int (nI cn), .ref (ga 2), .int (uM 3), .int (uM 4), .int (uM 5), .int (nI sn), .int ((uM 7) + (1 : Int32)), .ref (ga 8), .ref (ga 9), .ref (ga 10), .ref (ga 11), .ref (ga 12), .ref (ga 13), .ref (ga 14), .ref (ga 15), .ref (ga 16), .ref (ga 17), .ref (ga 18), .ref (ga 19), .ref (ga 20), .ref (ga 21), .ref (ga 22), .ref (ga 23), .int (uM 24), .int (uM 25), .int (nI cm), .int (nI us), .ref (ga 28), .int (nI wt), .ref (ga 30), .ref (ga 31), .ref (ga 32), .int (nI oc), .int (nI ou), .int (nI ow), .ref (ga 36)])), (ga 11, .inl (gc 11, 3, .inl a11)), (ga 18, .inl (gc 18, 3, .inl a18)), (ga 19, .inl (gc 19, 3, .inl a19)), (ga 23, .inl (gc 23, 3, .inl (upd a23 1 (1 : Int32))))] := hD
              refine lv_iload hx hb d_M_vote_139 (lv_at hl 0 rfl) ?_
              refine lv_iload_n hx hb d_M_vote_141 rfl (lv_at hl 3 rfl) ?_
              refine lv_icmp_ne (tgt := 149) hx hb d_M_vote_142 rfl (fun hc83 => by first | exact absurd hc83 (fun hh => hh rfl) | exact absurd (fun hh => hh rfl) hc83) (fun hc83 => ?_)
              refine lv_iload_n hx hb d_M_vote_145 rfl (lv_at hl 1 rfl) ?_
              refine lv_goto (tgt := 150) hx hb d_M_vote_146 rfl ?_
              have hP9 := hP.sub (ws' := [(m0, .inr (6, oM ga (upc uM 7 ((uM 7) + (1 : Int32))) cn sn cm us wt oc ou ow)), (ga 11, .inl (gc 11, 3, .inl a11)), (ga 18, .inl (gc 18, 3, .inl a18)), (ga 19, .inl (gc 19, 3, .inl a19)), (ga 23, .inl (gc 23, 3, .inl (upd a23 1 (1 : Int32))))]) [0, 1, 2, 3, 4] rfl
              have hD9 := hD.sub (ws' := [(m0, .inr (6, oM ga (upc uM 7 ((uM 7) + (1 : Int32))) cn sn cm us wt oc ou ow)), (ga 11, .inl (gc 11, 3, .inl a11)), (ga 18, .inl (gc 18, 3, .inl a18)), (ga 19, .inl (gc 19, 3, .inl a19)), (ga 23, .inl (gc 23, 3, .inl (upd a23 1 (1 : Int32))))]) [0, 1, 2, 3, 4] (by decide) rfl
              have hK9 := hK.sub (tys' := [(gc 11, .int), (gc 18, .int), (gc 19, .boolean), (gc 23, .boolean)]) [0, 1, 2, 3] rfl
              refine W.widen (k := 0) (n := 0) (Nat.le_of_ble_eq_true rfl) (Nat.le_of_ble_eq_true rfl) ?_
              exact W.iret (v := 2) hx hb hr (fun t ht hW => ⟨⟨_, (upd a23 1 (1 : Int32), (uM 7) + (1 : Int32)), rfl, ⟨(Or.inr (Or.inr (Or.inr rfl))), (by rw [← hSP, s_M_vote]; try (rw [if_neg hc2]); try (rw [if_pos hc65]); try (rw [if_pos hc70]); try (rw [← hr78E, bnd_eq]); try (rw [if_pos hc79]); try (rw [if_neg hc80]); try (rw [if_neg hc81]); all_goals rfl)⟩, by rw [ht]; exact hP9, va_K.moved hW.alike hK9, hD9⟩, hS.F ht⟩) hS.2.2 d_M_vote_150
          · --  (a19 1) = (a19 2)
            refine lv_iconst (v := (-1)) hx hb d_M_vote_113 (by decide) ?_
            have hP9 := hP.sub (ws' := [(m0, .inr (6, oM ga (upc uM 7 ((uM 7) + (1 : Int32))) cn sn cm us wt oc ou ow)), (ga 11, .inl (gc 11, 3, .inl a11)), (ga 18, .inl (gc 18, 3, .inl a18)), (ga 19, .inl (gc 19, 3, .inl a19)), (ga 23, .inl (gc 23, 3, .inl a23))]) [0, 1, 2, 3, 4] rfl
            have hD9 := hD.sub (ws' := [(m0, .inr (6, oM ga (upc uM 7 ((uM 7) + (1 : Int32))) cn sn cm us wt oc ou ow)), (ga 11, .inl (gc 11, 3, .inl a11)), (ga 18, .inl (gc 18, 3, .inl a18)), (ga 19, .inl (gc 19, 3, .inl a19)), (ga 23, .inl (gc 23, 3, .inl a23))]) [0, 1, 2, 3, 4] (by decide) rfl
            have hK9 := hK.sub (tys' := [(gc 11, .int), (gc 18, .int), (gc 19, .boolean), (gc 23, .boolean)]) [0, 1, 2, 3] rfl
            refine W.widen (k := 0) (n := 0) (Nat.le_of_ble_eq_true rfl) (Nat.le_of_ble_eq_true rfl) ?_
            exact W.iret (v := (-1)) hx hb hr (fun t ht hW => ⟨⟨_, (a23, (uM 7) + (1 : Int32)), rfl, ⟨(Or.inl rfl), (by rw [← hSP, s_M_vote]; try (rw [if_neg hc2]); try (rw [if_pos hc65]); try (rw [if_pos hc70]); try (rw [← hr78E, bnd_eq]); try (rw [if_pos hc79]); try (rw [if_pos hc80]); all_goals rfl)⟩, by rw [ht]; exact hP9, va_K.moved hW.alike hK9, hD9⟩, hS.F ht⟩) hS.2.2 d_M_vote_114
        · --  ¬ r77 = 0
          refine lv_iload_n hx hb d_M_vote_86 rfl (lv_at hl 3 rfl) ?_
          have hP9 := hP.sub (ws' := [(m0, .inr (6, oM ga (upc uM 7 (uM 7)) cn sn cm us wt oc ou ow)), (ga 11, .inl (gc 11, 3, .inl a11)), (ga 18, .inl (gc 18, 3, .inl a18)), (ga 19, .inl (gc 19, 3, .inl a19)), (ga 23, .inl (gc 23, 3, .inl a23))]) [0, 1, 2, 3, 4] rfl
          have hD9 := hD.sub (ws' := [(m0, .inr (6, oM ga (upc uM 7 (uM 7)) cn sn cm us wt oc ou ow)), (ga 11, .inl (gc 11, 3, .inl a11)), (ga 18, .inl (gc 18, 3, .inl a18)), (ga 19, .inl (gc 19, 3, .inl a19)), (ga 23, .inl (gc 23, 3, .inl a23))]) [0, 1, 2, 3, 4] (by decide) rfl
          have hK9 := hK.sub (tys' := [(gc 11, .int), (gc 18, .int), (gc 19, .boolean), (gc 23, .boolean)]) [0, 1, 2, 3] rfl
          refine W.widen (k := 0) (n := 0) (Nat.le_of_ble_eq_true rfl) (Nat.le_of_ble_eq_true rfl) ?_
          exact W.iret (v := 1) hx hb hr (fun t ht hW => ⟨⟨_, (a23, uM 7), rfl, ⟨(Or.inr (Or.inr (Or.inl rfl))), (by rw [← hSP, s_M_vote]; try (rw [if_neg hc2]); try (rw [if_pos hc65]); try (rw [if_pos hc70]); try (rw [← hr78E, bnd_eq]); try (rw [if_neg hc79]); all_goals rfl)⟩, by rw [ht]; exact hP9, va_K.moved hW.alike hK9, hD9⟩, hS.F ht⟩) hS.2.2 d_M_vote_87
      · --  ¬ (a11 2) = 0
        refine lv_goto (tgt := 59) hx hb d_M_vote_28 rfl ?_
        refine lv_iinc (k := 0) (v := 3) hx hb d_M_vote_59 hl rfl rfl (by decide) rfl (fun ls hl => ?_)
        replace hl : lv_has ls 6 [(5, .int 3), (2, .int 1), (1, .int 1), (4, .int (-1)), (3, .int (-1)), (0, .ref m0)] := hl
        refine lv_goto (tgt := 12) hx hb d_M_vote_62 rfl ?_
        refine lv_iload hx hb d_M_vote_12 (lv_at hl 0 rfl) ?_
        refine lv_iconst (v := 3) hx hb d_M_vote_14 (by decide) ?_
        refine lv_icmp_ge (tgt := 65) hx hb d_M_vote_15 rfl (fun hc84 => ?_) (fun hc84 => by first | exact absurd (by decide) hc84 | exact absurd hc84 (by decide))
        refine lv_iload_n hx hb d_M_vote_65 rfl (lv_at hl 2 rfl) ?_
        refine lv_iconst (v := 1) hx hb d_M_vote_66 (by decide) ?_
        refine lv_icmp_ne (tgt := 72) hx hb d_M_vote_67 rfl (fun hc85 => by first | exact absurd hc85 (fun hh => hh rfl) | exact absurd (fun hh => hh rfl) hc85) (fun hc85 => ?_)
        refine lv_iload_n hx hb d_M_vote_70 rfl (lv_at hl 1 rfl) ?_
        have hP9 := hP.sub (ws' := [(m0, .inr (6, oM ga (upc uM 7 (uM 7)) cn sn cm us wt oc ou ow)), (ga 11, .inl (gc 11, 3, .inl a11)), (ga 18, .inl (gc 18, 3, .inl a18)), (ga 19, .inl (gc 19, 3, .inl a19)), (ga 23, .inl (gc 23, 3, .inl a23))]) [0, 1, 2, 3, 4] rfl
        have hD9 := hD.sub (ws' := [(m0, .inr (6, oM ga (upc uM 7 (uM 7)) cn sn cm us wt oc ou ow)), (ga 11, .inl (gc 11, 3, .inl a11)), (ga 18, .inl (gc 18, 3, .inl a18)), (ga 19, .inl (gc 19, 3, .inl a19)), (ga 23, .inl (gc 23, 3, .inl a23))]) [0, 1, 2, 3, 4] (by decide) rfl
        have hK9 := hK.sub (tys' := [(gc 11, .int), (gc 18, .int), (gc 19, .boolean), (gc 23, .boolean)]) [0, 1, 2, 3] rfl
        refine W.widen (k := 0) (n := 0) (Nat.le_of_ble_eq_true rfl) (Nat.le_of_ble_eq_true rfl) ?_
        exact W.iret (v := 1) hx hb hr (fun t ht hW => ⟨⟨_, (a23, uM 7), rfl, ⟨(Or.inr (Or.inr (Or.inl rfl))), (by rw [← hSP, s_M_vote]; try (rw [if_neg hc2]); try (rw [if_pos hc65]); try (rw [if_neg hc70]); all_goals rfl)⟩, by rw [ht]; exact hP9, va_K.moved hW.alike hK9, hD9⟩, hS.F ht⟩) hS.2.2 d_M_vote_71
    · --  ¬ (a11 1) = 0
      refine lv_goto (tgt := 59) hx hb d_M_vote_28 rfl ?_
      refine lv_iinc (k := 0) (v := 2) hx hb d_M_vote_59 hl rfl rfl (by decide) rfl (fun ls hl => ?_)
      replace hl : lv_has ls 6 [(5, .int 2), (4, .int (-1)), (3, .int (-1)), (2, .int (-1)), (1, .int 0), (0, .ref m0)] := hl
      refine lv_goto (tgt := 12) hx hb d_M_vote_62 rfl ?_
      refine lv_iload hx hb d_M_vote_12 (lv_at hl 0 rfl) ?_
      refine lv_iconst (v := 3) hx hb d_M_vote_14 (by decide) ?_
      refine lv_icmp_ge (tgt := 65) hx hb d_M_vote_15 rfl (fun hc86 => by first | exact absurd hc86 (by decide) | exact absurd (by decide) hc86) (fun hc86 => ?_)
      refine lv_aload_n hx hb d_M_vote_18 rfl (lv_at hl 5 rfl) ?_
      refine va_get (D := (dC, dI)) (ci := 6) (v := .ref (ga 11)) (C := "VotedTripleModel") (T := F_M) (N := 37) hx hb hw in_M hown hK hP 0 rfl rfl 11 (by decide) (hw _ k_735) (fun _ h9 => h9) rfl d_M_vote_19 ?_
      refine lv_iload hx hb d_M_vote_22 (lv_at hl 0 rfl) ?_
      refine va_iald hx hb hK hP 1 0 rfl rfl (by unfold vp_in; decide) d_M_vote_24 ?_
      refine W.eq (g2 := F0 m 25 ls [.int (a11 2)]) rfl ?_
      refine lv_if_eq (tgt := 31) hx hb d_M_vote_25 rfl (fun hc87 => ?_) (fun hc87 => ?_)
      · --  (a11 2) = 0
        refine lv_iinc (k := 4) (v := 1) hx hb d_M_vote_31 hl rfl rfl (by decide) rfl (fun ls hl => ?_)
        replace hl : lv_has ls 6 [(1, .int 1), (5, .int 2), (4, .int (-1)), (3, .int (-1)), (2, .int (-1)), (0, .ref m0)] := hl
        refine lv_iload_n hx hb d_M_vote_34 rfl (lv_at hl 0 rfl) ?_
        refine lv_iconst (v := 1) hx hb d_M_vote_35 (by decide) ?_
        refine lv_icmp_ne (tgt := 42) hx hb d_M_vote_36 rfl (fun hc88 => by first | exact absurd hc88 (fun hh => hh rfl) | exact absurd (fun hh => hh rfl) hc88) (fun hc88 => ?_)
        refine lv_iload hx hb d_M_vote_39 (lv_at hl 1 rfl) ?_
        refine lv_istore_n hx hb d_M_vote_41 rfl hl (by decide) rfl (fun ls hl => ?_)
        replace hl : lv_has ls 6 [(2, .int 2), (1, .int 1), (5, .int 2), (4, .int (-1)), (3, .int (-1)), (0, .ref m0)] := hl
        refine lv_iload_n hx hb d_M_vote_42 rfl (lv_at hl 1 rfl) ?_
        refine lv_iconst (v := 2) hx hb d_M_vote_43 (by decide) ?_
        refine lv_icmp_ne (tgt := 50) hx hb d_M_vote_44 rfl (fun hc89 => ?_) (fun hc89 => by first | exact absurd (by decide) hc89 | exact absurd hc89 (by decide))
        refine lv_iload_n hx hb d_M_vote_50 rfl (lv_at hl 1 rfl) ?_
        refine lv_iconst (v := 3) hx hb d_M_vote_51 (by decide) ?_
        refine lv_icmp_ne (tgt := 59) hx hb d_M_vote_52 rfl (fun hc90 => ?_) (fun hc90 => by first | exact absurd (by decide) hc90 | exact absurd hc90 (by decide))
        refine lv_iinc (k := 2) (v := 3) hx hb d_M_vote_59 hl rfl rfl (by decide) rfl (fun ls hl => ?_)
        replace hl : lv_has ls 6 [(5, .int 3), (2, .int 2), (1, .int 1), (4, .int (-1)), (3, .int (-1)), (0, .ref m0)] := hl
        refine lv_goto (tgt := 12) hx hb d_M_vote_62 rfl ?_
        refine lv_iload hx hb d_M_vote_12 (lv_at hl 0 rfl) ?_
        refine lv_iconst (v := 3) hx hb d_M_vote_14 (by decide) ?_
        refine lv_icmp_ge (tgt := 65) hx hb d_M_vote_15 rfl (fun hc91 => ?_) (fun hc91 => by first | exact absurd (by decide) hc91 | exact absurd hc91 (by decide))
        refine lv_iload_n hx hb d_M_vote_65 rfl (lv_at hl 2 rfl) ?_
        refine lv_iconst (v := 1) hx hb d_M_vote_66 (by decide) ?_
        refine lv_icmp_ne (tgt := 72) hx hb d_M_vote_67 rfl (fun hc92 => by first | exact absurd hc92 (fun hh => hh rfl) | exact absurd (fun hh => hh rfl) hc92) (fun hc92 => ?_)
        refine lv_iload_n hx hb d_M_vote_70 rfl (lv_at hl 1 rfl) ?_
        have hP9 := hP.sub (ws' := [(m0, .inr (6, oM ga (upc uM 7 (uM 7)) cn sn cm us wt oc ou ow)), (ga 11, .inl (gc 11, 3, .inl a11)), (ga 18, .inl (gc 18, 3, .inl a18)), (ga 19, .inl (gc 19, 3, .inl a19)), (ga 23, .inl (gc 23, 3, .inl a23))]) [0, 1, 2, 3, 4] rfl
        have hD9 := hD.sub (ws' := [(m0, .inr (6, oM ga (upc uM 7 (uM 7)) cn sn cm us wt oc ou ow)), (ga 11, .inl (gc 11, 3, .inl a11)), (ga 18, .inl (gc 18, 3, .inl a18)), (ga 19, .inl (gc 19, 3, .inl a19)), (ga 23, .inl (gc 23, 3, .inl a23))]) [0, 1, 2, 3, 4] (by decide) rfl
        have hK9 := hK.sub (tys' := [(gc 11, .int), (gc 18, .int), (gc 19, .boolean), (gc 23, .boolean)]) [0, 1, 2, 3] rfl
        refine W.widen (k := 0) (n := 0) (Nat.le_of_ble_eq_true rfl) (Nat.le_of_ble_eq_true rfl) ?_
        exact W.iret (v := 2) hx hb hr (fun t ht hW => ⟨⟨_, (a23, uM 7), rfl, ⟨(Or.inr (Or.inr (Or.inr rfl))), (by rw [← hSP, s_M_vote]; try (rw [if_neg hc2]); try (rw [if_neg hc65]); try (rw [if_pos hc87]); all_goals rfl)⟩, by rw [ht]; exact hP9, va_K.moved hW.alike hK9, hD9⟩, hS.F ht⟩) hS.2.2 d_M_vote_71
      · --  ¬ (a11 2) = 0
        refine lv_goto (tgt := 59) hx hb d_M_vote_28 rfl ?_
        refine lv_iinc (k := 0) (v := 3) hx hb d_M_vote_59 hl rfl rfl (by decide) rfl (fun ls hl => ?_)
        replace hl : lv_has ls 6 [(5, .int 3), (4, .int (-1)), (3, .int (-1)), (2, .int (-1)), (1, .int 0), (0, .ref m0)] := hl
        refine lv_goto (tgt := 12) hx hb d_M_vote_62 rfl ?_
        refine lv_iload hx hb d_M_vote_12 (lv_at hl 0 rfl) ?_
        refine lv_iconst (v := 3) hx hb d_M_vote_14 (by decide) ?_
        refine lv_icmp_ge (tgt := 65) hx hb d_M_vote_15 rfl (fun hc93 => ?_) (fun hc93 => by first | exact absurd (by decide) hc93 | exact absurd hc93 (by decide))
        exact absurd hin (by simp [s3, hc2, hc65, hc87])
