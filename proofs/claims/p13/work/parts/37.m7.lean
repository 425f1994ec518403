set_option maxHeartbeats 4000000 in
set_option maxRecDepth 100000 in
theorem c_M_scrub (l : Launch) (dC : Nat → ClassId) (dI : Nat → Nat → Nat) (m0 : Nat) (ga : Nat → Nat) (gc : Nat → ClassId) (uM : Nat → Int32) (cn : Nat) (sn : Nat) (cm : Nat) (us : Nat) (wt : Nat) (oc : Nat) (ou : Nat) (ow : Nat) (a9 : Nat → Int32) (a11 : Nat → Int32) (a16 : Nat → Int32) (a19 : Nat → Int32) (a23 : Nat → Int32) (hsb : sn + 1 < 2 ^ 30) (sz : Nat) : Met l y_M_scrub (tbw y_M_scrub b_M_scrub 4 (some .boolean)) ({ frames := 3, cells := 0, slots := 0, locals := 67 }) (va_Pc [.ref m0] (fun U => U.heap.size = sz ∧ va_P (dC, dI) classes [(m0, .inr (6, oM ga uM cn sn cm us wt oc ou ow)), (ga 9, .inl (gc 9, 96, .inl a9)), (ga 11, .inl (gc 11, 3, .inl a11)), (ga 16, .inl (gc 16, 3, .inl a16)), (ga 19, .inl (gc 19, 3, .inl a19)), (ga 23, .inl (gc 23, 3, .inl a23))] U.heap ∧ va_K (dC, dI) classes [(gc 9, .int), (gc 11, .int), (gc 16, .int), (gc 19, .boolean), (gc 23, .boolean)] U ∧ va_D (fun _ => True) [(m0, .inr (6, oM ga uM cn sn cm us wt oc ou ow)), (ga 9, .inl (gc 9, 96, .inl a9)), (ga 11, .inl (gc 11, 3, .inl a11)), (ga 16, .inl (gc 16, 3, .inl a16)), (ga 19, .inl (gc 19, 3, .inl a19)), (ga 23, .inl (gc 23, 3, .inl a23))])) (va_Qi (fun (r : Int32) (u9 : (Nat → Int32) × (Nat → Int32) × (Nat → Int32) × (Nat → Int32) × Int32) => match u9 with | (a9n, a16n, a19n, a23n, y24) => (True) ∧ (r, a9n, a16n, a19n, a23n, y24) = s_M_scrub uM sn a9 a11 a16 a19 a23) (fun (u9 : (Nat → Int32) × (Nat → Int32) × (Nat → Int32) × (Nat → Int32) × Int32) t => match u9 with | (a9n, a16n, a19n, a23n, y24) => va_P (dC, dI) classes [(m0, .inr (6, oM ga (upc uM 24 y24) cn sn cm us wt oc ou ow)), (ga 9, .inl (gc 9, 96, .inl a9n)), (ga 11, .inl (gc 11, 3, .inl a11)), (ga 16, .inl (gc 16, 3, .inl a16n)), (ga 19, .inl (gc 19, 3, .inl a19n)), (ga 23, .inl (gc 23, 3, .inl a23n))] t.heap ∧ va_K (dC, dI) classes [(gc 9, .int), (gc 11, .int), (gc 16, .int), (gc 19, .boolean), (gc 23, .boolean)] t ∧ va_D (va_A [(m0, .inr (6, oM ga uM cn sn cm us wt oc ou ow)), (ga 9, .inl (gc 9, 96, .inl a9)), (ga 11, .inl (gc 11, 3, .inl a11)), (ga 16, .inl (gc 16, 3, .inl a16)), (ga 19, .inl (gc 19, 3, .inl a19)), (ga 23, .inl (gc 23, 3, .inl a23))] sz) [(m0, .inr (6, oM ga (upc uM 24 y24) cn sn cm us wt oc ou ow)), (ga 9, .inl (gc 9, 96, .inl a9n)), (ga 11, .inl (gc 11, 3, .inl a11)), (ga 16, .inl (gc 16, 3, .inl a16n)), (ga 19, .inl (gc 19, 3, .inl a19n)), (ga 23, .inl (gc 23, 3, .inl a23n))]) (va_A [(m0, .inr (6, oM ga uM cn sn cm us wt oc ou ow)), (ga 9, .inl (gc 9, 96, .inl a9)), (ga 11, .inl (gc 11, 3, .inl a11)), (ga 16, .inl (gc 16, 3, .inl a16)), (ga 19, .inl (gc 19, 3, .inl a19)), (ga 23, .inl (gc 23, 3, .inl a23))] sz)) 0 0 (va_A [(m0, .inr (6, oM ga uM cn sn cm us wt oc ou ow)), (ga 9, .inl (gc 9, 96, .inl a9)), (ga 11, .inl (gc 11, 3, .inl a11)), (ga 16, .inl (gc 16, 3, .inl a16)), (ga 19, .inl (gc 19, 3, .inl a19)), (ga 23, .inl (gc 23, 3, .inl a23))] sz) := by
  refine Met.ofW (cc := b_M_scrub) (maxL := 4) (ret := (some .boolean)) (by decide) rfl ?_
  intro p e s m args below meth c s₁ B hml hv
  obtain ⟨rfl, hsz, hP, hK, hD0⟩ := hv
  have hx := B.exec
  have hb := B.bytes
  have hr := B.returns
  have hts := atoms_spec (ws := (tbw y_M_scrub b_M_scrub 4 (some .boolean))) B.pre
  have hw : ∀ z9 ∈ tb, z9.before ([.ref m0] : List Value).toArray s = true := fun z9 h => hts z9 (List.mem_cons_of_mem _ h)
  have hown : s.vm.findClass "VotedTripleModel" = some m.cls := findClass_of_methodNamed B.named
  have hlocks := B.notSynchronized
  subst hsz
  replace hD := hD0.self (sz := s.heap.size)
  generalize hAe : va_A [(m0, .inr (6, oM ga uM cn sn cm us wt oc ou ow)), (ga 9, .inl (gc 9, 96, .inl a9)), (ga 11, .inl (gc 11, 3, .inl a11)), (ga 16, .inl (gc 16, 3, .inl a16)), (ga 19, .inl (gc 19, 3, .inl a19)), (ga 23, .inl (gc 23, 3, .inl a23))] s.heap.size = A at hD ⊢
  have hA : ∀ q : Nat, s.heap.size ≤ q → A q := fun q h => by rw [← hAe]; exact Or.inr h
  have hS : va_S A s.heap s.heap [] := va_S.rf
  replace hl := lv_entry ([.ref m0]) (n := 4) (Nat.le_of_ble_eq_true rfl)
  rw [lg_entry_eq]
  generalize (lg_sl ([.ref m0]) ++ List.replicate (4 - (lg_sl ([.ref m0])).length) Slot.unset).toArray = ls at hl ⊢
  replace hl : lv_has ls 4 [(0, .ref m0)] := hl
  generalize hSP : s_M_scrub uM sn a9 a11 a16 a19 a23 = SP
  have cut91_3 : ∀ (y24 : Int32) (a9 : Nat → Int32) (a16 : Nat → Int32) (a19 : Nat → Int32) (a23 : Nat → Int32) (ls : Array Slot) (H : Heap) (locs : List Loc), SP = s_M_scrub_cut91_3 uM y24 a9 a16 a19 a23 →  lv_has ls 4 [(0, .ref m0), (2, .int 3)] → va_P (dC, dI) classes [(m0, .inr (6, oM ga (upc uM 24 y24) cn sn cm us wt oc ou ow)), (ga 9, .inl (gc 9, 96, .inl a9)), (ga 11, .inl (gc 11, 3, .inl a11)), (ga 16, .inl (gc 16, 3, .inl a16)), (ga 19, .inl (gc 19, 3, .inl a19)), (ga 23, .inl (gc 23, 3, .inl a23))] H → va_D A [(m0, .inr (6, oM ga (upc uM 24 y24) cn sn cm us wt oc ou ow)), (ga 9, .inl (gc 9, 96, .inl a9)), (ga 11, .inl (gc 11, 3, .inl a11)), (ga 16, .inl (gc 16, 3, .inl a16)), (ga 19, .inl (gc 19, 3, .inl a19)), (ga 23, .inl (gc 23, 3, .inl a23))] → va_S A s.heap H locs → W p l e (headSpec (tbw y_M_scrub b_M_scrub 4 (some .boolean)) ({ frames := 3, cells := 0, slots := 0, locals := 67 })).room s m ([.ref m0] : List Value).toArray below meth c H locs 0 0 (MQ below (va_Qi (fun (r : Int32) (u9 : (Nat → Int32) × (Nat → Int32) × (Nat → Int32) × (Nat → Int32) × Int32) => match u9 with | (a9n, a16n, a19n, a23n, y24) => (True) ∧ (r, a9n, a16n, a19n, a23n, y24) = SP) (fun (u9 : (Nat → Int32) × (Nat → Int32) × (Nat → Int32) × (Nat → Int32) × Int32) t => match u9 with | (a9n, a16n, a19n, a23n, y24) => va_P (dC, dI) classes [(m0, .inr (6, oM ga (upc uM 24 y24) cn sn cm us wt oc ou ow)), (ga 9, .inl (gc 9, 96, .inl a9n)), (ga 11, .inl (gc 11, 3, .inl a11)), (ga 16, .inl (gc 16, 3, .inl a16n)), (ga 19, .inl (gc 19, 3, .inl a19n)), (ga 23, .inl (gc 23, 3, .inl a23n))] t.heap ∧ va_K (dC, dI) classes [(gc 9, .int), (gc 11, .int), (gc 16, .int), (gc 19, .boolean), (gc 23, .boolean)] t ∧ va_D A [(m0, .inr (6, oM ga (upc uM 24 y24) cn sn cm us wt oc ou ow)), (ga 9, .inl (gc 9, 96, .inl a9n)), (ga 11, .inl (gc 11, 3, .inl a11)), (ga 16, .inl (gc 16, 3, .inl a16n)), (ga 19, .inl (gc 19, 3, .inl a19n)), (ga 23, .inl (gc 23, 3, .inl a23n))]) A) ([.ref m0] : List Value).toArray s 0 0 A) (F0 m 91 ls []) := by
    intro y24 a9 a16 a19 a23 ls H locs hSq0 hl hP hD hS
    refine lv_iload_n hx hb d_M_scrub_91 rfl (lv_at hl 1 rfl) ?_
    refine lv_iconst (v := 3) hx hb d_M_scrub_92 (by decide) ?_
    refine lv_icmp_ge (tgt := 131) hx hb d_M_scrub_93 rfl (fun hc1 => ?_) (fun hc1 => by first | exact absurd (by decide) hc1 | exact absurd hc1 (by decide))
    refine lv_iconst (v := 1) hx hb d_M_scrub_131 (by decide) ?_
    have hP9 := hP.sub (ws' := [(m0, .inr (6, oM ga (upc uM 24 (upc uM 24 y24 24)) cn sn cm us wt oc ou ow)), (ga 9, .inl (gc 9, 96, .inl a9)), (ga 11, .inl (gc 11, 3, .inl a11)), (ga 16, .inl (gc 16, 3, .inl a16)), (ga 19, .inl (gc 19, 3, .inl a19)), (ga 23, .inl (gc 23, 3, .inl a23))]) [0, 1, 2, 3, 4, 5] rfl
    have hD9 := hD.sub (ws' := [(m0, .inr (6, oM ga (upc uM 24 (upc uM 24 y24 24)) cn sn cm us wt oc ou ow)), (ga 9, .inl (gc 9, 96, .inl a9)), (ga 11, .inl (gc 11, 3, .inl a11)), (ga 16, .inl (gc 16, 3, .inl a16)), (ga 19, .inl (gc 19, 3, .inl a19)), (ga 23, .inl (gc 23, 3, .inl a23))]) [0, 1, 2, 3, 4, 5] (by decide) rfl
    have hK9 := hK.sub (tys' := [(gc 9, .int), (gc 11, .int), (gc 16, .int), (gc 19, .boolean), (gc 23, .boolean)]) [0, 1, 2, 3, 4] rfl
    refine W.widen (k := 0) (n := 0) (Nat.le_of_ble_eq_true rfl) (Nat.le_of_ble_eq_true rfl) ?_
    exact W.zret (v := 1) (ty := .boolean) hx hb hr rfl (fun t ht hW => ⟨⟨_, (a9, a16, a19, a23, upc uM 24 y24 24), rfl, ⟨trivial, (by rw [hSq0, s_M_scrub_cut91_3]; all_goals rfl)⟩, by rw [ht]; exact hP9, va_K.moved hW.alike hK9, hD9⟩, hS.F ht⟩) hS.2.2 d_M_scrub_132
  have cut91_2 : ∀ (y24 : Int32) (a9 : Nat → Int32) (a16 : Nat → Int32) (a19 : Nat → Int32) (a23 : Nat → Int32) (ls : Array Slot) (H : Heap) (locs : List Loc), SP = s_M_scrub_cut91_2 uM y24 a9 a16 a19 a23 →  lv_has ls 4 [(0, .ref m0), (2, .int 2)] → va_P (dC, dI) classes [(m0, .inr (6, oM ga (upc uM 24 y24) cn sn cm us wt oc ou ow)), (ga 9, .inl (gc 9, 96, .inl a9)), (ga 11, .inl (gc 11, 3, .inl a11)), (ga 16, .inl (gc 16, 3, .inl a16)), (ga 19, .inl (gc 19, 3, .inl a19)), (ga 23, .inl (gc 23, 3, .inl a23))] H → va_D A [(m0, .inr (6, oM ga (upc uM 24 y24) cn sn cm us wt oc ou ow)), (ga 9, .inl (gc 9, 96, .inl a9)), (ga 11, .inl (gc 11, 3, .inl a11)), (ga 16, .inl (gc 16, 3, .inl a16)), (ga 19, .inl (gc 19, 3, .inl a19)), (ga 23, .inl (gc 23, 3, .inl a23))] → va_S A s.heap H locs → W p l e (headSpec (tbw y_M_scrub b_M_scrub 4 (some .boolean)) ({ frames := 3, cells := 0, slots := 0, locals := 67 })).room s m ([.ref m0] : List Value).toArray below meth c H locs 0 0 (MQ below (va_Qi (fun (r : Int32) (u9 : (Nat → Int32) × (Nat → Int32) × (Nat → Int32) × (Nat → Int32) × Int32) => match u9 with | (a9n, a16n, a19n, a23n, y24) => (True) ∧ (r, a9n, a16n, a19n, a23n, y24) = SP) (fun (u9 : (Nat → Int32) × (Nat → Int32) × (Nat → Int32) × (Nat → Int32) × Int32) t => match u9 with | (a9n, a16n, a19n, a23n, y24) => va_P (dC, dI) classes [(m0, .inr (6, oM ga (upc uM 24 y24) cn sn cm us wt oc ou ow)), (ga 9, .inl (gc 9, 96, .inl a9n)), (ga 11, .inl (gc 11, 3, .inl a11)), (ga 16, .inl (gc 16, 3, .inl a16n)), (ga 19, .inl (gc 19, 3, .inl a19n)), (ga 23, .inl (gc 23, 3, .inl a23n))] t.heap ∧ va_K (dC, dI) classes [(gc 9, .int), (gc 11, .int), (gc 16, .int), (gc 19, .boolean), (gc 23, .boolean)] t ∧ va_D A [(m0, .inr (6, oM ga (upc uM 24 y24) cn sn cm us wt oc ou ow)), (ga 9, .inl (gc 9, 96, .inl a9n)), (ga 11, .inl (gc 11, 3, .inl a11)), (ga 16, .inl (gc 16, 3, .inl a16n)), (ga 19, .inl (gc 19, 3, .inl a19n)), (ga 23, .inl (gc 23, 3, .inl a23n))]) A) ([.ref m0] : List Value).toArray s 0 0 A) (F0 m 91 ls []) := by
    intro y24 a9 a16 a19 a23 ls H locs hSq0 hl hP hD hS
    refine lv_iload_n hx hb d_M_scrub_91 rfl (lv_at hl 1 rfl) ?_
    refine lv_iconst (v := 3) hx hb d_M_scrub_92 (by decide) ?_
    refine lv_icmp_ge (tgt := 131) hx hb d_M_scrub_93 rfl (fun hc2 => by first | exact absurd hc2 (by decide) | exact absurd (by decide) hc2) (fun hc2 => ?_)
    refine lv_aload_n hx hb d_M_scrub_96 rfl (lv_at hl 0 rfl) ?_
    refine va_get (D := (dC, dI)) (ci := 6) (v := .ref (ga 23)) (C := "VotedTripleModel") (T := F_M) (N := 37) hx hb hw in_M hown hK hP 0 rfl rfl 23 (by decide) (hw _ k_747) (fun _ h9 => h9) rfl d_M_scrub_97 ?_
    refine lv_iload_n hx hb d_M_scrub_100 rfl (lv_at hl 1 rfl) ?_
    refine lv_aload_n hx hb d_M_scrub_101 rfl (lv_at hl 0 rfl) ?_
    refine va_get (D := (dC, dI)) (ci := 6) (v := .ref (ga 23)) (C := "VotedTripleModel") (T := F_M) (N := 37) hx hb hw in_M hown hK hP 0 rfl rfl 23 (by decide) (hw _ k_747) (fun _ h9 => h9) rfl d_M_scrub_102 ?_
    refine lv_iload_n hx hb d_M_scrub_105 rfl (lv_at hl 1 rfl) ?_
    refine va_zald hx hb hK hP 5 4 rfl rfl (by unfold vp_in; decide) d_M_scrub_106 ?_
    refine W.eq (g2 := F0 m 107 ls [.int (a23 2), .int 2, .ref (ga 23)]) rfl ?_
    refine lv_if_ne (tgt := 119) hx hb d_M_scrub_107 rfl (fun hc3 => ?_) (fun hc3 => ?_)
    · --  ¬ (a23 2) = 0
      refine lv_iconst (v := 1) hx hb d_M_scrub_119 (by decide) ?_
      refine lv_goto (tgt := 124) hx hb d_M_scrub_120 rfl ?_
      refine va_zast hx hb hK hP hD hS 5 4 rfl rfl (by unfold vp_in; decide) d_M_scrub_124 (fun H locs hP hD hS => ?_)
      replace hP : va_P (dC, dI) classes [(m0, .inr (6, oM ga (upc uM 24 y24) cn sn cm us wt oc ou ow)), (ga 9, .inl (gc 9, 96, .inl a9)), (ga 11, .inl (gc 11, 3, .inl a11)), (ga 16, .inl (gc 16, 3, .inl a16)), (ga 19, .inl (gc 19, 3, .inl a19)), (ga 23, .inl (gc 23, 3, .inl (upd a23 2 (1 : Int32))))] H := hP
      replace hD : va_D A [(m0, .inr (6, oM ga (upc uM 24 y24) cn sn cm us wt oc ou ow)), (ga 9, .inl (gc 9, 96, .inl a9)), (ga 11, .inl (gc 11, 3, .inl a11)), (ga 16, .inl (gc 16, 3, .inl a16)), (ga 19, .inl (gc 19, 3, .inl a19)), (ga 23, .inl (gc 23, 3, .inl (upd a23 2 (1 : Int32))))] := hD
      refine lv_iinc (k := 1) (v := 3) hx hb d_M_scrub_125 hl rfl rfl (by decide) rfl (fun ls hl => ?_)
      replace hl : lv_has ls 4 [(2, .int 3), (0, .ref m0)] := hl
      refine lv_goto (tgt := 91) hx hb d_M_scrub_128 rfl ?_
      have hSq : SP = s_M_scrub_cut91_3 uM (upc uM 24 y24 24) a9 a16 a19 (upd a23 2 (1 : Int32)) := by rw [hSq0, s_M_scrub_cut91_2]; try (rw [if_neg hc3]); all_goals rfl
      replace hl := lv_sub hl (l' := [(0, .ref m0), (2, .int 3)]) [1, 0] rfl
      replace hP := hP.sub (ws' := [(m0, .inr (6, oM ga (upc uM 24 (upc uM 24 y24 24)) cn sn cm us wt oc ou ow)), (ga 9, .inl (gc 9, 96, .inl a9)), (ga 11, .inl (gc 11, 3, .inl a11)), (ga 16, .inl (gc 16, 3, .inl a16)), (ga 19, .inl (gc 19, 3, .inl a19)), (ga 23, .inl (gc 23, 3, .inl (upd a23 2 (1 : Int32))))]) [0, 1, 2, 3, 4, 5] rfl
      replace hD := hD.sub (ws' := [(m0, .inr (6, oM ga (upc uM 24 (upc uM 24 y24 24)) cn sn cm us wt oc ou ow)), (ga 9, .inl (gc 9, 96, .inl a9)), (ga 11, .inl (gc 11, 3, .inl a11)), (ga 16, .inl (gc 16, 3, .inl a16)), (ga 19, .inl (gc 19, 3, .inl a19)), (ga 23, .inl (gc 23, 3, .inl (upd a23 2 (1 : Int32))))]) [0, 1, 2, 3, 4, 5] (by decide) rfl
      exact cut91_3 (upc uM 24 y24 24) a9 a16 a19 (upd a23 2 (1 : Int32)) _ _ _ hSq hl hP hD hS
    · --  (a23 2) = 0
      refine lv_aload_n hx hb d_M_scrub_110 rfl (lv_at hl 0 rfl) ?_
      refine va_get (D := (dC, dI)) (ci := 6) (v := .ref (ga 19)) (C := "VotedTripleModel") (T := F_M) (N := 37) hx hb hw in_M hown hK hP 0 rfl rfl 19 (by decide) (hw _ k_743) (fun _ h9 => h9) rfl d_M_scrub_111 ?_
      refine lv_iload_n hx hb d_M_scrub_114 rfl (lv_at hl 1 rfl) ?_
      refine va_zald hx hb hK hP 4 3 rfl rfl (by unfold vp_in; decide) d_M_scrub_115 ?_
      refine W.eq (g2 := F0 m 116 ls [.int (a19 2), .int 2, .ref (ga 23)]) rfl ?_
      refine lv_if_eq (tgt := 123) hx hb d_M_scrub_116 rfl (fun hc4 => ?_) (fun hc4 => ?_)
      · --  (a19 2) = 0
        refine lv_iconst (v := 0) hx hb d_M_scrub_123 (by decide) ?_
        refine va_zast hx hb hK hP hD hS 5 4 rfl rfl (by unfold vp_in; decide) d_M_scrub_124 (fun H locs hP hD hS => ?_)
        replace hP : va_P (dC, dI) classes [(m0, .inr (6, oM ga (upc uM 24 y24) cn sn cm us wt oc ou ow)), (ga 9, .inl (gc 9, 96, .inl a9)), (ga 11, .inl (gc 11, 3, .inl a11)), (ga 16, .inl (gc 16, 3, .inl a16)), (ga 19, .inl (gc 19, 3, .inl a19)), (ga 23, .inl (gc 23, 3, .inl (upd a23 2 (0 : Int32))))] H := hP
        replace hD : va_D A [(m0, .inr (6, oM ga (upc uM 24 y24) cn sn cm us wt oc ou ow)), (ga 9, .inl (gc 9, 96, .inl a9)), (ga 11, .inl (gc 11, 3, .inl a11)), (ga 16, .inl (gc 16, 3, .inl a16)), (ga 19, .inl (gc 19, 3, .inl a19)), (ga 23, .inl (gc 23, 3, .inl (upd a23 2 (0 : Int32))))] := hD
        refine lv_iinc (k := 1) (v := 3) hx hb d_M_scrub_125 hl rfl rfl (by decide) rfl (fun ls hl => ?_)
        replace hl : lv_has ls 4 [(2, .int 3), (0, .ref m0)] := hl
        refine lv_goto (tgt := 91) hx hb d_M_scrub_128 rfl ?_
        have hSq : SP = s_M_scrub_cut91_3 uM (upc uM 24 y24 24) a9 a16 a19 (upd a23 2 (0 : Int32)) := by rw [hSq0, s_M_scrub_cut91_2]; try (rw [if_pos hc3]); try (rw [if_pos hc4]); all_goals rfl
        replace hl := lv_sub hl (l' := [(0, .ref m0), (2, .int 3)]) [1, 0] rfl
        replace hP := hP.sub (ws' := [(m0, .inr (6, oM ga (upc uM 24 (upc uM 24 y24 24)) cn sn cm us wt oc ou ow)), (ga 9, .inl (gc 9, 96, .inl a9)), (ga 11, .inl (gc 11, 3, .inl a11)), (ga 16, .inl (gc 16, 3, .inl a16)), (ga 19, .inl (gc 19, 3, .inl a19)), (ga 23, .inl (gc 23, 3, .inl (upd a23 2 (0 : Int32))))]) [0, 1, 2, 3, 4, 5] rfl
        replace hD := hD.sub (ws' := [(m0, .inr (6, oM ga (upc uM 24 (upc uM 24 y24 24)) cn sn cm us wt oc ou ow)), (ga 9, .inl (gc 9, 96, .inl a9)), (ga 11, .inl (gc 11, 3, .inl a11)), (ga 16, .inl (gc 16, 3, .inl a16)), (ga 19, .inl (gc 19, 3, .inl a19)), (ga 23, .inl (gc 23, 3, .inl (upd a23 2 (0 : Int32))))]) [0, 1, 2, 3, 4, 5] (by decide) rfl
        exact cut91_3 (upc uM 24 y24 24) a9 a16 a19 (upd a23 2 (0 : Int32)) _ _ _ hSq hl hP hD hS
      · --  ¬ (a19 2) = 0
        refine lv_iconst (v := 1) hx hb d_M_scrub_119 (by decide) ?_
        refine lv_goto (tgt := 124) hx hb d_M_scrub_120 rfl ?_
        refine va_zast hx hb hK hP hD hS 5 4 rfl rfl (by unfold vp_in; decide) d_M_scrub_124 (fun H locs hP hD hS => ?_)
        replace hP : va_P (dC, dI) classes [(m0, .inr (6, oM ga (upc uM 24 y24) cn sn cm us wt oc ou ow)), (ga 9, .inl (gc 9, 96, .inl a9)), (ga 11, .inl (gc 11, 3, .inl a11)), (ga 16, .inl (gc 16, 3, .inl a16)), (ga 19, .inl (gc 19, 3, .inl a19)), (ga 23, .inl (gc 23, 3, .inl (upd a23 2 (1 : Int32))))] H := hP
        replace hD : va_D A [(m0, .inr (6, oM ga (upc uM 24 y24) cn sn cm us wt oc ou ow)), (ga 9, .inl (gc 9, 96, .inl a9)), (ga 11, .inl (gc 11, 3, .inl a11)), (ga 16, .inl (gc 16, 3, .inl a16)), (ga 19, .inl (gc 19, 3, .inl a19)), (ga 23, .inl (gc 23, 3, .inl (upd a23 2 (1 : Int32))))] := hD
        refine lv_iinc (k := 1) (v := 3) hx hb d_M_scrub_125 hl rfl rfl (by decide) rfl (fun ls hl => ?_)
        replace hl : lv_has ls 4 [(2, .int 3), (0, .ref m0)] := hl
        refine lv_goto (tgt := 91) hx hb d_M_scrub_128 rfl ?_
        have hSq : SP = s_M_scrub_cut91_3 uM (upc uM 24 y24 24) a9 a16 a19 (upd a23 2 (1 : Int32)) := by rw [hSq0, s_M_scrub_cut91_2]; try (rw [if_pos hc3]); try (rw [if_neg hc4]); all_goals rfl
        replace hl := lv_sub hl (l' := [(0, .ref m0), (2, .int 3)]) [1, 0] rfl
        replace hP := hP.sub (ws' := [(m0, .inr (6, oM ga (upc uM 24 (upc uM 24 y24 24)) cn sn cm us wt oc ou ow)), (ga 9, .inl (gc 9, 96, .inl a9)), (ga 11, .inl (gc 11, 3, .inl a11)), (ga 16, .inl (gc 16, 3, .inl a16)), (ga 19, .inl (gc 19, 3, .inl a19)), (ga 23, .inl (gc 23, 3, .inl (upd a23 2 (1 : Int32))))]) [0, 1, 2, 3, 4, 5] rfl
        replace hD := hD.sub (ws' := [(m0, .inr (6, oM ga (upc uM 24 (upc uM 24 y24 24)) cn sn cm us wt oc ou ow)), (ga 9, .inl (gc 9, 96, .inl a9)), (ga 11, .inl (gc 11, 3, .inl a11)), (ga 16, .inl (gc 16, 3, .inl a16)), (ga 19, .inl (gc 19, 3, .inl a19)), (ga 23, .inl (gc 23, 3, .inl (upd a23 2 (1 : Int32))))]) [0, 1, 2, 3, 4, 5] (by decide) rfl
        exact cut91_3 (upc uM 24 y24 24) a9 a16 a19 (upd a23 2 (1 : Int32)) _ _ _ hSq hl hP hD hS
  have cut91_1 : ∀ (y24 : Int32) (a9 : Nat → Int32) (a16 : Nat → Int32) (a19 : Nat → Int32) (a23 : Nat → Int32) (ls : Array Slot) (H : Heap) (locs : List Loc), SP = s_M_scrub_cut91_1 uM y24 a9 a16 a19 a23 →  lv_has ls 4 [(0, .ref m0), (2, .int 1)] → va_P (dC, dI) classes [(m0, .inr (6, oM ga (upc uM 24 y24) cn sn cm us wt oc ou ow)), (ga 9, .inl (gc 9, 96, .inl a9)), (ga 11, .inl (gc 11, 3, .inl a11)), (ga 16, .inl (gc 16, 3, .inl a16)), (ga 19, .inl (gc 19, 3, .inl a19)), (ga 23, .inl (gc 23, 3, .inl a23))] H → va_D A [(m0, .inr (6, oM ga (upc uM 24 y24) cn sn cm us wt oc ou ow)), (ga 9, .inl (gc 9, 96, .inl a9)), (ga 11, .inl (gc 11, 3, .inl a11)), (ga 16, .inl (gc 16, 3, .inl a16)), (ga 19, .inl (gc 19, 3, .inl a19)), (ga 23, .inl (gc 23, 3, .inl a23))] → va_S A s.heap H locs → W p l e (headSpec (tbw y_M_scrub b_M_scrub 4 (some .boolean)) ({ frames := 3, cells := 0, slots := 0, locals := 67 })).room s m ([.ref m0] : List Value).toArray below meth c H locs 0 0 (MQ below (va_Qi (fun (r : Int32) (u9 : (Nat → Int32) × (Nat → Int32) × (Nat → Int32) × (Nat → Int32) × Int32) => match u9 with | (a9n, a16n, a19n, a23n, y24) => (True) ∧ (r, a9n, a16n, a19n, a23n, y24) = SP) (fun (u9 : (Nat → Int32) × (Nat → Int32) × (Nat → Int32) × (Nat → Int32) × Int32) t => match u9 with | (a9n, a16n, a19n, a23n, y24) => va_P (dC, dI) classes [(m0, .inr (6, oM ga (upc uM 24 y24) cn sn cm us wt oc ou ow)), (ga 9, .inl (gc 9, 96, .inl a9n)), (ga 11, .inl (gc 11, 3, .inl a11)), (ga 16, .inl (gc 16, 3, .inl a16n)), (ga 19, .inl (gc 19, 3, .inl a19n)), (ga 23, .inl (gc 23, 3, .inl a23n))] t.heap ∧ va_K (dC, dI) classes [(gc 9, .int), (gc 11, .int), (gc 16, .int), (gc 19, .boolean), (gc 23, .boolean)] t ∧ va_D A [(m0, .inr (6, oM ga (upc uM 24 y24) cn sn cm us wt oc ou ow)), (ga 9, .inl (gc 9, 96, .inl a9n)), (ga 11, .inl (gc 11, 3, .inl a11)), (ga 16, .inl (gc 16, 3, .inl a16n)), (ga 19, .inl (gc 19, 3, .inl a19n)), (ga 23, .inl (gc 23, 3, .inl a23n))]) A) ([.ref m0] : List Value).toArray s 0 0 A) (F0 m 91 ls []) := by
    intro y24 a9 a16 a19 a23 ls H locs hSq0 hl hP hD hS
    clear cut91_3
    refine lv_iload_n hx hb d_M_scrub_91 rfl (lv_at hl 1 rfl) ?_
    refine lv_iconst (v := 3) hx hb d_M_scrub_92 (by decide) ?_
    refine lv_icmp_ge (tgt := 131) hx hb d_M_scrub_93 rfl (fun hc5 => by first | exact absurd hc5 (by decide) | exact absurd (by decide) hc5) (fun hc5 => ?_)
    refine lv_aload_n hx hb d_M_scrub_96 rfl (lv_at hl 0 rfl) ?_
    refine va_get (D := (dC, dI)) (ci := 6) (v := .ref (ga 23)) (C := "VotedTripleModel") (T := F_M) (N := 37) hx hb hw in_M hown hK hP 0 rfl rfl 23 (by decide) (hw _ k_747) (fun _ h9 => h9) rfl d_M_scrub_97 ?_
    refine lv_iload_n hx hb d_M_scrub_100 rfl (lv_at hl 1 rfl) ?_
    refine lv_aload_n hx hb d_M_scrub_101 rfl (lv_at hl 0 rfl) ?_
    refine va_get (D := (dC, dI)) (ci := 6) (v := .ref (ga 23)) (C := "VotedTripleModel") (T := F_M) (N := 37) hx hb hw in_M hown hK hP 0 rfl rfl 23 (by decide) (hw _ k_747) (fun _ h9 => h9) rfl d_M_scrub_102 ?_
    refine lv_iload_n hx hb d_M_scrub_105 rfl (lv_at hl 1 rfl) ?_
    refine va_zald hx hb hK hP 5 4 rfl rfl (by unfold vp_in; decide) d_M_scrub_106 ?_
    refine W.eq (g2 := F0 m 107 ls [.int (a23 1), .int 1, .ref (ga 23)]) rfl ?_
    refine lv_if_ne (tgt := 119) hx hb d_M_scrub_107 rfl (fun hc6 => ?_) (fun hc6 => ?_)
    · --  ¬ (a23 1) = 0
      refine lv_iconst (v := 1) hx hb d_M_scrub_119 (by decide) ?_
      refine lv_goto (tgt := 124) hx hb d_M_scrub_120 rfl ?_
      refine va_zast hx hb hK hP hD hS 5 4 rfl rfl (by unfold vp_in; decide) d_M_scrub_124 (fun H locs hP hD hS => ?_)
      replace hP : va_P (dC, dI) classes [(m0, .inr (6, oM ga (upc uM 24 y24) cn sn cm us wt oc ou ow)), (ga 9, .inl (gc 9, 96, .inl a9)), (ga 11, .inl (gc 11, 3, .inl a11)), (ga 16, .inl (gc 16, 3, .inl a16)), (ga 19, .inl (gc 19, 3, .inl a19)), (ga 23, .inl (gc 23, 3, .inl (upd a23 1 (1 : Int32))))] H := hP
      replace hD : va_D A [(m0, .inr (6, oM ga (upc uM 24 y24) cn sn cm us wt oc ou ow)), (ga 9, .inl (gc 9, 96, .inl a9)), (ga 11, .inl (gc 11, 3, .inl a11)), (ga 16, .inl (gc 16, 3, .inl a16)), (ga 19, .inl (gc 19, 3, .inl a19)), (ga 23, .inl (gc 23, 3, .inl (upd a23 1 (1 : Int32))))] := hD
      refine lv_iinc (k := 1) (v := 2) hx hb d_M_scrub_125 hl rfl rfl (by decide) rfl (fun ls hl => ?_)
      replace hl : lv_has ls 4 [(2, .int 2), (0, .ref m0)] := hl
      refine lv_goto (tgt := 91) hx hb d_M_scrub_128 rfl ?_
      have hSq : SP = s_M_scrub_cut91_2 uM (upc uM 24 y24 24) a9 a16 a19 (upd a23 1 (1 : Int32)) := by rw [hSq0, s_M_scrub_cut91_1]; try (rw [if_neg hc6]); all_goals rfl
      replace hl := lv_sub hl (l' := [(0, .ref m0), (2, .int 2)]) [1, 0] rfl
      replace hP := hP.sub (ws' := [(m0, .inr (6, oM ga (upc uM 24 (upc uM 24 y24 24)) cn sn cm us wt oc ou ow)), (ga 9, .inl (gc 9, 96, .inl a9)), (ga 11, .inl (gc 11, 3, .inl a11)), (ga 16, .inl (gc 16, 3, .inl a16)), (ga 19, .inl (gc 19, 3, .inl a19)), (ga 23, .inl (gc 23, 3, .inl (upd a23 1 (1 : Int32))))]) [0, 1, 2, 3, 4, 5] rfl
      replace hD := hD.sub (ws' := [(m0, .inr (6, oM ga (upc uM 24 (upc uM 24 y24 24)) cn sn cm us wt oc ou ow)), (ga 9, .inl (gc 9, 96, .inl a9)), (ga 11, .inl (gc 11, 3, .inl a11)), (ga 16, .inl (gc 16, 3, .inl a16)), (ga 19, .inl (gc 19, 3, .inl a19)), (ga 23, .inl (gc 23, 3, .inl (upd a23 1 (1 : Int32))))]) [0, 1, 2, 3, 4, 5] (by decide) rfl
      exact cut91_2 (upc uM 24 y24 24) a9 a16 a19 (upd a23 1 (1 : Int32)) _ _ _ hSq hl hP hD hS
    · --  (a23 1) = 0
      refine lv_aload_n hx hb d_M_scrub_110 rfl (lv_at hl 0 rfl) ?_
      refine va_get (D := (dC, dI)) (ci := 6) (v := .ref (ga 19)) (C := "VotedTripleModel") (T := F_M) (N := 37) hx hb hw in_M hown hK hP 0 rfl rfl 19 (by decide) (hw _ k_743) (fun _ h9 => h9) rfl d_M_scrub_111 ?_
      refine lv_iload_n hx hb d_M_scrub_114 rfl (lv_at hl 1 rfl) ?_
      refine va_zald hx hb hK hP 4 3 rfl rfl (by unfold vp_in; decide) d_M_scrub_115 ?_
      refine W.eq (g2 := F0 m 116 ls [.int (a19 1), .int 1, .ref (ga 23)]) rfl ?_
      refine lv_if_eq (tgt := 123) hx hb d_M_scrub_116 rfl (fun hc7 => ?_) (fun hc7 => ?_)
      · --  (a19 1) = 0
        refine lv_iconst (v := 0) hx hb d_M_scrub_123 (by decide) ?_
        refine va_zast hx hb hK hP hD hS 5 4 rfl rfl (by unfold vp_in; decide) d_M_scrub_124 (fun H locs hP hD hS => ?_)
        replace hP : va_P (dC, dI) classes [(m0, .inr (6, oM ga (upc uM 24 y24) cn sn cm us wt oc ou ow)), (ga 9, .inl (gc 9, 96, .inl a9)), (ga 11, .inl (gc 11, 3, .inl a11)), (ga 16, .inl (gc 16, 3, .inl a16)), (ga 19, .inl (gc 19, 3, .inl a19)), (ga 23, .inl (gc 23, 3, .inl (upd a23 1 (0 : Int32))))] H := hP
        replace hD : va_D A [(m0, .inr (6, oM ga (upc uM 24 y24) cn sn cm us wt oc ou ow)), (ga 9, .inl (gc 9, 96, .inl a9)), (ga 11, .inl (gc 11, 3, .inl a11)), (ga 16, .inl (gc 16, 3, .inl a16)), (ga 19, .inl (gc 19, 3, .inl a19)), (ga 23, .inl (gc 23, 3, .inl (upd a23 1 (0 : Int32))))] := hD
        refine lv_iinc (k := 1) (v := 2) hx hb d_M_scrub_125 hl rfl rfl (by decide) rfl (fun ls hl => ?_)
        replace hl : lv_has ls 4 [(2, .int 2), (0, .ref m0)] := hl
        refine lv_goto (tgt := 91) hx hb d_M_scrub_128 rfl ?_
        have hSq : SP = s_M_scrub_cut91_2 uM (upc uM 24 y24 24) a9 a16 a19 (upd a23 1 (0 : Int32)) := by rw [hSq0, s_M_scrub_cut91_1]; try (rw [if_pos hc6]); try (rw [if_pos hc7]); all_goals rfl
        replace hl := lv_sub hl (l' := [(0, .ref m0), (2, .int 2)]) [1, 0] rfl
        replace hP := hP.sub (ws' := [(m0, .inr (6, oM ga (upc uM 24 (upc uM 24 y24 24)) cn sn cm us wt oc ou ow)), (ga 9, .inl (gc 9, 96, .inl a9)), (ga 11, .inl (gc 11, 3, .inl a11)), (ga 16, .inl (gc 16, 3, .inl a16)), (ga 19, .inl (gc 19, 3, .inl a19)), (ga 23, .inl (gc 23, 3, .inl (upd a23 1 (0 : Int32))))]) [0, 1, 2, 3, 4, 5] rfl
        replace hD := hD.sub (ws' := [(m0, .inr (6, oM ga (upc uM 24 (upc uM 24 y24 24)) cn sn cm us wt oc ou ow)), (ga 9, .inl (gc 9, 96, .inl a9)), (ga 11, .inl (gc 11, 3, .inl a11)), (ga 16, .inl (gc 16, 3, .inl a16)), (ga 19, .inl (gc 19, 3, .inl a19)), (ga 23, .inl (gc 23, 3, .inl (upd a23 1 (0 : Int32))))]) [0, 1, 2, 3, 4, 5] (by decide) rfl
        exact cut91_2 (upc uM 24 y24 24) a9 a16 a19 (upd a23 1 (0 : Int32)) _ _ _ hSq hl hP hD hS
      · --  ¬ (a19 1) = 0
        refine lv_iconst (v := 1) hx hb d_M_scrub_119 (by decide) ?_
        refine lv_goto (tgt := 124) hx hb d_M_scrub_120 rfl ?_
        refine va_zast hx hb hK hP hD hS 5 4 rfl rfl (by unfold vp_in; decide) d_M_scrub_124 (fun H locs hP hD hS => ?_)
        replace hP : va_P (dC, dI) classes [(m0, .inr (6, oM ga (upc uM 24 y24) cn sn cm us wt oc ou ow)), (ga 9, .inl (gc 9, 96, .inl a9)), (ga 11, .inl (gc 11, 3, .inl a11)), (ga 16, .inl (gc 16, 3, .inl a16)), (ga 19, .inl (gc 19, 3, .inl a19)), (ga 23, .inl (gc 23, 3, .inl (upd a23 1 (1 : Int32))))] H := hP
        replace hD : va_D A [(m0, .inr (6, oM ga (upc uM 24 y24) cn sn cm us wt oc ou ow)), (ga 9, .inl (gc 9, 96, .inl a9)), (ga 11, .inl (gc 11, 3, .inl a11)), (ga 16, .inl (gc 16, 3, .inl a16)), (ga 19, .inl (gc 19, 3, .inl a19)), (ga 23, .inl (gc 23, 3, .inl (upd a23 1 (1 : Int32))))] := hD
        refine lv_iinc (k := 1) (v := 2) hx hb d_M_scrub_125 hl rfl rfl (by decide) rfl (fun ls hl => ?_)
        replace hl : lv_has ls 4 [(2, .int 2), (0, .ref m0)] := hl
        refine lv_goto (tgt := 91) hx hb d_M_scrub_128 rfl ?_
        have hSq : SP = s_M_scrub_cut91_2 uM (upc uM 24 y24 24) a9 a16 a19 (upd a23 1 (1 : Int32)) := by rw [hSq0, s_M_scrub_cut91_1]; try (rw [if_pos hc6]); try (rw [if_neg hc7]); all_goals rfl
        replace hl := lv_sub hl (l' := [(0, .ref m0), (2, .int 2)]) [1, 0] rfl
        replace hP := hP.sub (ws' := [(m0, .inr (6, oM ga (upc uM 24 (upc uM 24 y24 24)) cn sn cm us wt oc ou ow)), (ga 9, .inl (gc 9, 96, .inl a9)), (ga 11, .inl (gc 11, 3, .inl a11)), (ga 16, .inl (gc 16, 3, .inl a16)), (ga 19, .inl (gc 19, 3, .inl a19)), (ga 23, .inl (gc 23, 3, .inl (upd a23 1 (1 : Int32))))]) [0, 1, 2, 3, 4, 5] rfl
        replace hD := hD.sub (ws' := [(m0, .inr (6, oM ga (upc uM 24 (upc uM 24 y24 24)) cn sn cm us wt oc ou ow)), (ga 9, .inl (gc 9, 96, .inl a9)), (ga 11, .inl (gc 11, 3, .inl a11)), (ga 16, .inl (gc 16, 3, .inl a16)), (ga 19, .inl (gc 19, 3, .inl a19)), (ga 23, .inl (gc 23, 3, .inl (upd a23 1 (1 : Int32))))]) [0, 1, 2, 3, 4, 5] (by decide) rfl
        exact cut91_2 (upc uM 24 y24 24) a9 a16 a19 (upd a23 1 (1 : Int32)) _ _ _ hSq hl hP hD hS
  have cut91_0 : ∀ (y24 : Int32) (a9 : Nat → Int32) (a16 : Nat → Int32) (a19 : Nat → Int32) (a23 : Nat → Int32) (ls : Array Slot) (H : Heap) (locs : List Loc), SP = s_M_scrub_cut91_0 uM y24 a9 a16 a19 a23 →  lv_has ls 4 [(0, .ref m0), (2, .int 0)] → va_P (dC, dI) classes [(m0, .inr (6, oM ga (upc uM 24 y24) cn sn cm us wt oc ou ow)), (ga 9, .inl (gc 9, 96, .inl a9)), (ga 11, .inl (gc 11, 3, .inl a11)), (ga 16, .inl (gc 16, 3, .inl a16)), (ga 19, .inl (gc 19, 3, .inl a19)), (ga 23, .inl (gc 23, 3, .inl a23))] H → va_D A [(m0, .inr (6, oM ga (upc uM 24 y24) cn sn cm us wt oc ou ow)), (ga 9, .inl (gc 9, 96, .inl a9)), (ga 11, .inl (gc 11, 3, .inl a11)), (ga 16, .inl (gc 16, 3, .inl a16)), (ga 19, .inl (gc 19, 3, .inl a19)), (ga 23, .inl (gc 23, 3, .inl a23))] → va_S A s.heap H locs → W p l e (headSpec (tbw y_M_scrub b_M_scrub 4 (some .boolean)) ({ frames := 3, cells := 0, slots := 0, locals := 67 })).room s m ([.ref m0] : List Value).toArray below meth c H locs 0 0 (MQ below (va_Qi (fun (r : Int32) (u9 : (Nat → Int32) × (Nat → Int32) × (Nat → Int32) × (Nat → Int32) × Int32) => match u9 with | (a9n, a16n, a19n, a23n, y24) => (True) ∧ (r, a9n, a16n, a19n, a23n, y24) = SP) (fun (u9 : (Nat → Int32) × (Nat → Int32) × (Nat → Int32) × (Nat → Int32) × Int32) t => match u9 with | (a9n, a16n, a19n, a23n, y24) => va_P (dC, dI) classes [(m0, .inr (6, oM ga (upc uM 24 y24) cn sn cm us wt oc ou ow)), (ga 9, .inl (gc 9, 96, .inl a9n)), (ga 11, .inl (gc 11, 3, .inl a11)), (ga 16, .inl (gc 16, 3, .inl a16n)), (ga 19, .inl (gc 19, 3, .inl a19n)), (ga 23, .inl (gc 23, 3, .inl a23n))] t.heap ∧ va_K (dC, dI) classes [(gc 9, .int), (gc 11, .int), (gc 16, .int), (gc 19, .boolean), (gc 23, .boolean)] t ∧ va_D A [(m0, .inr (6, oM ga (upc uM 24 y24) cn sn cm us wt oc ou ow)), (ga 9, .inl (gc 9, 96, .inl a9n)), (ga 11, .inl (gc 11, 3, .inl a11)), (ga 16, .inl (gc 16, 3, .inl a16n)), (ga 19, .inl (gc 19, 3, .inl a19n)), (ga 23, .inl (gc 23, 3, .inl a23n))]) A) ([.ref m0] : List Value).toArray s 0 0 A) (F0 m 91 ls []) := by
    intro y24 a9 a16 a19 a23 ls H locs hSq0 hl hP hD hS
    clear cut91_3 cut91_2
    refine lv_iload_n hx hb d_M_scrub_91 rfl (lv_at hl 1 rfl) ?_
    refine lv_iconst (v := 3) hx hb d_M_scrub_92 (by decide) ?_
    refine lv_icmp_ge (tgt := 131) hx hb d_M_scrub_93 rfl (fun hc8 => by first | exact absurd hc8 (by decide) | exact absurd (by decide) hc8) (fun hc8 => ?_)
    refine lv_aload_n hx hb d_M_scrub_96 rfl (lv_at hl 0 rfl) ?_
    refine va_get (D := (dC, dI)) (ci := 6) (v := .ref (ga 23)) (C := "VotedTripleModel") (T := F_M) (N := 37) hx hb hw in_M hown hK hP 0 rfl rfl 23 (by decide) (hw _ k_747) (fun _ h9 => h9) rfl d_M_scrub_97 ?_
    refine lv_iload_n hx hb d_M_scrub_100 rfl (lv_at hl 1 rfl) ?_
    refine lv_aload_n hx hb d_M_scrub_101 rfl (lv_at hl 0 rfl) ?_
    refine va_get (D := (dC, dI)) (ci := 6) (v := .ref (ga 23)) (C := "VotedTripleModel") (T := F_M) (N := 37) hx hb hw in_M hown hK hP 0 rfl rfl 23 (by decide) (hw _ k_747) (fun _ h9 => h9) rfl d_M_scrub_102 ?_
    refine lv_iload_n hx hb d_M_scrub_105 rfl (lv_at hl 1 rfl) ?_
    refine va_zald hx hb hK hP 5 4 rfl rfl (by unfold vp_in; decide) d_M_scrub_106 ?_
    refine W.eq (g2 := F0 m 107 ls [.int (a23 0), .int 0, .ref (ga 23)]) rfl ?_
    refine lv_if_ne (tgt := 119) hx hb d_M_scrub_107 rfl (fun hc9 => ?_) (fun hc9 => ?_)
    · --  ¬ (a23 0) = 0
      refine lv_iconst (v := 1) hx hb d_M_scrub_119 (by decide) ?_
      refine lv_goto (tgt := 124) hx hb d_M_scrub_120 rfl ?_
      refine va_zast hx hb hK hP hD hS 5 4 rfl rfl (by unfold vp_in; decide) d_M_scrub_124 (fun H locs hP hD hS => ?_)
      replace hP : va_P (dC, dI) classes [(m0, .inr (6, oM ga (upc uM 24 y24) cn sn cm us wt oc ou ow)), (ga 9, .inl (gc 9, 96, .inl a9)), (ga 11, .inl (gc 11, 3, .inl a11)), (ga 16, .inl (gc 16, 3, .inl a16)), (ga 19, .inl (gc 19, 3, .inl a19)), (ga 23, .inl (gc 23, 3, .inl (upd a23 0 (1 : Int32))))] H := hP
      replace hD : va_D A [(m0, .inr (6, oM ga (upc uM 24 y24) cn sn cm us wt oc ou ow)), (ga 9, .inl (gc 9, 96, .inl a9)), (ga 11, .inl (gc 11, 3, .inl a11)), (ga 16, .inl (gc 16, 3, .inl a16)), (ga 19, .inl (gc 19, 3, .inl a19)), (ga 23, .inl (gc 23, 3, .inl (upd a23 0 (1 : Int32))))] := hD
      refine lv_iinc (k := 1) (v := 1) hx hb d_M_scrub_125 hl rfl rfl (by decide) rfl (fun ls hl => ?_)
      replace hl : lv_has ls 4 [(2, .int 1), (0, .ref m0)] := hl
      refine lv_goto (tgt := 91) hx hb d_M_scrub_128 rfl ?_
      have hSq : SP = s_M_scrub_cut91_1 uM (upc uM 24 y24 24) a9 a16 a19 (upd a23 0 (1 : Int32)) := by rw [hSq0, s_M_scrub_cut91_0]; try (rw [if_neg hc9]); all_goals rfl
      replace hl := lv_sub hl (l' := [(0, .ref m0), (2, .int 1)]) [1, 0] rfl
      replace hP := hP.sub (ws' := [(m0, .inr (6, oM ga (upc uM 24 (upc uM 24 y24 24)) cn sn cm us wt oc ou ow)), (ga 9, .inl (gc 9, 96, .inl a9)), (ga 11, .inl (gc 11, 3, .inl a11)), (ga 16, .inl (gc 16, 3, .inl a16)), (ga 19, .inl (gc 19, 3, .inl a19)), (ga 23, .inl (gc 23, 3, .inl (upd a23 0 (1 : Int32))))]) [0, 1, 2, 3, 4, 5] rfl
      replace hD := hD.sub (ws' := [(m0, .inr (6, oM ga (upc uM 24 (upc uM 24 y24 24)) cn sn cm us wt oc ou ow)), (ga 9, .inl (gc 9, 96, .inl a9)), (ga 11, .inl (gc 11, 3, .inl a11)), (ga 16, .inl (gc 16, 3, .inl a16)), (ga 19, .inl (gc 19, 3, .inl a19)), (ga 23, .inl (gc 23, 3, .inl (upd a23 0 (1 : Int32))))]) [0, 1, 2, 3, 4, 5] (by decide) rfl
      exact cut91_1 (upc uM 24 y24 24) a9 a16 a19 (upd a23 0 (1 : Int32)) _ _ _ hSq hl hP hD hS
    · --  (a23 0) = 0
      refine lv_aload_n hx hb d_M_scrub_110 rfl (lv_at hl 0 rfl) ?_
      refine va_get (D := (dC, dI)) (ci := 6) (v := .ref (ga 19)) (C := "VotedTripleModel") (T := F_M) (N := 37) hx hb hw in_M hown hK hP 0 rfl rfl 19 (by decide) (hw _ k_743) (fun _ h9 => h9) rfl d_M_scrub_111 ?_
      refine lv_iload_n hx hb d_M_scrub_114 rfl (lv_at hl 1 rfl) ?_
      refine va_zald hx hb hK hP 4 3 rfl rfl (by unfold vp_in; decide) d_M_scrub_115 ?_
      refine W.eq (g2 := F0 m 116 ls [.int (a19 0), .int 0, .ref (ga 23)]) rfl ?_
      refine lv_if_eq (tgt := 123) hx hb d_M_scrub_116 rfl (fun hc10 => ?_) (fun hc10 => ?_)
      · --  (a19 0) = 0
        refine lv_iconst (v := 0) hx hb d_M_scrub_123 (by decide) ?_
        refine va_zast hx hb hK hP hD hS 5 4 rfl rfl (by unfold vp_in; decide) d_M_scrub_124 (fun H locs hP hD hS => ?_)
        replace hP : va_P (dC, dI) classes [(m0, .inr (6, oM ga (upc uM 24 y24) cn sn cm us wt oc ou ow)), (ga 9, .inl (gc 9, 96, .inl a9)), (ga 11, .inl (gc 11, 3, .inl a11)), (ga 16, .inl (gc 16, 3, .inl a16)), (ga 19, .inl (gc 19, 3, .inl a19)), (ga 23, .inl (gc 23, 3, .inl (upd a23 0 (0 : Int32))))] H := hP
        replace hD : va_D A [(m0, .inr (6, oM ga (upc uM 24 y24) cn sn cm us wt oc ou ow)), (ga 9, .inl (gc 9, 96, .inl a9)), (ga 11, .inl (gc 11, 3, .inl a11)), (ga 16, .inl (gc 16, 3, .inl a16)), (ga 19, .inl (gc 19, 3, .inl a19)), (ga 23, .inl (gc 23, 3, .inl (upd a23 0 (0 : Int32))))] := hD
        refine lv_iinc (k := 1) (v := 1) hx hb d_M_scrub_125 hl rfl rfl (by decide) rfl (fun ls hl => ?_)
        replace hl : lv_has ls 4 [(2, .int 1), (0, .ref m0)] := hl
        refine lv_goto (tgt := 91) hx hb d_M_scrub_128 rfl ?_
        have hSq : SP = s_M_scrub_cut91_1 uM (upc uM 24 y24 24) a9 a16 a19 (upd a23 0 (0 : Int32)) := by rw [hSq0, s_M_scrub_cut91_0]; try (rw [if_pos hc9]); try (rw [if_pos hc10]); all_goals rfl
        replace hl := lv_sub hl (l' := [(0, .ref m0), (2, .int 1)]) [1, 0] rfl
        replace hP := hP.sub (ws' := [(m0, .inr (6, oM ga (upc uM 24 (upc uM 24 y24 24)) cn sn cm us wt oc ou ow)), (ga 9, .inl (gc 9, 96, .inl a9)), (ga 11, .inl (gc 11, 3, .inl a11)), (ga 16, .inl (gc 16, 3, .inl a16)), (ga 19, .inl (gc 19, 3, .inl a19)), (ga 23, .inl (gc 23, 3, .inl (upd a23 0 (0 : Int32))))]) [0, 1, 2, 3, 4, 5] rfl
        replace hD := hD.sub (ws' := [(m0, .inr (6, oM ga (upc uM 24 (upc uM 24 y24 24)) cn sn cm us wt oc ou ow)), (ga 9, .inl (gc 9, 96, .inl a9)), (ga 11, .inl (gc 11, 3, .inl a11)), (ga 16, .inl (gc 16, 3, .inl a16)), (ga 19, .inl (gc 19, 3, .inl a19)), (ga 23, .inl (gc 23, 3, .inl (upd a23 0 (0 : Int32))))]) [0, 1, 2, 3, 4, 5] (by decide) rfl
        exact cut91_1 (upc uM 24 y24 24) a9 a16 a19 (upd a23 0 (0 : Int32)) _ _ _ hSq hl hP hD hS
      · --  ¬ (a19 0) = 0
        refine lv_iconst (v := 1) hx hb d_M_scrub_119 (by decide) ?_
        refine lv_goto (tgt := 124) hx hb d_M_scrub_120 rfl ?_
        refine va_zast hx hb hK hP hD hS 5 4 rfl rfl (by unfold vp_in; decide) d_M_scrub_124 (fun H locs hP hD hS => ?_)
        replace hP : va_P (dC, dI) classes [(m0, .inr (6, oM ga (upc uM 24 y24) cn sn cm us wt oc ou ow)), (ga 9, .inl (gc 9, 96, .inl a9)), (ga 11, .inl (gc 11, 3, .inl a11)), (ga 16, .inl (gc 16, 3, .inl a16)), (ga 19, .inl (gc 19, 3, .inl a19)), (ga 23, .inl (gc 23, 3, .inl (upd a23 0 (1 : Int32))))] H := hP
        replace hD : va_D A [(m0, .inr (6, oM ga (upc uM 24 y24) cn sn cm us wt oc ou ow)), (ga 9, .inl (gc 9, 96, .inl a9)), (ga 11, .inl (gc 11, 3, .inl a11)), (ga 16, .inl (gc 16, 3, .inl a16)), (ga 19, .inl (gc 19, 3, .inl a19)), (ga 23, .inl (gc 23, 3, .inl (upd a23 0 (1 : Int32))))] := hD
        refine lv_iinc (k := 1) (v := 1) hx hb d_M_scrub_125 hl rfl rfl (by decide) rfl (fun ls hl => ?_)
        replace hl : lv_has ls 4 [(2, .int 1), (0, .ref m0)] := hl
        refine lv_goto (tgt := 91) hx hb d_M_scrub_128 rfl ?_
        have hSq : SP = s_M_scrub_cut91_1 uM (upc uM 24 y24 24) a9 a16 a19 (upd a23 0 (1 : Int32)) := by rw [hSq0, s_M_scrub_cut91_0]; try (rw [if_pos hc9]); try (rw [if_neg hc10]); all_goals rfl
        replace hl := lv_sub hl (l' := [(0, .ref m0), (2, .int 1)]) [1, 0] rfl
        replace hP := hP.sub (ws' := [(m0, .inr (6, oM ga (upc uM 24 (upc uM 24 y24 24)) cn sn cm us wt oc ou ow)), (ga 9, .inl (gc 9, 96, .inl a9)), (ga 11, .inl (gc 11, 3, .inl a11)), (ga 16, .inl (gc 16, 3, .inl a16)), (ga 19, .inl (gc 19, 3, .inl a19)), (ga 23, .inl (gc 23, 3, .inl (upd a23 0 (1 : Int32))))]) [0, 1, 2, 3, 4, 5] rfl
        replace hD := hD.sub (ws' := [(m0, .inr (6, oM ga (upc uM 24 (upc uM 24 y24 24)) cn sn cm us wt oc ou ow)), (ga 9, .inl (gc 9, 96, .inl a9)), (ga 11, .inl (gc 11, 3, .inl a11)), (ga 16, .inl (gc 16, 3, .inl a16)), (ga 19, .inl (gc 19, 3, .inl a19)), (ga 23, .inl (gc 23, 3, .inl (upd a23 0 (1 : Int32))))]) [0, 1, 2, 3, 4, 5] (by decide) rfl
        exact cut91_1 (upc uM 24 y24 24) a9 a16 a19 (upd a23 0 (1 : Int32)) _ _ _ hSq hl hP hD hS
  have cut4_3 : ∀ (y24 : Int32) (a9 : Nat → Int32) (a16 : Nat → Int32) (a19 : Nat → Int32) (a23 : Nat → Int32) (w1 : Int32) (ls : Array Slot) (H : Heap) (locs : List Loc), SP = s_M_scrub_cut4_3 uM y24 a9 a16 a19 a23 w1 →  lv_has ls 4 [(0, .ref m0), (1, .int w1), (2, .int 3)] → va_P (dC, dI) classes [(m0, .inr (6, oM ga (upc uM 24 y24) cn sn cm us wt oc ou ow)), (ga 9, .inl (gc 9, 96, .inl a9)), (ga 11, .inl (gc 11, 3, .inl a11)), (ga 16, .inl (gc 16, 3, .inl a16)), (ga 19, .inl (gc 19, 3, .inl a19)), (ga 23, .inl (gc 23, 3, .inl a23))] H → va_D A [(m0, .inr (6, oM ga (upc uM 24 y24) cn sn cm us wt oc ou ow)), (ga 9, .inl (gc 9, 96, .inl a9)), (ga 11, .inl (gc 11, 3, .inl a11)), (ga 16, .inl (gc 16, 3, .inl a16)), (ga 19, .inl (gc 19, 3, .inl a19)), (ga 23, .inl (gc 23, 3, .inl a23))] → va_S A s.heap H locs → W p l e (headSpec (tbw y_M_scrub b_M_scrub 4 (some .boolean)) ({ frames := 3, cells := 0, slots := 0, locals := 67 })).room s m ([.ref m0] : List Value).toArray below meth c H locs 0 0 (MQ below (va_Qi (fun (r : Int32) (u9 : (Nat → Int32) × (Nat → Int32) × (Nat → Int32) × (Nat → Int32) × Int32) => match u9 with | (a9n, a16n, a19n, a23n, y24) => (True) ∧ (r, a9n, a16n, a19n, a23n, y24) = SP) (fun (u9 : (Nat → Int32) × (Nat → Int32) × (Nat → Int32) × (Nat → Int32) × Int32) t => match u9 with | (a9n, a16n, a19n, a23n, y24) => va_P (dC, dI) classes [(m0, .inr (6, oM ga (upc uM 24 y24) cn sn cm us wt oc ou ow)), (ga 9, .inl (gc 9, 96, .inl a9n)), (ga 11, .inl (gc 11, 3, .inl a11)), (ga 16, .inl (gc 16, 3, .inl a16n)), (ga 19, .inl (gc 19, 3, .inl a19n)), (ga 23, .inl (gc 23, 3, .inl a23n))] t.heap ∧ va_K (dC, dI) classes [(gc 9, .int), (gc 11, .int), (gc 16, .int), (gc 19, .boolean), (gc 23, .boolean)] t ∧ va_D A [(m0, .inr (6, oM ga (upc uM 24 y24) cn sn cm us wt oc ou ow)), (ga 9, .inl (gc 9, 96, .inl a9n)), (ga 11, .inl (gc 11, 3, .inl a11)), (ga 16, .inl (gc 16, 3, .inl a16n)), (ga 19, .inl (gc 19, 3, .inl a19n)), (ga 23, .inl (gc 23, 3, .inl a23n))]) A) ([.ref m0] : List Value).toArray s 0 0 A) (F0 m 4 ls []) := by
    intro y24 a9 a16 a19 a23 w1 ls H locs hSq0 hl hP hD hS
    clear cut91_3 cut91_2 cut91_1
    refine lv_iload_n hx hb d_M_scrub_4 rfl (lv_at hl 2 rfl) ?_
    refine lv_iconst (v := 3) hx hb d_M_scrub_5 (by decide) ?_
    refine lv_icmp_ge (tgt := 83) hx hb d_M_scrub_6 rfl (fun hc11 => ?_) (fun hc11 => by first | exact absurd (by decide) hc11 | exact absurd hc11 (by decide))
    refine lv_iload_n hx hb d_M_scrub_83 rfl (lv_at hl 1 rfl) ?_
    refine lv_if_eq (tgt := 89) hx hb d_M_scrub_84 rfl (fun hc12 => ?_) (fun hc12 => ?_)
    · --  w1 = 0
      refine lv_iconst (v := 0) hx hb d_M_scrub_89 (by decide) ?_
      refine lv_istore_n hx hb d_M_scrub_90 rfl hl (by decide) rfl (fun ls hl => ?_)
      replace hl : lv_has ls 4 [(2, .int 0), (0, .ref m0), (1, .int w1)] := hl
      have hSq : SP = s_M_scrub_cut91_0 uM (upc uM 24 y24 24) a9 a16 a19 a23 := by rw [hSq0, s_M_scrub_cut4_3]; try (rw [if_pos hc12]); all_goals rfl
      replace hl := lv_sub hl (l' := [(0, .ref m0), (2, .int 0)]) [1, 0] rfl
      replace hP := hP.sub (ws' := [(m0, .inr (6, oM ga (upc uM 24 (upc uM 24 y24 24)) cn sn cm us wt oc ou ow)), (ga 9, .inl (gc 9, 96, .inl a9)), (ga 11, .inl (gc 11, 3, .inl a11)), (ga 16, .inl (gc 16, 3, .inl a16)), (ga 19, .inl (gc 19, 3, .inl a19)), (ga 23, .inl (gc 23, 3, .inl a23))]) [0, 1, 2, 3, 4, 5] rfl
      replace hD := hD.sub (ws' := [(m0, .inr (6, oM ga (upc uM 24 (upc uM 24 y24 24)) cn sn cm us wt oc ou ow)), (ga 9, .inl (gc 9, 96, .inl a9)), (ga 11, .inl (gc 11, 3, .inl a11)), (ga 16, .inl (gc 16, 3, .inl a16)), (ga 19, .inl (gc 19, 3, .inl a19)), (ga 23, .inl (gc 23, 3, .inl a23))]) [0, 1, 2, 3, 4, 5] (by decide) rfl
      exact cut91_0 (upc uM 24 y24 24) a9 a16 a19 a23 _ _ _ hSq hl hP hD hS
    · --  ¬ w1 = 0
      refine lv_iconst (v := 0) hx hb d_M_scrub_87 (by decide) ?_
      have hP9 := hP.sub (ws' := [(m0, .inr (6, oM ga (upc uM 24 (upc uM 24 y24 24)) cn sn cm us wt oc ou ow)), (ga 9, .inl (gc 9, 96, .inl a9)), (ga 11, .inl (gc 11, 3, .inl a11)), (ga 16, .inl (gc 16, 3, .inl a16)), (ga 19, .inl (gc 19, 3, .inl a19)), (ga 23, .inl (gc 23, 3, .inl a23))]) [0, 1, 2, 3, 4, 5] rfl
      have hD9 := hD.sub (ws' := [(m0, .inr (6, oM ga (upc uM 24 (upc uM 24 y24 24)) cn sn cm us wt oc ou ow)), (ga 9, .inl (gc 9, 96, .inl a9)), (ga 11, .inl (gc 11, 3, .inl a11)), (ga 16, .inl (gc 16, 3, .inl a16)), (ga 19, .inl (gc 19, 3, .inl a19)), (ga 23, .inl (gc 23, 3, .inl a23))]) [0, 1, 2, 3, 4, 5] (by decide) rfl
      have hK9 := hK.sub (tys' := [(gc 9, .int), (gc 11, .int), (gc 16, .int), (gc 19, .boolean), (gc 23, .boolean)]) [0, 1, 2, 3, 4] rfl
      refine W.widen (k := 0) (n := 0) (Nat.le_of_ble_eq_true rfl) (Nat.le_of_ble_eq_true rfl) ?_
      exact W.zret (v := 0) (ty := .boolean) hx hb hr rfl (fun t ht hW => ⟨⟨_, (a9, a16, a19, a23, upc uM 24 y24 24), rfl, ⟨trivial, (by rw [hSq0, s_M_scrub_cut4_3]; try (rw [if_neg hc12]); all_goals rfl)⟩, by rw [ht]; exact hP9, va_K.moved hW.alike hK9, hD9⟩, hS.F ht⟩) hS.2.2 d_M_scrub_88
  have cut4_2 : ∀ (y24 : Int32) (a9 : Nat → Int32) (a16 : Nat → Int32) (a19 : Nat → Int32) (a23 : Nat → Int32) (w1 : Int32) (ls : Array Slot) (H : Heap) (locs : List Loc), SP = s_M_scrub_cut4_2 uM sn a11 y24 a9 a16 a19 a23 w1 →  lv_has ls 4 [(0, .ref m0), (1, .int w1), (2, .int 2)] → va_P (dC, dI) classes [(m0, .inr (6, oM ga (upc uM 24 y24) cn sn cm us wt oc ou ow)), (ga 9, .inl (gc 9, 96, .inl a9)), (ga 11, .inl (gc 11, 3, .inl a11)), (ga 16, .inl (gc 16, 3, .inl a16)), (ga 19, .inl (gc 19, 3, .inl a19)), (ga 23, .inl (gc 23, 3, .inl a23))] H → va_D A [(m0, .inr (6, oM ga (upc uM 24 y24) cn sn cm us wt oc ou ow)), (ga 9, .inl (gc 9, 96, .inl a9)), (ga 11, .inl (gc 11, 3, .inl a11)), (ga 16, .inl (gc 16, 3, .inl a16)), (ga 19, .inl (gc 19, 3, .inl a19)), (ga 23, .inl (gc 23, 3, .inl a23))] → va_S A s.heap H locs → W p l e (headSpec (tbw y_M_scrub b_M_scrub 4 (some .boolean)) ({ frames := 3, cells := 0, slots := 0, locals := 67 })).room s m ([.ref m0] : List Value).toArray below meth c H locs 0 0 (MQ below (va_Qi (fun (r : Int32) (u9 : (Nat → Int32) × (Nat → Int32) × (Nat → Int32) × (Nat → Int32) × Int32) => match u9 with | (a9n, a16n, a19n, a23n, y24) => (True) ∧ (r, a9n, a16n, a19n, a23n, y24) = SP) (fun (u9 : (Nat → Int32) × (Nat → Int32) × (Nat → Int32) × (Nat → Int32) × Int32) t => match u9 with | (a9n, a16n, a19n, a23n, y24) => va_P (dC, dI) classes [(m0, .inr (6, oM ga (upc uM 24 y24) cn sn cm us wt oc ou ow)), (ga 9, .inl (gc 9, 96, .inl a9n)), (ga 11, .inl (gc 11, 3, .inl a11)), (ga 16, .inl (gc 16, 3, .inl a16n)), (ga 19, .inl (gc 19, 3, .inl a19n)), (ga 23, .inl (gc 23, 3, .inl a23n))] t.heap ∧ va_K (dC, dI) classes [(gc 9, .int), (gc 11, .int), (gc 16, .int), (gc 19, .boolean), (gc 23, .boolean)] t ∧ va_D A [(m0, .inr (6, oM ga (upc uM 24 y24) cn sn cm us wt oc ou ow)), (ga 9, .inl (gc 9, 96, .inl a9n)), (ga 11, .inl (gc 11, 3, .inl a11)), (ga 16, .inl (gc 16, 3, .inl a16n)), (ga 19, .inl (gc 19, 3, .inl a19n)), (ga 23, .inl (gc 23, 3, .inl a23n))]) A) ([.ref m0] : List Value).toArray s 0 0 A) (F0 m 4 ls []) := by
    intro y24 a9 a16 a19 a23 w1 ls H locs hSq0 hl hP hD hS
    clear cut91_3 cut91_2 cut91_1 cut91_0
    refine lv_iload_n hx hb d_M_scrub_4 rfl (lv_at hl 2 rfl) ?_
    refine lv_iconst (v := 3) hx hb d_M_scrub_5 (by decide) ?_
    refine lv_icmp_ge (tgt := 83) hx hb d_M_scrub_6 rfl (fun hc13 => by first | exact absurd hc13 (by decide) | exact absurd (by decide) hc13) (fun hc13 => ?_)
    refine lv_aload_n hx hb d_M_scrub_9 rfl (lv_at hl 0 rfl) ?_
    refine va_get (D := (dC, dI)) (ci := 6) (v := .ref (ga 19)) (C := "VotedTripleModel") (T := F_M) (N := 37) hx hb hw in_M hown hK hP 0 rfl rfl 19 (by decide) (hw _ k_743) (fun _ h9 => h9) rfl d_M_scrub_10 ?_
    refine lv_iload_n hx hb d_M_scrub_13 rfl (lv_at hl 2 rfl) ?_
    refine lv_iconst (v := 0) hx hb d_M_scrub_14 (by decide) ?_
    refine va_zast hx hb hK hP hD hS 4 3 rfl rfl (by unfold vp_in; decide) d_M_scrub_15 (fun H locs hP hD hS => ?_)
    replace hP : va_P (dC, dI) classes [(m0, .inr (6, oM ga (upc uM 24 y24) cn sn cm us wt oc ou ow)), (ga 9, .inl (gc 9, 96, .inl a9)), (ga 11, .inl (gc 11, 3, .inl a11)), (ga 16, .inl (gc 16, 3, .inl a16)), (ga 19, .inl (gc 19, 3, .inl (upd a19 2 (0 : Int32)))), (ga 23, .inl (gc 23, 3, .inl a23))] H := hP
    replace hD : va_D A [(m0, .inr (6, oM ga (upc uM 24 y24) cn sn cm us wt oc ou ow)), (ga 9, .inl (gc 9, 96, .inl a9)), (ga 11, .inl (gc 11, 3, .inl a11)), (ga 16, .inl (gc 16, 3, .inl a16)), (ga 19, .inl (gc 19, 3, .inl (upd a19 2 (0 : Int32)))), (ga 23, .inl (gc 23, 3, .inl a23))] := hD
    refine lv_aload_n hx hb d_M_scrub_16 rfl (lv_at hl 0 rfl) ?_
    refine va_get (D := (dC, dI)) (ci := 6) (v := .ref (ga 11)) (C := "VotedTripleModel") (T := F_M) (N := 37) hx hb hw in_M hown hK hP 0 rfl rfl 11 (by decide) (hw _ k_735) (fun _ h9 => h9) rfl d_M_scrub_17 ?_
    refine lv_iload_n hx hb d_M_scrub_20 rfl (lv_at hl 2 rfl) ?_
    refine va_iald hx hb hK hP 2 1 rfl rfl (by unfold vp_in; decide) d_M_scrub_21 ?_
    refine W.eq (g2 := F0 m 22 ls [.int (a11 2)]) rfl ?_
    refine lv_if_ne (tgt := 77) hx hb d_M_scrub_22 rfl (fun hc14 => ?_) (fun hc14 => ?_)
    · --  ¬ (a11 2) = 0
      refine lv_iinc (k := 2) (v := 3) hx hb d_M_scrub_77 hl rfl rfl (by decide) rfl (fun ls hl => ?_)
      replace hl : lv_has ls 4 [(2, .int 3), (0, .ref m0), (1, .int w1)] := hl
      refine lv_goto (tgt := 4) hx hb d_M_scrub_80 rfl ?_
      have hSq : SP = s_M_scrub_cut4_3 uM (upc uM 24 y24 24) a9 a16 (upd a19 2 (0 : Int32)) a23 w1 := by rw [hSq0, s_M_scrub_cut4_2]; try (rw [if_neg hc14]); all_goals rfl
      replace hl := lv_sub hl (l' := [(0, .ref m0), (1, .int w1), (2, .int 3)]) [1, 2, 0] rfl
      replace hP := hP.sub (ws' := [(m0, .inr (6, oM ga (upc uM 24 (upc uM 24 y24 24)) cn sn cm us wt oc ou ow)), (ga 9, .inl (gc 9, 96, .inl a9)), (ga 11, .inl (gc 11, 3, .inl a11)), (ga 16, .inl (gc 16, 3, .inl a16)), (ga 19, .inl (gc 19, 3, .inl (upd a19 2 (0 : Int32)))), (ga 23, .inl (gc 23, 3, .inl a23))]) [0, 1, 2, 3, 4, 5] rfl
      replace hD := hD.sub (ws' := [(m0, .inr (6, oM ga (upc uM 24 (upc uM 24 y24 24)) cn sn cm us wt oc ou ow)), (ga 9, .inl (gc 9, 96, .inl a9)), (ga 11, .inl (gc 11, 3, .inl a11)), (ga 16, .inl (gc 16, 3, .inl a16)), (ga 19, .inl (gc 19, 3, .inl (upd a19 2 (0 : Int32)))), (ga 23, .inl (gc 23, 3, .inl a23))]) [0, 1, 2, 3, 4, 5] (by decide) rfl
      exact cut4_3 (upc uM 24 y24 24) a9 a16 (upd a19 2 (0 : Int32)) a23 w1 _ _ _ hSq hl hP hD hS
    · --  (a11 2) = 0
      refine lv_aload_n hx hb d_M_scrub_25 rfl (lv_at hl 0 rfl) ?_
      refine va_get (D := (dC, dI)) (ci := 6) (v := .ref (ga 23)) (C := "VotedTripleModel") (T := F_M) (N := 37) hx hb hw in_M hown hK hP 0 rfl rfl 23 (by decide) (hw _ k_747) (fun _ h9 => h9) rfl d_M_scrub_26 ?_
      refine lv_iload_n hx hb d_M_scrub_29 rfl (lv_at hl 2 rfl) ?_
      refine va_zald hx hb hK hP 5 4 rfl rfl (by unfold vp_in; decide) d_M_scrub_30 ?_
      refine W.eq (g2 := F0 m 31 ls [.int (a23 2)]) rfl ?_
      refine lv_if_eq (tgt := 37) hx hb d_M_scrub_31 rfl (fun hc15 => ?_) (fun hc15 => ?_)
      · --  (a23 2) = 0
        refine lv_aload_n hx hb d_M_scrub_37 rfl (lv_at hl 0 rfl) ?_
        refine lv_iload_n hx hb d_M_scrub_38 rfl (lv_at hl 2 rfl) ?_
        refine lv_aload_n hx hb d_M_scrub_39 rfl (lv_at hl 0 rfl) ?_
        refine va_get (D := (dC, dI)) (ci := 6) (v := .int (nI sn)) (C := "VotedTripleModel") (T := F_M) (N := 37) hx hb hw in_M hown hK hP 0 rfl rfl 6 (by decide) (hw _ k_730) (fun _ h9 => h9) rfl d_M_scrub_40 ?_
        refine lv_bipush (v := 32) hx hb d_M_scrub_43 (by decide) ?_
        refine lv_irem hx hb d_M_scrub_45 (by decide) ?_
        replace hPc := hP.sub (ws' := [(m0, .inr (6, oM ga (upc uM 24 y24) cn sn cm us wt oc ou ow)), (ga 9, .inl (gc 9, 96, .inl a9)), (ga 16, .inl (gc 16, 3, .inl a16))]) [0, 1, 3] rfl
        replace hKc := hK.sub (tys' := [(gc 9, .int), (gc 16, .int)]) [0, 2] rfl
        replace hDc := hD.sub (ws' := [(m0, .inr (6, oM ga (upc uM 24 y24) cn sn cm us wt oc ou ow)), (ga 9, .inl (gc 9, 96, .inl a9)), (ga 16, .inl (gc 16, 3, .inl a16))]) [0, 1, 3] (by decide) rfl
        replace hFc := va_free (wc := [(m0, .inr (6, oM ga (upc uM 24 y24) cn sn cm us wt oc ou ow)), (ga 9, .inl (gc 9, 96, .inl a9)), (ga 16, .inl (gc 16, 3, .inl a16))]) hD hS hA [0, 1, 3] rfl
        refine va_calli (va_runV (C := "VotedTripleModel") (As := [.int 2, .int ((nI sn) - (nI sn) / (32 : Int32) * (32 : Int32))]) (rest := []) ⟨hx, hb, hml, hown, hw⟩ (c_M_read l dC dI m0 ga gc (upc uM 24 y24) cn sn cm us wt oc ou ow a9 a16 2 2 ((nI sn) - (nI sn) / (32 : Int32) * (32 : Int32)) rfl (by decide) (rem_in rfl (by omega)) H.size) (cwV 2 hw (gdV (k_896) (k_893) (k_895) (ks_27) (k_8)) rfl rfl rfl (by decide +kernel) ⟨Nat.le_of_ble_eq_true rfl, Nat.le_of_ble_eq_true rfl⟩) ⟨fun a U g mk q => by obtain ⟨q0, q1, qP, qK, qD⟩ := q; exact ⟨q0, q1, qP, va_K.moved (u := U) (U := U.calling g mk a) (Vm.Alike.refl U.vm) qK, qD⟩, va_recv hK hP rfl (q0 := 0) rfl, fun U hU hW => ⟨rfl, by rw [hU], by rw [hU]; exact hPc, va_K.moved hW.alike hKc, hDc.weaken (fun _ _ _ _ => trivial)⟩⟩ rfl rfl hl.1 rfl (lv_room (Nat.le_of_ble_eq_true rfl)) d_M_scrub_46 ⟨Nat.le_of_ble_eq_true rfl, Nat.le_of_ble_eq_true rfl⟩) hS (fun q _ h => hFc q h) hFc (fun r16 u9 t H1 locs ht hvm hr17 hB hz1 hk1 hS => ?_)
        obtain ⟨a9n18, a16n19, y2420⟩ := u9
        obtain ⟨hP1, hK1, hD1⟩ := hB
        rw [ht] at hP1
        replace hK1 := va_K.moved hvm.symm hK1
        try dsimp only at hr17 hP1 hK1 hD1
        obtain ⟨hr17, hr17E⟩ := hr17
        obtain ⟨hPz, hDz⟩ := va_join (wr := [(ga 11, .inl (gc 11, 3, .inl a11)), (ga 19, .inl (gc 19, 3, .inl (upd a19 2 (0 : Int32)))), (ga 23, .inl (gc 23, 3, .inl a23))]) (w1 := [(m0, .inr (6, oM ga (upc (upc uM 24 y24) 24 y2420) cn sn cm us wt oc ou ow)), (ga 9, .inl (gc 9, 96, .inl a9n18)), (ga 16, .inl (gc 16, 3, .inl a16n19))]) hP hD [0, 1, 3] [2, 4, 5] rfl rfl (by decide) (by decide) hk1 hFc hP1 hD1
        clear hP hD hPc hDc hP1 hD1 hFc
        have hP := hPz
        have hD := hDz
        clear hPz hDz
        replace hK := (hK.sub (tys' := [(gc 11, .int), (gc 19, .boolean), (gc 23, .boolean)]) [1, 3, 4] rfl).app hK1
        clear hK1 hKc
        generalize H1 = H at hP hS ⊢
        replace hP : va_P (dC, dI) classes [(ga 11, .inl (gc 11, 3, .inl a11)), (ga 19, .inl (gc 19, 3, .inl (upd a19 2 (0 : Int32)))), (ga 23, .inl (gc 23, 3, .inl a23)), (m0, .inr (6, oM ga (upc (upc uM 24 y24) 24 y2420) cn sn cm us wt oc ou ow)), (ga 9, .inl (gc 9, 96, .inl a9n18)), (ga 16, .inl (gc 16, 3, .inl a16n19))] H := hP
        replace hD : va_D A [(ga 11, .inl (gc 11, 3, .inl a11)), (ga 19, .inl (gc 19, 3, .inl (upd a19 2 (0 : Int32)))), (ga 23, .inl (gc 23, 3, .inl a23)), (m0, .inr (6, oM ga (upc (upc uM 24 y24) 24 y2420) cn sn cm us wt oc ou ow)), (ga 9, .inl (gc 9, 96, .inl a9n18)), (ga 16, .inl (gc 16, 3, .inl a16n19))] := hD
        replace hK : va_K (dC, dI) classes [(gc 11, .int), (gc 19, .boolean), (gc 23, .boolean), (gc 9, .int), (gc 16, .int)] s := hK
        refine W.widen (k := 0) (n := 0) (Nat.le_of_ble_eq_true rfl) (Nat.le_of_ble_eq_true rfl) ?_
        have pr21 := hr17
        refine lv_istore_n hx hb d_M_scrub_49 rfl hl (by decide) rfl (fun ls hl => ?_)
        replace hl : lv_has ls 4 [(3, .int r16), (0, .ref m0), (1, .int w1), (2, .int 2)] := hl
        refine lv_aload_n hx hb d_M_scrub_50 rfl (lv_at hl 1 rfl) ?_
        refine va_get (D := (dC, dI)) (ci := 6) (v := .ref (ga 19)) (C := "VotedTripleModel") (T := F_M) (N := 37) hx hb hw in_M hown hK hP 3 rfl rfl 19 (by decide) (hw _ k_743) (fun _ h9 => h9) rfl d_M_scrub_51 ?_
        refine lv_iload_n hx hb d_M_scrub_54 rfl (lv_at hl 3 rfl) ?_
        refine lv_aload_n hx hb d_M_scrub_55 rfl (lv_at hl 1 rfl) ?_
        refine va_get (D := (dC, dI)) (ci := 6) (v := .int (upc (upc uM 24 y24) 24 y2420 24)) (C := "VotedTripleModel") (T := F_M) (N := 37) hx hb hw in_M hown hK hP 3 rfl rfl 24 (by decide) (hw _ k_748) (fun _ h9 => h9) rfl d_M_scrub_56 ?_
        refine va_zast hx hb hK hP hD hS 1 1 rfl rfl (by unfold vp_in; decide) d_M_scrub_59 (fun H locs hP hD hS => ?_)
        replace hP : va_P (dC, dI) classes [(ga 11, .inl (gc 11, 3, .inl a11)), (ga 19, .inl (gc 19, 3, .inl (upd (upd a19 2 (0 : Int32)) 2 (vp_nar .boolean (upc (upc uM 24 y24) 24 y2420 24))))), (ga 23, .inl (gc 23, 3, .inl a23)), (m0, .inr (6, oM ga (upc (upc uM 24 y24) 24 y2420) cn sn cm us wt oc ou ow)), (ga 9, .inl (gc 9, 96, .inl a9n18)), (ga 16, .inl (gc 16, 3, .inl a16n19))] H := hP
        replace hD : va_D A [(ga 11, .inl (gc 11, 3, .inl a11)), (ga 19, .inl (gc 19, 3, .inl (upd (upd a19 2 (0 : Int32)) 2 (vp_nar .boolean (upc (upc uM 24 y24) 24 y2420 24))))), (ga 23, .inl (gc 23, 3, .inl a23)), (m0, .inr (6, oM ga (upc (upc uM 24 y24) 24 y2420) cn sn cm us wt oc ou ow)), (ga 9, .inl (gc 9, 96, .inl a9n18)), (ga 16, .inl (gc 16, 3, .inl a16n19))] := hD
        refine lv_iload_n hx hb d_M_scrub_60 rfl (lv_at hl 2 rfl) ?_
        refine lv_if_eq (tgt := 75) hx hb d_M_scrub_61 rfl (fun hc22 => ?_) (fun hc22 => ?_)
        · --  w1 = 0
          refine lv_iconst (v := 0) hx hb d_M_scrub_75 (by decide) ?_
          refine lv_istore_n hx hb d_M_scrub_76 rfl hl (by decide) rfl (fun ls hl => ?_)
          replace hl : lv_has ls 4 [(1, .int 0), (3, .int r16), (0, .ref m0), (2, .int 2)] := hl
          refine lv_iinc (k := 3) (v := 3) hx hb d_M_scrub_77 hl rfl rfl (by decide) rfl (fun ls hl => ?_)
          replace hl : lv_has ls 4 [(2, .int 3), (1, .int 0), (3, .int r16), (0, .ref m0)] := hl
          refine lv_goto (tgt := 4) hx hb d_M_scrub_80 rfl ?_
          have hSq : SP = s_M_scrub_cut4_3 uM (upc (upc uM 24 y24) 24 y2420 24) a9n18 a16n19 (upd (upd a19 2 (0 : Int32)) 2 (vp_nar .boolean (upc (upc uM 24 y24) 24 y2420 24))) a23 0 := by rw [hSq0, s_M_scrub_cut4_2]; try (rw [if_pos hc14]); try (rw [if_pos hc15]); try (rw [← hr17E, bnd_eq]); try dsimp only; try (rw [if_pos hc22]); all_goals rfl
          replace hl := lv_sub hl (l' := [(0, .ref m0), (1, .int 0), (2, .int 3)]) [3, 1, 0] rfl
          replace hP := hP.sub (ws' := [(m0, .inr (6, oM ga (upc uM 24 (upc (upc uM 24 y24) 24 y2420 24)) cn sn cm us wt oc ou ow)), (ga 9, .inl (gc 9, 96, .inl a9n18)), (ga 11, .inl (gc 11, 3, .inl a11)), (ga 16, .inl (gc 16, 3, .inl a16n19)), (ga 19, .inl (gc 19, 3, .inl (upd (upd a19 2 (0 : Int32)) 2 (vp_nar .boolean (upc (upc uM 24 y24) 24 y2420 24))))), (ga 23, .inl (gc 23, 3, .inl a23))]) [3, 4, 0, 5, 1, 2] rfl
          replace hD := hD.sub (ws' := [(m0, .inr (6, oM ga (upc uM 24 (upc (upc uM 24 y24) 24 y2420 24)) cn sn cm us wt oc ou ow)), (ga 9, .inl (gc 9, 96, .inl a9n18)), (ga 11, .inl (gc 11, 3, .inl a11)), (ga 16, .inl (gc 16, 3, .inl a16n19)), (ga 19, .inl (gc 19, 3, .inl (upd (upd a19 2 (0 : Int32)) 2 (vp_nar .boolean (upc (upc uM 24 y24) 24 y2420 24))))), (ga 23, .inl (gc 23, 3, .inl a23))]) [3, 4, 0, 5, 1, 2] (by decide) rfl
          exact cut4_3 (upc (upc uM 24 y24) 24 y2420 24) a9n18 a16n19 (upd (upd a19 2 (0 : Int32)) 2 (vp_nar .boolean (upc (upc uM 24 y24) 24 y2420 24))) a23 0 _ _ _ hSq hl hP hD hS
        · --  ¬ w1 = 0
          refine lv_aload_n hx hb d_M_scrub_64 rfl (lv_at hl 1 rfl) ?_
          refine va_get (D := (dC, dI)) (ci := 6) (v := .int (upc (upc uM 24 y24) 24 y2420 24)) (C := "VotedTripleModel") (T := F_M) (N := 37) hx hb hw in_M hown hK hP 3 rfl rfl 24 (by decide) (hw _ k_748) (fun _ h9 => h9) rfl d_M_scrub_65 ?_
          refine lv_if_eq (tgt := 75) hx hb d_M_scrub_68 rfl (fun hc23 => ?_) (fun hc23 => ?_)
          · --  (upc (upc uM 24 y24) 24 y2420 24) = 0
            refine lv_iconst (v := 0) hx hb d_M_scrub_75 (by decide) ?_
            refine lv_istore_n hx hb d_M_scrub_76 rfl hl (by decide) rfl (fun ls hl => ?_)
            replace hl : lv_has ls 4 [(1, .int 0), (3, .int r16), (0, .ref m0), (2, .int 2)] := hl
            refine lv_iinc (k := 3) (v := 3) hx hb d_M_scrub_77 hl rfl rfl (by decide) rfl (fun ls hl => ?_)
            replace hl : lv_has ls 4 [(2, .int 3), (1, .int 0), (3, .int r16), (0, .ref m0)] := hl
            refine lv_goto (tgt := 4) hx hb d_M_scrub_80 rfl ?_
            have hSq : SP = s_M_scrub_cut4_3 uM (upc (upc uM 24 y24) 24 y2420 24) a9n18 a16n19 (upd (upd a19 2 (0 : Int32)) 2 (vp_nar .boolean (upc (upc uM 24 y24) 24 y2420 24))) a23 0 := by rw [hSq0, s_M_scrub_cut4_2]; try (rw [if_pos hc14]); try (rw [if_pos hc15]); try (rw [← hr17E, bnd_eq]); try dsimp only; try (rw [if_neg hc22]); try (rw [if_pos hc23]); all_goals rfl
            replace hl := lv_sub hl (l' := [(0, .ref m0), (1, .int 0), (2, .int 3)]) [3, 1, 0] rfl
            replace hP := hP.sub (ws' := [(m0, .inr (6, oM ga (upc uM 24 (upc (upc uM 24 y24) 24 y2420 24)) cn sn cm us wt oc ou ow)), (ga 9, .inl (gc 9, 96, .inl a9n18)), (ga 11, .inl (gc 11, 3, .inl a11)), (ga 16, .inl (gc 16, 3, .inl a16n19)), (ga 19, .inl (gc 19, 3, .inl (upd (upd a19 2 (0 : Int32)) 2 (vp_nar .boolean (upc (upc uM 24 y24) 24 y2420 24))))), (ga 23, .inl (gc 23, 3, .inl a23))]) [3, 4, 0, 5, 1, 2] rfl
            replace hD := hD.sub (ws' := [(m0, .inr (6, oM ga (upc uM 24 (upc (upc uM 24 y24) 24 y2420 24)) cn sn cm us wt oc ou ow)), (ga 9, .inl (gc 9, 96, .inl a9n18)), (ga 11, .inl (gc 11, 3, .inl a11)), (ga 16, .inl (gc 16, 3, .inl a16n19)), (ga 19, .inl (gc 19, 3, .inl (upd (upd a19 2 (0 : Int32)) 2 (vp_nar .boolean (upc (upc uM 24 y24) 24 y2420 24))))), (ga 23, .inl (gc 23, 3, .inl a23))]) [3, 4, 0, 5, 1, 2] (by decide) rfl
            exact cut4_3 (upc (upc uM 24 y24) 24 y2420 24) a9n18 a16n19 (upd (upd a19 2 (0 : Int32)) 2 (vp_nar .boolean (upc (upc uM 24 y24) 24 y2420 24))) a23 0 _ _ _ hSq hl hP hD hS
          · --  ¬ (upc (upc uM 24 y24) 24 y2420 24) = 0
            refine lv_iconst (v := 1) hx hb d_M_scrub_71 (by decide) ?_
            refine lv_goto (tgt := 76) hx hb d_M_scrub_72 rfl ?_
            refine lv_istore_n hx hb d_M_scrub_76 rfl hl (by decide) rfl (fun ls hl => ?_)
            replace hl : lv_has ls 4 [(1, .int 1), (3, .int r16), (0, .ref m0), (2, .int 2)] := hl
            refine lv_iinc (k := 3) (v := 3) hx hb d_M_scrub_77 hl rfl rfl (by decide) rfl (fun ls hl => ?_)
            replace hl : lv_has ls 4 [(2, .int 3), (1, .int 1), (3, .int r16), (0, .ref m0)] := hl
            refine lv_goto (tgt := 4) hx hb d_M_scrub_80 rfl ?_
            have hSq : SP = s_M_scrub_cut4_3 uM (upc (upc uM 24 y24) 24 y2420 24) a9n18 a16n19 (upd (upd a19 2 (0 : Int32)) 2 (vp_nar .boolean (upc (upc uM 24 y24) 24 y2420 24))) a23 1 := by rw [hSq0, s_M_scrub_cut4_2]; try (rw [if_pos hc14]); try (rw [if_pos hc15]); try (rw [← hr17E, bnd_eq]); try dsimp only; try (rw [if_neg hc22]); try (rw [if_neg hc23]); all_goals rfl
            replace hl := lv_sub hl (l' := [(0, .ref m0), (1, .int 1), (2, .int 3)]) [3, 1, 0] rfl
            replace hP := hP.sub (ws' := [(m0, .inr (6, oM ga (upc uM 24 (upc (upc uM 24 y24) 24 y2420 24)) cn sn cm us wt oc ou ow)), (ga 9, .inl (gc 9, 96, .inl a9n18)), (ga 11, .inl (gc 11, 3, .inl a11)), (ga 16, .inl (gc 16, 3, .inl a16n19)), (ga 19, .inl (gc 19, 3, .inl (upd (upd a19 2 (0 : Int32)) 2 (vp_nar .boolean (upc (upc uM 24 y24) 24 y2420 24))))), (ga 23, .inl (gc 23, 3, .inl a23))]) [3, 4, 0, 5, 1, 2] rfl
            replace hD := hD.sub (ws' := [(m0, .inr (6, oM ga (upc uM 24 (upc (upc uM 24 y24) 24 y2420 24)) cn sn cm us wt oc ou ow)), (ga 9, .inl (gc 9, 96, .inl a9n18)), (ga 11, .inl (gc 11, 3, .inl a11)), (ga 16, .inl (gc 16, 3, .inl a16n19)), (ga 19, .inl (gc 19, 3, .inl (upd (upd a19 2 (0 : Int32)) 2 (vp_nar .boolean (upc (upc uM 24 y24) 24 y2420 24))))), (ga 23, .inl (gc 23, 3, .inl a23))]) [3, 4, 0, 5, 1, 2] (by decide) rfl
            exact cut4_3 (upc (upc uM 24 y24) 24 y2420 24) a9n18 a16n19 (upd (upd a19 2 (0 : Int32)) 2 (vp_nar .boolean (upc (upc uM 24 y24) 24 y2420 24))) a23 1 _ _ _ hSq hl hP hD hS
      · --  ¬ (a23 2) = 0
        refine lv_goto (tgt := 77) hx hb d_M_scrub_34 rfl ?_
        refine lv_iinc (k := 2) (v := 3) hx hb d_M_scrub_77 hl rfl rfl (by decide) rfl (fun ls hl => ?_)
        replace hl : lv_has ls 4 [(2, .int 3), (0, .ref m0), (1, .int w1)] := hl
        refine lv_goto (tgt := 4) hx hb d_M_scrub_80 rfl ?_
        have hSq : SP = s_M_scrub_cut4_3 uM (upc uM 24 y24 24) a9 a16 (upd a19 2 (0 : Int32)) a23 w1 := by rw [hSq0, s_M_scrub_cut4_2]; try (rw [if_pos hc14]); try (rw [if_neg hc15]); all_goals rfl
        replace hl := lv_sub hl (l' := [(0, .ref m0), (1, .int w1), (2, .int 3)]) [1, 2, 0] rfl
        replace hP := hP.sub (ws' := [(m0, .inr (6, oM ga (upc uM 24 (upc uM 24 y24 24)) cn sn cm us wt oc ou ow)), (ga 9, .inl (gc 9, 96, .inl a9)), (ga 11, .inl (gc 11, 3, .inl a11)), (ga 16, .inl (gc 16, 3, .inl a16)), (ga 19, .inl (gc 19, 3, .inl (upd a19 2 (0 : Int32)))), (ga 23, .inl (gc 23, 3, .inl a23))]) [0, 1, 2, 3, 4, 5] rfl
        replace hD := hD.sub (ws' := [(m0, .inr (6, oM ga (upc uM 24 (upc uM 24 y24 24)) cn sn cm us wt oc ou ow)), (ga 9, .inl (gc 9, 96, .inl a9)), (ga 11, .inl (gc 11, 3, .inl a11)), (ga 16, .inl (gc 16, 3, .inl a16)), (ga 19, .inl (gc 19, 3, .inl (upd a19 2 (0 : Int32)))), (ga 23, .inl (gc 23, 3, .inl a23))]) [0, 1, 2, 3, 4, 5] (by decide) rfl
        exact cut4_3 (upc uM 24 y24 24) a9 a16 (upd a19 2 (0 : Int32)) a23 w1 _ _ _ hSq hl hP hD hS
  have cut4_1 : ∀ (y24 : Int32) (a9 : Nat → Int32) (a16 : Nat → Int32) (a19 : Nat → Int32) (a23 : Nat → Int32) (w1 : Int32) (ls : Array Slot) (H : Heap) (locs : List Loc), SP = s_M_scrub_cut4_1 uM sn a11 y24 a9 a16 a19 a23 w1 →  lv_has ls 4 [(0, .ref m0), (1, .int w1), (2, .int 1)] → va_P (dC, dI) classes [(m0, .inr (6, oM ga (upc uM 24 y24) cn sn cm us wt oc ou ow)), (ga 9, .inl (gc 9, 96, .inl a9)), (ga 11, .inl (gc 11, 3, .inl a11)), (ga 16, .inl (gc 16, 3, .inl a16)), (ga 19, .inl (gc 19, 3, .inl a19)), (ga 23, .inl (gc 23, 3, .inl a23))] H → va_D A [(m0, .inr (6, oM ga (upc uM 24 y24) cn sn cm us wt oc ou ow)), (ga 9, .inl (gc 9, 96, .inl a9)), (ga 11, .inl (gc 11, 3, .inl a11)), (ga 16, .inl (gc 16, 3, .inl a16)), (ga 19, .inl (gc 19, 3, .inl a19)), (ga 23, .inl (gc 23, 3, .inl a23))] → va_S A s.heap H locs → W p l e (headSpec (tbw y_M_scrub b_M_scrub 4 (some .boolean)) ({ frames := 3, cells := 0, slots := 0, locals := 67 })).room s m ([.ref m0] : List Value).toArray below meth c H locs 0 0 (MQ below (va_Qi (fun (r : Int32) (u9 : (Nat → Int32) × (Nat → Int32) × (Nat → Int32) × (Nat → Int32) × Int32) => match u9 with | (a9n, a16n, a19n, a23n, y24) => (True) ∧ (r, a9n, a16n, a19n, a23n, y24) = SP) (fun (u9 : (Nat → Int32) × (Nat → Int32) × (Nat → Int32) × (Nat → Int32) × Int32) t => match u9 with | (a9n, a16n, a19n, a23n, y24) => va_P (dC, dI) classes [(m0, .inr (6, oM ga (upc uM 24 y24) cn sn cm us wt oc ou ow)), (ga 9, .inl (gc 9, 96, .inl a9n)), (ga 11, .inl (gc 11, 3, .inl a11)), (ga 16, .inl (gc 16, 3, .inl a16n)), (ga 19, .inl (gc 19, 3, .inl a19n)), (ga 23, .inl (gc 23, 3, .inl a23n))] t.heap ∧ va_K (dC, dI) classes [(gc 9, .int), (gc 11, .int), (gc 16, .int), (gc 19, .boolean), (gc 23, .boolean)] t ∧ va_D A [(m0, .inr (6, oM ga (upc uM 24 y24) cn sn cm us wt oc ou ow)), (ga 9, .inl (gc 9, 96, .inl a9n)), (ga 11, .inl (gc 11, 3, .inl a11)), (ga 16, .inl (gc 16, 3, .inl a16n)), (ga 19, .inl (gc 19, 3, .inl a19n)), (ga 23, .inl (gc 23, 3, .inl a23n))]) A) ([.ref m0] : List Value).toArray s 0 0 A) (F0 m 4 ls []) := by
    intro y24 a9 a16 a19 a23 w1 ls H locs hSq0 hl hP hD hS
    clear cut91_3 cut91_2 cut91_1 cut91_0 cut4_3
    refine lv_iload_n hx hb d_M_scrub_4 rfl (lv_at hl 2 rfl) ?_
    refine lv_iconst (v := 3) hx hb d_M_scrub_5 (by decide) ?_
    refine lv_icmp_ge (tgt := 83) hx hb d_M_scrub_6 rfl (fun hc24 => by first | exact absurd hc24 (by decide) | exact absurd (by decide) hc24) (fun hc24 => ?_)
    refine lv_aload_n hx hb d_M_scrub_9 rfl (lv_at hl 0 rfl) ?_
    refine va_get (D := (dC, dI)) (ci := 6) (v := .ref (ga 19)) (C := "VotedTripleModel") (T := F_M) (N := 37) hx hb hw in_M hown hK hP 0 rfl rfl 19 (by decide) (hw _ k_743) (fun _ h9 => h9) rfl d_M_scrub_10 ?_
    refine lv_iload_n hx hb d_M_scrub_13 rfl (lv_at hl 2 rfl) ?_
    refine lv_iconst (v := 0) hx hb d_M_scrub_14 (by decide) ?_
    refine va_zast hx hb hK hP hD hS 4 3 rfl rfl (by unfold vp_in; decide) d_M_scrub_15 (fun H locs hP hD hS => ?_)
    replace hP : va_P (dC, dI) classes [(m0, .inr (6, oM ga (upc uM 24 y24) cn sn cm us wt oc ou ow)), (ga 9, .inl (gc 9, 96, .inl a9)), (ga 11, .inl (gc 11, 3, .inl a11)), (ga 16, .inl (gc 16, 3, .inl a16)), (ga 19, .inl (gc 19, 3, .inl (upd a19 1 (0 : Int32)))), (ga 23, .inl (gc 23, 3, .inl a23))] H := hP
    replace hD : va_D A [(m0, .inr (6, oM ga (upc uM 24 y24) cn sn cm us wt oc ou ow)), (ga 9, .inl (gc 9, 96, .inl a9)), (ga 11, .inl (gc 11, 3, .inl a11)), (ga 16, .inl (gc 16, 3, .inl a16)), (ga 19, .inl (gc 19, 3, .inl (upd a19 1 (0 : Int32)))), (ga 23, .inl (gc 23, 3, .inl a23))] := hD
    refine lv_aload_n hx hb d_M_scrub_16 rfl (lv_at hl 0 rfl) ?_
    refine va_get (D := (dC, dI)) (ci := 6) (v := .ref (ga 11)) (C := "VotedTripleModel") (T := F_M) (N := 37) hx hb hw in_M hown hK hP 0 rfl rfl 11 (by decide) (hw _ k_735) (fun _ h9 => h9) rfl d_M_scrub_17 ?_
    refine lv_iload_n hx hb d_M_scrub_20 rfl (lv_at hl 2 rfl) ?_
    refine va_iald hx hb hK hP 2 1 rfl rfl (by unfold vp_in; decide) d_M_scrub_21 ?_
    refine W.eq (g2 := F0 m 22 ls [.int (a11 1)]) rfl ?_
    refine lv_if_ne (tgt := 77) hx hb d_M_scrub_22 rfl (fun hc25 => ?_) (fun hc25 => ?_)
    · --  ¬ (a11 1) = 0
      refine lv_iinc (k := 2) (v := 2) hx hb d_M_scrub_77 hl rfl rfl (by decide) rfl (fun ls hl => ?_)
      replace hl : lv_has ls 4 [(2, .int 2), (0, .ref m0), (1, .int w1)] := hl
      refine lv_goto (tgt := 4) hx hb d_M_scrub_80 rfl ?_
      have hSq : SP = s_M_scrub_cut4_2 uM sn a11 (upc uM 24 y24 24) a9 a16 (upd a19 1 (0 : Int32)) a23 w1 := by rw [hSq0, s_M_scrub_cut4_1]; try (rw [if_neg hc25]); all_goals rfl
      replace hl := lv_sub hl (l' := [(0, .ref m0), (1, .int w1), (2, .int 2)]) [1, 2, 0] rfl
      replace hP := hP.sub (ws' := [(m0, .inr (6, oM ga (upc uM 24 (upc uM 24 y24 24)) cn sn cm us wt oc ou ow)), (ga 9, .inl (gc 9, 96, .inl a9)), (ga 11, .inl (gc 11, 3, .inl a11)), (ga 16, .inl (gc 16, 3, .inl a16)), (ga 19, .inl (gc 19, 3, .inl (upd a19 1 (0 : Int32)))), (ga 23, .inl (gc 23, 3, .inl a23))]) [0, 1, 2, 3, 4, 5] rfl
      replace hD := hD.sub (ws' := [(m0, .inr (6, oM ga (upc uM 24 (upc uM 24 y24 24)) cn sn cm us wt oc ou ow)), (ga 9, .inl (gc 9, 96, .inl a9)), (ga 11, .inl (gc 11, 3, .inl a11)), (ga 16, .inl (gc 16, 3, .inl a16)), (ga 19, .inl (gc 19, 3, .inl (upd a19 1 (0 : Int32)))), (ga 23, .inl (gc 23, 3, .inl a23))]) [0, 1, 2, 3, 4, 5] (by decide) rfl
      exact cut4_2 (upc uM 24 y24 24) a9 a16 (upd a19 1 (0 : Int32)) a23 w1 _ _ _ hSq hl hP hD hS
    · --  (a11 1) = 0
      refine lv_aload_n hx hb d_M_scrub_25 rfl (lv_at hl 0 rfl) ?_
      refine va_get (D := (dC, dI)) (ci := 6) (v := .ref (ga 23)) (C := "VotedTripleModel") (T := F_M) (N := 37) hx hb hw in_M hown hK hP 0 rfl rfl 23 (by decide) (hw _ k_747) (fun _ h9 => h9) rfl d_M_scrub_26 ?_
      refine lv_iload_n hx hb d_M_scrub_29 rfl (lv_at hl 2 rfl) ?_
      refine va_zald hx hb hK hP 5 4 rfl rfl (by unfold vp_in; decide) d_M_scrub_30 ?_
      refine W.eq (g2 := F0 m 31 ls [.int (a23 1)]) rfl ?_
      refine lv_if_eq (tgt := 37) hx hb d_M_scrub_31 rfl (fun hc26 => ?_) (fun hc26 => ?_)
      · --  (a23 1) = 0
        refine lv_aload_n hx hb d_M_scrub_37 rfl (lv_at hl 0 rfl) ?_
        refine lv_iload_n hx hb d_M_scrub_38 rfl (lv_at hl 2 rfl) ?_
        refine lv_aload_n hx hb d_M_scrub_39 rfl (lv_at hl 0 rfl) ?_
        refine va_get (D := (dC, dI)) (ci := 6) (v := .int (nI sn)) (C := "VotedTripleModel") (T := F_M) (N := 37) hx hb hw in_M hown hK hP 0 rfl rfl 6 (by decide) (hw _ k_730) (fun _ h9 => h9) rfl d_M_scrub_40 ?_
        refine lv_bipush (v := 32) hx hb d_M_scrub_43 (by decide) ?_
        refine lv_irem hx hb d_M_scrub_45 (by decide) ?_
        replace hPc := hP.sub (ws' := [(m0, .inr (6, oM ga (upc uM 24 y24) cn sn cm us wt oc ou ow)), (ga 9, .inl (gc 9, 96, .inl a9)), (ga 16, .inl (gc 16, 3, .inl a16))]) [0, 1, 3] rfl
        replace hKc := hK.sub (tys' := [(gc 9, .int), (gc 16, .int)]) [0, 2] rfl
        replace hDc := hD.sub (ws' := [(m0, .inr (6, oM ga (upc uM 24 y24) cn sn cm us wt oc ou ow)), (ga 9, .inl (gc 9, 96, .inl a9)), (ga 16, .inl (gc 16, 3, .inl a16))]) [0, 1, 3] (by decide) rfl
        replace hFc := va_free (wc := [(m0, .inr (6, oM ga (upc uM 24 y24) cn sn cm us wt oc ou ow)), (ga 9, .inl (gc 9, 96, .inl a9)), (ga 16, .inl (gc 16, 3, .inl a16))]) hD hS hA [0, 1, 3] rfl
        refine va_calli (va_runV (C := "VotedTripleModel") (As := [.int 1, .int ((nI sn) - (nI sn) / (32 : Int32) * (32 : Int32))]) (rest := []) ⟨hx, hb, hml, hown, hw⟩ (c_M_read l dC dI m0 ga gc (upc uM 24 y24) cn sn cm us wt oc ou ow a9 a16 1 1 ((nI sn) - (nI sn) / (32 : Int32) * (32 : Int32)) rfl (by decide) (rem_in rfl (by omega)) H.size) (cwV 2 hw (gdV (k_896) (k_893) (k_895) (ks_27) (k_8)) rfl rfl rfl (by decide +kernel) ⟨Nat.le_of_ble_eq_true rfl, Nat.le_of_ble_eq_true rfl⟩) ⟨fun a U g mk q => by obtain ⟨q0, q1, qP, qK, qD⟩ := q; exact ⟨q0, q1, qP, va_K.moved (u := U) (U := U.calling g mk a) (Vm.Alike.refl U.vm) qK, qD⟩, va_recv hK hP rfl (q0 := 0) rfl, fun U hU hW => ⟨rfl, by rw [hU], by rw [hU]; exact hPc, va_K.moved hW.alike hKc, hDc.weaken (fun _ _ _ _ => trivial)⟩⟩ rfl rfl hl.1 rfl (lv_room (Nat.le_of_ble_eq_true rfl)) d_M_scrub_46 ⟨Nat.le_of_ble_eq_true rfl, Nat.le_of_ble_eq_true rfl⟩) hS (fun q _ h => hFc q h) hFc (fun r27 u9 t H1 locs ht hvm hr28 hB hz1 hk1 hS => ?_)
        obtain ⟨a9n29, a16n30, y2431⟩ := u9
        obtain ⟨hP1, hK1, hD1⟩ := hB
        rw [ht] at hP1
        replace hK1 := va_K.moved hvm.symm hK1
        try dsimp only at hr28 hP1 hK1 hD1
        obtain ⟨hr28, hr28E⟩ := hr28
        obtain ⟨hPz, hDz⟩ := va_join (wr := [(ga 11, .inl (gc 11, 3, .inl a11)), (ga 19, .inl (gc 19, 3, .inl (upd a19 1 (0 : Int32)))), (ga 23, .inl (gc 23, 3, .inl a23))]) (w1 := [(m0, .inr (6, oM ga (upc (upc uM 24 y24) 24 y2431) cn sn cm us wt oc ou ow)), (ga 9, .inl (gc 9, 96, .inl a9n29)), (ga 16, .inl (gc 16, 3, .inl a16n30))]) hP hD [0, 1, 3] [2, 4, 5] rfl rfl (by decide) (by decide) hk1 hFc hP1 hD1
        clear hP hD hPc hDc hP1 hD1 hFc
        have hP := hPz
        have hD := hDz
        clear hPz hDz
        replace hK := (hK.sub (tys' := [(gc 11, .int), (gc 19, .boolean), (gc 23, .boolean)]) [1, 3, 4] rfl).app hK1
        clear hK1 hKc
        generalize H1 = H at hP hS ⊢
        replace hP : va_P (dC, dI) classes [(ga 11, .inl (gc 11, 3, .inl a11)), (ga 19, .inl (gc 19, 3, .inl (upd a19 1 (0 : Int32)))), (ga 23, .inl (gc 23, 3, .inl a23)), (m0, .inr (6, oM ga (upc (upc uM 24 y24) 24 y2431) cn sn cm us wt oc ou ow)), (ga 9, .inl (gc 9, 96, .inl a9n29)), (ga 16, .inl (gc 16, 3, .inl a16n30))] H := hP
        replace hD : va_D A [(ga 11, .inl (gc 11, 3, .inl a11)), (ga 19, .inl (gc 19, 3, .inl (upd a19 1 (0 : Int32)))), (ga 23, .inl (gc 23, 3, .inl a23)), (m0, .inr (6, oM ga (upc (upc uM 24 y24) 24 y2431) cn sn cm us wt oc ou ow)), (ga 9, .inl (gc 9, 96, .inl a9n29)), (ga 16, .inl (gc 16, 3, .inl a16n30))] := hD
        replace hK : va_K (dC, dI) classes [(gc 11, .int), (gc 19, .boolean), (gc 23, .boolean), (gc 9, .int), (gc 16, .int)] s := hK
        refine W.widen (k := 0) (n := 0) (Nat.le_of_ble_eq_true rfl) (Nat.le_of_ble_eq_true rfl) ?_
        have pr32 := hr28
        refine lv_istore_n hx hb d_M_scrub_49 rfl hl (by decide) rfl (fun ls hl => ?_)
        replace hl : lv_has ls 4 [(3, .int r27), (0, .ref m0), (1, .int w1), (2, .int 1)] := hl
        refine lv_aload_n hx hb d_M_scrub_50 rfl (lv_at hl 1 rfl) ?_
        refine va_get (D := (dC, dI)) (ci := 6) (v := .ref (ga 19)) (C := "VotedTripleModel") (T := F_M) (N := 37) hx hb hw in_M hown hK hP 3 rfl rfl 19 (by decide) (hw _ k_743) (fun _ h9 => h9) rfl d_M_scrub_51 ?_
        refine lv_iload_n hx hb d_M_scrub_54 rfl (lv_at hl 3 rfl) ?_
        refine lv_aload_n hx hb d_M_scrub_55 rfl (lv_at hl 1 rfl) ?_
        refine va_get (D := (dC, dI)) (ci := 6) (v := .int (upc (upc uM 24 y24) 24 y2431 24)) (C := "VotedTripleModel") (T := F_M) (N := 37) hx hb hw in_M hown hK hP 3 rfl rfl 24 (by decide) (hw _ k_748) (fun _ h9 => h9) rfl d_M_scrub_56 ?_
        refine va_zast hx hb hK hP hD hS 1 1 rfl rfl (by unfold vp_in; decide) d_M_scrub_59 (fun H locs hP hD hS => ?_)
        replace hP : va_P (dC, dI) classes [(ga 11, .inl (gc 11, 3, .inl a11)), (ga 19, .inl (gc 19, 3, .inl (upd (upd a19 1 (0 : Int32)) 1 (vp_nar .boolean (upc (upc uM 24 y24) 24 y2431 24))))), (ga 23, .inl (gc 23, 3, .inl a23)), (m0, .inr (6, oM ga (upc (upc uM 24 y24) 24 y2431) cn sn cm us wt oc ou ow)), (ga 9, .inl (gc 9, 96, .inl a9n29)), (ga 16, .inl (gc 16, 3, .inl a16n30))] H := hP
        replace hD : va_D A [(ga 11, .inl (gc 11, 3, .inl a11)), (ga 19, .inl (gc 19, 3, .inl (upd (upd a19 1 (0 : Int32)) 1 (vp_nar .boolean (upc (upc uM 24 y24) 24 y2431 24))))), (ga 23, .inl (gc 23, 3, .inl a23)), (m0, .inr (6, oM ga (upc (upc uM 24 y24) 24 y2431) cn sn cm us wt oc ou ow)), (ga 9, .inl (gc 9, 96, .inl a9n29)), (ga 16, .inl (gc 16, 3, .inl a16n30))] := hD
        refine lv_iload_n hx hb d_M_scrub_60 rfl (lv_at hl 2 rfl) ?_
        refine lv_if_eq (tgt := 75) hx hb d_M_scrub_61 rfl (fun hc33 => ?_) (fun hc33 => ?_)
        · --  w1 = 0
          refine lv_iconst (v := 0) hx hb d_M_scrub_75 (by decide) ?_
          refine lv_istore_n hx hb d_M_scrub_76 rfl hl (by decide) rfl (fun ls hl => ?_)
          replace hl : lv_has ls 4 [(1, .int 0), (3, .int r27), (0, .ref m0), (2, .int 1)] := hl
          refine lv_iinc (k := 3) (v := 2) hx hb d_M_scrub_77 hl rfl rfl (by decide) rfl (fun ls hl => ?_)
          replace hl : lv_has ls 4 [(2, .int 2), (1, .int 0), (3, .int r27), (0, .ref m0)] := hl
          refine lv_goto (tgt := 4) hx hb d_M_scrub_80 rfl ?_
          have hSq : SP = s_M_scrub_cut4_2 uM sn a11 (upc (upc uM 24 y24) 24 y2431 24) a9n29 a16n30 (upd (upd a19 1 (0 : Int32)) 1 (vp_nar .boolean (upc (upc uM 24 y24) 24 y2431 24))) a23 0 := by rw [hSq0, s_M_scrub_cut4_1]; try (rw [if_pos hc25]); try (rw [if_pos hc26]); try (rw [← hr28E, bnd_eq]); try dsimp only; try (rw [if_pos hc33]); all_goals rfl
          replace hl := lv_sub hl (l' := [(0, .ref m0), (1, .int 0), (2, .int 2)]) [3, 1, 0] rfl
          replace hP := hP.sub (ws' := [(m0, .inr (6, oM ga (upc uM 24 (upc (upc uM 24 y24) 24 y2431 24)) cn sn cm us wt oc ou ow)), (ga 9, .inl (gc 9, 96, .inl a9n29)), (ga 11, .inl (gc 11, 3, .inl a11)), (ga 16, .inl (gc 16, 3, .inl a16n30)), (ga 19, .inl (gc 19, 3, .inl (upd (upd a19 1 (0 : Int32)) 1 (vp_nar .boolean (upc (upc uM 24 y24) 24 y2431 24))))), (ga 23, .inl (gc 23, 3, .inl a23))]) [3, 4, 0, 5, 1, 2] rfl
          replace hD := hD.sub (ws' := [(m0, .inr (6, oM ga (upc uM 24 (upc (upc uM 24 y24) 24 y2431 24)) cn sn cm us wt oc ou ow)), (ga 9, .inl (gc 9, 96, .inl a9n29)), (ga 11, .inl (gc 11, 3, .inl a11)), (ga 16, .inl (gc 16, 3, .inl a16n30)), (ga 19, .inl (gc 19, 3, .inl (upd (upd a19 1 (0 : Int32)) 1 (vp_nar .boolean (upc (upc uM 24 y24) 24 y2431 24))))), (ga 23, .inl (gc 23, 3, .inl a23))]) [3, 4, 0, 5, 1, 2] (by decide) rfl
          exact cut4_2 (upc (upc uM 24 y24) 24 y2431 24) a9n29 a16n30 (upd (upd a19 1 (0 : Int32)) 1 (vp_nar .boolean (upc (upc uM 24 y24) 24 y2431 24))) a23 0 _ _ _ hSq hl hP hD hS
        · --  ¬ w1 = 0
          refine lv_aload_n hx hb d_M_scrub_64 rfl (lv_at hl 1 rfl) ?_
          refine va_get (D := (dC, dI)) (ci := 6) (v := .int (upc (upc uM 24 y24) 24 y2431 24)) (C := "VotedTripleModel") (T := F_M) (N := 37) hx hb hw in_M hown hK hP 3 rfl rfl 24 (by decide) (hw _ k_748) (fun _ h9 => h9) rfl d_M_scrub_65 ?_
          refine lv_if_eq (tgt := 75) hx hb d_M_scrub_68 rfl (fun hc34 => ?_) (fun hc34 => ?_)
          · --  (upc (upc uM 24 y24) 24 y2431 24) = 0
            refine lv_iconst (v := 0) hx hb d_M_scrub_75 (by decide) ?_
            refine lv_istore_n hx hb d_M_scrub_76 rfl hl (by decide) rfl (fun ls hl => ?_)
            replace hl : lv_has ls 4 [(1, .int 0), (3, .int r27), (0, .ref m0), (2, .int 1)] := hl
            refine lv_iinc (k := 3) (v := 2) hx hb d_M_scrub_77 hl rfl rfl (by decide) rfl (fun ls hl => ?_)
            replace hl : lv_has ls 4 [(2, .int 2), (1, .int 0), (3, .int r27), (0, .ref m0)] := hl
            refine lv_goto (tgt := 4) hx hb d_M_scrub_80 rfl ?_
            have hSq : SP = s_M_scrub_cut4_2 uM sn a11 (upc (upc uM 24 y24) 24 y2431 24) a9n29 a16n30 (upd (upd a19 1 (0 : Int32)) 1 (vp_nar .boolean (upc (upc uM 24 y24) 24 y2431 24))) a23 0 := by rw [hSq0, s_M_scrub_cut4_1]; try (rw [if_pos hc25]); try (rw [if_pos hc26]); try (rw [← hr28E, bnd_eq]); try dsimp only; try (rw [if_neg hc33]); try (rw [if_pos hc34]); all_goals rfl
            replace hl := lv_sub hl (l' := [(0, .ref m0), (1, .int 0), (2, .int 2)]) [3, 1, 0] rfl
            replace hP := hP.sub (ws' := [(m0, .inr (6, oM ga (upc uM 24 (upc (upc uM 24 y24) 24 y2431 24)) cn sn cm us wt oc ou ow)), (ga 9, .inl (gc 9, 96, .inl a9n29)), (ga 11, .inl (gc 11, 3, .inl a11)), (ga 16, .inl (gc 16, 3, .inl a16n30)), (ga 19, .inl (gc 19, 3, .inl (upd (upd a19 1 (0 : Int32)) 1 (vp_nar .boolean (upc (upc uM 24 y24) 24 y2431 24))))), (ga 23, .inl (gc 23, 3, .inl a23))]) [3, 4, 0, 5, 1, 2] rfl
            replace hD := hD.sub (ws' := [(m0, .inr (6, oM ga (upc uM 24 (upc (upc uM 24 y24) 24 y2431 24)) cn sn cm us wt oc ou ow)), (ga 9, .inl (gc 9, 96, .inl a9n29)), (ga 11, .inl (gc 11, 3, .inl a11)), (ga 16, .inl (gc 16, 3, .inl a16n30)), (ga 19, .inl (gc 19, 3, .inl (upd (upd a19 1 (0 : Int32)) 1 (vp_nar .boolean (upc (upc uM 24 y24) 24 y2431 24))))), (ga 23, .inl (gc 23, 3, .inl a23))]) [3, 4, 0, 5, 1, 2] (by decide) rfl
            exact cut4_2 (upc (upc uM 24 y24) 24 y2431 24) a9n29 a16n30 (upd (upd a19 1 (0 : Int32)) 1 (vp_nar .boolean (upc (upc uM 24 y24) 24 y2431 24))) a23 0 _ _ _ hSq hl hP hD hS
          · --  ¬ (upc (upc uM 24 y24) 24 y2431 24) = 0
            refine lv_iconst (v := 1) hx hb d_M_scrub_71 (by decide) ?_
            refine lv_goto (tgt := 76) hx hb d_M_scrub_72 rfl ?_
            refine lv_istore_n hx hb d_M_scrub_76 rfl hl (by decide) rfl (fun ls hl => ?_)
            replace hl : lv_has ls 4 [(1, .int 1), (3, .int r27), (0, .ref m0), (2, .int 1)] := hl
            refine lv_iinc (k := 3) (v := 2) hx hb d_M_scrub_77 hl rfl rfl (by decide) rfl (fun ls hl => ?_)
            replace hl : lv_has ls 4 [(2, .int 2), (1, .int 1), (3, .int r27), (0, .ref m0)] := hl
            refine lv_goto (tgt := 4) hx hb d_M_scrub_80 rfl ?_
            have hSq : SP = s_M_scrub_cut4_2 uM sn a11 (upc (upc uM 24 y24) 24 y2431 24) a9n29 a16n30 (upd (upd a19 1 (0 : Int32)) 1 (vp_nar .boolean (upc (upc uM 24 y24) 24 y2431 24))) a23 1 := by rw [hSq0, s_M_scrub_cut4_1]; try (rw [if_pos hc25]); try (rw [if_pos hc26]); try (rw [← hr28E, bnd_eq]); try dsimp only; try (rw [if_neg hc33]); try (rw [if_neg hc34]); all_goals rfl
            replace hl := lv_sub hl (l' := [(0, .ref m0), (1, .int 1), (2, .int 2)]) [3, 1, 0] rfl
            replace hP := hP.sub (ws' := [(m0, .inr (6, oM ga (upc uM 24 (upc (upc uM 24 y24) 24 y2431 24)) cn sn cm us wt oc ou ow)), (ga 9, .inl (gc 9, 96, .inl a9n29)), (ga 11, .inl (gc 11, 3, .inl a11)), (ga 16, .inl (gc 16, 3, .inl a16n30)), (ga 19, .inl (gc 19, 3, .inl (upd (upd a19 1 (0 : Int32)) 1 (vp_nar .boolean (upc (upc uM 24 y24) 24 y2431 24))))), (ga 23, .inl (gc 23, 3, .inl a23))]) [3, 4, 0, 5, 1, 2] rfl
            replace hD := hD.sub (ws' := [(m0, .inr (6, oM ga (upc uM 24 (upc (upc uM 24 y24) 24 y2431 24)) cn sn cm us wt oc ou ow)), (ga 9, .inl (gc 9, 96, .inl a9n29)), (ga 11, .inl (gc 11, 3, .inl a11)), (ga 16, .inl (gc 16, 3, .inl a16n30)), (ga 19, .inl (gc 19, 3, .inl (upd (upd a19 1 (0 : Int32)) 1 (vp_nar .boolean (upc (upc uM 24 y24) 24 y2431 24))))), (ga 23, .inl (gc 23, 3, .inl a23))]) [3, 4, 0, 5, 1, 2] (by decide) rfl
            exact cut4_2 (upc (upc uM 24 y24) 24 y2431 24) a9n29 a16n30 (upd (upd a19 1 (0 : Int32)) 1 (vp_nar .boolean (upc (upc uM 24 y24) 24 y2431 24))) a23 1 _ _ _ hSq hl hP hD hS
      · --  ¬ (a23 1) = 0
        refine lv_goto (tgt := 77) hx hb d_M_scrub_34 rfl ?_
        refine lv_iinc (k := 2) (v := 2) hx hb d_M_scrub_77 hl rfl rfl (by decide) rfl (fun ls hl => ?_)
        replace hl : lv_has ls 4 [(2, .int 2), (0, .ref m0), (1, .int w1)] := hl
        refine lv_goto (tgt := 4) hx hb d_M_scrub_80 rfl ?_
        have hSq : SP = s_M_scrub_cut4_2 uM sn a11 (upc uM 24 y24 24) a9 a16 (upd a19 1 (0 : Int32)) a23 w1 := by rw [hSq0, s_M_scrub_cut4_1]; try (rw [if_pos hc25]); try (rw [if_neg hc26]); all_goals rfl
        replace hl := lv_sub hl (l' := [(0, .ref m0), (1, .int w1), (2, .int 2)]) [1, 2, 0] rfl
        replace hP := hP.sub (ws' := [(m0, .inr (6, oM ga (upc uM 24 (upc uM 24 y24 24)) cn sn cm us wt oc ou ow)), (ga 9, .inl (gc 9, 96, .inl a9)), (ga 11, .inl (gc 11, 3, .inl a11)), (ga 16, .inl (gc 16, 3, .inl a16)), (ga 19, .inl (gc 19, 3, .inl (upd a19 1 (0 : Int32)))), (ga 23, .inl (gc 23, 3, .inl a23))]) [0, 1, 2, 3, 4, 5] rfl
        replace hD := hD.sub (ws' := [(m0, .inr (6, oM ga (upc uM 24 (upc uM 24 y24 24)) cn sn cm us wt oc ou ow)), (ga 9, .inl (gc 9, 96, .inl a9)), (ga 11, .inl (gc 11, 3, .inl a11)), (ga 16, .inl (gc 16, 3, .inl a16)), (ga 19, .inl (gc 19, 3, .inl (upd a19 1 (0 : Int32)))), (ga 23, .inl (gc 23, 3, .inl a23))]) [0, 1, 2, 3, 4, 5] (by decide) rfl
        exact cut4_2 (upc uM 24 y24 24) a9 a16 (upd a19 1 (0 : Int32)) a23 w1 _ _ _ hSq hl hP hD hS
  clear cut91_3 cut91_2 cut91_1 cut91_0 cut4_3 cut4_2
  refine lv_iconst (v := 1) hx hb d_M_scrub_0 (by decide) ?_
  refine lv_istore_n hx hb d_M_scrub_1 rfl hl (by decide) rfl (fun ls hl => ?_)
  replace hl : lv_has ls 4 [(1, .int 1), (0, .ref m0)] := hl
  refine lv_iconst (v := 0) hx hb d_M_scrub_2 (by decide) ?_
  refine lv_istore_n hx hb d_M_scrub_3 rfl hl (by decide) rfl (fun ls hl => ?_)
  replace hl : lv_has ls 4 [(2, .int 0), (1, .int 1), (0, .ref m0)] := hl
  refine lv_iload_n hx hb d_M_scrub_4 rfl (lv_at hl 0 rfl) ?_
  refine lv_iconst (v := 3) hx hb d_M_scrub_5 (by decide) ?_
  refine lv_icmp_ge (tgt := 83) hx hb d_M_scrub_6 rfl (fun hc35 => by first | exact absurd hc35 (by decide) | exact absurd (by decide) hc35) (fun hc35 => ?_)
  refine lv_aload_n hx hb d_M_scrub_9 rfl (lv_at hl 2 rfl) ?_
  refine va_get (D := (dC, dI)) (ci := 6) (v := .ref (ga 19)) (C := "VotedTripleModel") (T := F_M) (N := 37) hx hb hw in_M hown hK hP 0 rfl rfl 19 (by decide) (hw _ k_743) (fun _ h9 => h9) rfl d_M_scrub_10 ?_
  refine lv_iload_n hx hb d_M_scrub_13 rfl (lv_at hl 0 rfl) ?_
  refine lv_iconst (v := 0) hx hb d_M_scrub_14 (by decide) ?_
  refine va_zast hx hb hK hP hD hS 4 3 rfl rfl (by unfold vp_in; decide) d_M_scrub_15 (fun H locs hP hD hS => ?_)
  replace hP : va_P (dC, dI) classes [(m0, .inr (6, oM ga uM cn sn cm us wt oc ou ow)), (ga 9, .inl (gc 9, 96, .inl a9)), (ga 11, .inl (gc 11, 3, .inl a11)), (ga 16, .inl (gc 16, 3, .inl a16)), (ga 19, .inl (gc 19, 3, .inl (upd a19 0 (0 : Int32)))), (ga 23, .inl (gc 23, 3, .inl a23))] H := hP
  replace hD : va_D A [(m0, .inr (6, oM ga uM cn sn cm us wt oc ou ow)), (ga 9, .inl (gc 9, 96, .inl a9)), (ga 11, .inl (gc 11, 3, .inl a11)), (ga 16, .inl (gc 16, 3, .inl a16)), (ga 19, .inl (gc 19, 3, .inl (upd a19 0 (0 : Int32)))), (ga 23, .inl (gc 23, 3, .inl a23))] := hD
  refine lv_aload_n hx hb d_M_scrub_16 rfl (lv_at hl 2 rfl) ?_
  refine va_get (D := (dC, dI)) (ci := 6) (v := .ref (ga 11)) (C := "VotedTripleModel") (T := F_M) (N := 37) hx hb hw in_M hown hK hP 0 rfl rfl 11 (by decide) (hw _ k_735) (fun _ h9 => h9) rfl d_M_scrub_17 ?_
  refine lv_iload_n hx hb d_M_scrub_20 rfl (lv_at hl 0 rfl) ?_
  refine va_iald hx hb hK hP 2 1 rfl rfl (by unfold vp_in; decide) d_M_scrub_21 ?_
  refine W.eq (g2 := F0 m 22 ls [.int (a11 0)]) rfl ?_
  refine lv_if_ne (tgt := 77) hx hb d_M_scrub_22 rfl (fun hc36 => ?_) (fun hc36 => ?_)
  · --  ¬ (a11 0) = 0
    refine lv_iinc (k := 0) (v := 1) hx hb d_M_scrub_77 hl rfl rfl (by decide) rfl (fun ls hl => ?_)
    replace hl : lv_has ls 4 [(2, .int 1), (1, .int 1), (0, .ref m0)] := hl
    refine lv_goto (tgt := 4) hx hb d_M_scrub_80 rfl ?_
    have hSq : SP = s_M_scrub_cut4_1 uM sn a11 (uM 24) a9 a16 (upd a19 0 (0 : Int32)) a23 1 := by rw [← hSP, s_M_scrub]; try (rw [if_neg hc36]); all_goals rfl
    replace hl := lv_sub hl (l' := [(0, .ref m0), (1, .int 1), (2, .int 1)]) [2, 1, 0] rfl
    replace hP := hP.sub (ws' := [(m0, .inr (6, oM ga (upc uM 24 (uM 24)) cn sn cm us wt oc ou ow)), (ga 9, .inl (gc 9, 96, .inl a9)), (ga 11, .inl (gc 11, 3, .inl a11)), (ga 16, .inl (gc 16, 3, .inl a16)), (ga 19, .inl (gc 19, 3, .inl (upd a19 0 (0 : Int32)))), (ga 23, .inl (gc 23, 3, .inl a23))]) [0, 1, 2, 3, 4, 5] rfl
    replace hD := hD.sub (ws' := [(m0, .inr (6, oM ga (upc uM 24 (uM 24)) cn sn cm us wt oc ou ow)), (ga 9, .inl (gc 9, 96, .inl a9)), (ga 11, .inl (gc 11, 3, .inl a11)), (ga 16, .inl (gc 16, 3, .inl a16)), (ga 19, .inl (gc 19, 3, .inl (upd a19 0 (0 : Int32)))), (ga 23, .inl (gc 23, 3, .inl a23))]) [0, 1, 2, 3, 4, 5] (by decide) rfl
    exact cut4_1 (uM 24) a9 a16 (upd a19 0 (0 : Int32)) a23 1 _ _ _ hSq hl hP hD hS
  · --  (a11 0) = 0
    refine lv_aload_n hx hb d_M_scrub_25 rfl (lv_at hl 2 rfl) ?_
    refine va_get (D := (dC, dI)) (ci := 6) (v := .ref (ga 23)) (C := "VotedTripleModel") (T := F_M) (N := 37) hx hb hw in_M hown hK hP 0 rfl rfl 23 (by decide) (hw _ k_747) (fun _ h9 => h9) rfl d_M_scrub_26 ?_
    refine lv_iload_n hx hb d_M_scrub_29 rfl (lv_at hl 0 rfl) ?_
    refine va_zald hx hb hK hP 5 4 rfl rfl (by unfold vp_in; decide) d_M_scrub_30 ?_
    refine W.eq (g2 := F0 m 31 ls [.int (a23 0)]) rfl ?_
    refine lv_if_eq (tgt := 37) hx hb d_M_scrub_31 rfl (fun hc37 => ?_) (fun hc37 => ?_)
    · --  (a23 0) = 0
      refine lv_aload_n hx hb d_M_scrub_37 rfl (lv_at hl 2 rfl) ?_
      refine lv_iload_n hx hb d_M_scrub_38 rfl (lv_at hl 0 rfl) ?_
      refine lv_aload_n hx hb d_M_scrub_39 rfl (lv_at hl 2 rfl) ?_
      refine va_get (D := (dC, dI)) (ci := 6) (v := .int (nI sn)) (C := "VotedTripleModel") (T := F_M) (N := 37) hx hb hw in_M hown hK hP 0 rfl rfl 6 (by decide) (hw _ k_730) (fun _ h9 => h9) rfl d_M_scrub_40 ?_
      refine lv_bipush (v := 32) hx hb d_M_scrub_43 (by decide) ?_
      refine lv_irem hx hb d_M_scrub_45 (by decide) ?_
      replace hPc := hP.sub (ws' := [(m0, .inr (6, oM ga uM cn sn cm us wt oc ou ow)), (ga 9, .inl (gc 9, 96, .inl a9)), (ga 16, .inl (gc 16, 3, .inl a16))]) [0, 1, 3] rfl
      replace hKc := hK.sub (tys' := [(gc 9, .int), (gc 16, .int)]) [0, 2] rfl
      replace hDc := hD.sub (ws' := [(m0, .inr (6, oM ga uM cn sn cm us wt oc ou ow)), (ga 9, .inl (gc 9, 96, .inl a9)), (ga 16, .inl (gc 16, 3, .inl a16))]) [0, 1, 3] (by decide) rfl
      replace hFc := va_free (wc := [(m0, .inr (6, oM ga uM cn sn cm us wt oc ou ow)), (ga 9, .inl (gc 9, 96, .inl a9)), (ga 16, .inl (gc 16, 3, .inl a16))]) hD hS hA [0, 1, 3] rfl
      refine va_calli (va_runV (C := "VotedTripleModel") (As := [.int 0, .int ((nI sn) - (nI sn) / (32 : Int32) * (32 : Int32))]) (rest := []) ⟨hx, hb, hml, hown, hw⟩ (c_M_read l dC dI m0 ga gc uM cn sn cm us wt oc ou ow a9 a16 0 0 ((nI sn) - (nI sn) / (32 : Int32) * (32 : Int32)) rfl (by decide) (rem_in rfl (by omega)) H.size) (cwV 2 hw (gdV (k_896) (k_893) (k_895) (ks_27) (k_8)) rfl rfl rfl (by decide +kernel) ⟨Nat.le_of_ble_eq_true rfl, Nat.le_of_ble_eq_true rfl⟩) ⟨fun a U g mk q => by obtain ⟨q0, q1, qP, qK, qD⟩ := q; exact ⟨q0, q1, qP, va_K.moved (u := U) (U := U.calling g mk a) (Vm.Alike.refl U.vm) qK, qD⟩, va_recv hK hP rfl (q0 := 0) rfl, fun U hU hW => ⟨rfl, by rw [hU], by rw [hU]; exact hPc, va_K.moved hW.alike hKc, hDc.weaken (fun _ _ _ _ => trivial)⟩⟩ rfl rfl hl.1 rfl (lv_room (Nat.le_of_ble_eq_true rfl)) d_M_scrub_46 ⟨Nat.le_of_ble_eq_true rfl, Nat.le_of_ble_eq_true rfl⟩) hS (fun q _ h => hFc q h) hFc (fun r38 u9 t H1 locs ht hvm hr39 hB hz1 hk1 hS => ?_)
      obtain ⟨a9n40, a16n41, y2442⟩ := u9
      obtain ⟨hP1, hK1, hD1⟩ := hB
      rw [ht] at hP1
      replace hK1 := va_K.moved hvm.symm hK1
      try dsimp only at hr39 hP1 hK1 hD1
      obtain ⟨hr39, hr39E⟩ := hr39
      obtain ⟨hPz, hDz⟩ := va_join (wr := [(ga 11, .inl (gc 11, 3, .inl a11)), (ga 19, .inl (gc 19, 3, .inl (upd a19 0 (0 : Int32)))), (ga 23, .inl (gc 23, 3, .inl a23))]) (w1 := [(m0, .inr (6, oM ga (upc uM 24 y2442) cn sn cm us wt oc ou ow)), (ga 9, .inl (gc 9, 96, .inl a9n40)), (ga 16, .inl (gc 16, 3, .inl a16n41))]) hP hD [0, 1, 3] [2, 4, 5] rfl rfl (by decide) (by decide) hk1 hFc hP1 hD1
      clear hP hD hPc hDc hP1 hD1 hFc
      have hP := hPz
      have hD := hDz
      clear hPz hDz
      replace hK := (hK.sub (tys' := [(gc 11, .int), (gc 19, .boolean), (gc 23, .boolean)]) [1, 3, 4] rfl).app hK1
      clear hK1 hKc
      generalize H1 = H at hP hS ⊢
      replace hP : va_P (dC, dI) classes [(ga 11, .inl (gc 11, 3, .inl a11)), (ga 19, .inl (gc 19, 3, .inl (upd a19 0 (0 : Int32)))), (ga 23, .inl (gc 23, 3, .inl a23)), (m0, .inr (6, oM ga (upc uM 24 y2442) cn sn cm us wt oc ou ow)), (ga 9, .inl (gc 9, 96, .inl a9n40)), (ga 16, .inl (gc 16, 3, .inl a16n41))] H := hP
      replace hD : va_D A [(ga 11, .inl (gc 11, 3, .inl a11)), (ga 19, .inl (gc 19, 3, .inl (upd a19 0 (0 : Int32)))), (ga 23, .inl (gc 23, 3, .inl a23)), (m0, .inr (6, oM ga (upc uM 24 y2442) cn sn cm us wt oc ou ow)), (ga 9, .inl (gc 9, 96, .inl a9n40)), (ga 16, .inl (gc 16, 3, .inl a16n41))] := hD
      replace hK : va_K (dC, dI) classes [(gc 11, .int), (gc 19, .boolean), (gc 23, .boolean), (gc 9, .int), (gc 16, .int)] s := hK
      refine W.widen (k := 0) (n := 0) (Nat.le_of_ble_eq_true rfl) (Nat.le_of_ble_eq_true rfl) ?_
      have pr43 := hr39
      refine lv_istore_n hx hb d_M_scrub_49 rfl hl (by decide) rfl (fun ls hl => ?_)
      replace hl : lv_has ls 4 [(3, .int r38), (2, .int 0), (1, .int 1), (0, .ref m0)] := hl
      refine lv_aload_n hx hb d_M_scrub_50 rfl (lv_at hl 3 rfl) ?_
      refine va_get (D := (dC, dI)) (ci := 6) (v := .ref (ga 19)) (C := "VotedTripleModel") (T := F_M) (N := 37) hx hb hw in_M hown hK hP 3 rfl rfl 19 (by decide) (hw _ k_743) (fun _ h9 => h9) rfl d_M_scrub_51 ?_
      refine lv_iload_n hx hb d_M_scrub_54 rfl (lv_at hl 1 rfl) ?_
      refine lv_aload_n hx hb d_M_scrub_55 rfl (lv_at hl 3 rfl) ?_
      refine va_get (D := (dC, dI)) (ci := 6) (v := .int (upc uM 24 y2442 24)) (C := "VotedTripleModel") (T := F_M) (N := 37) hx hb hw in_M hown hK hP 3 rfl rfl 24 (by decide) (hw _ k_748) (fun _ h9 => h9) rfl d_M_scrub_56 ?_
      refine va_zast hx hb hK hP hD hS 1 1 rfl rfl (by unfold vp_in; decide) d_M_scrub_59 (fun H locs hP hD hS => ?_)
      replace hP : va_P (dC, dI) classes [(ga 11, .inl (gc 11, 3, .inl a11)), (ga 19, .inl (gc 19, 3, .inl (upd (upd a19 0 (0 : Int32)) 0 (vp_nar .boolean (upc uM 24 y2442 24))))), (ga 23, .inl (gc 23, 3, .inl a23)), (m0, .inr (6, oM ga (upc uM 24 y2442) cn sn cm us wt oc ou ow)), (ga 9, .inl (gc 9, 96, .inl a9n40)), (ga 16, .inl (gc 16, 3, .inl a16n41))] H := hP
      replace hD : va_D A [(ga 11, .inl (gc 11, 3, .inl a11)), (ga 19, .inl (gc 19, 3, .inl (upd (upd a19 0 (0 : Int32)) 0 (vp_nar .boolean (upc uM 24 y2442 24))))), (ga 23, .inl (gc 23, 3, .inl a23)), (m0, .inr (6, oM ga (upc uM 24 y2442) cn sn cm us wt oc ou ow)), (ga 9, .inl (gc 9, 96, .inl a9n40)), (ga 16, .inl (gc 16, 3, .inl a16n41))] := hD
      refine lv_iload_n hx hb d_M_scrub_60 rfl (lv_at hl 2 rfl) ?_
      refine lv_if_eq (tgt := 75) hx hb d_M_scrub_61 rfl (fun hc44 => by first | exact absurd hc44 (by decide) | exact absurd (by decide) hc44) (fun hc44 => ?_)
      refine lv_aload_n hx hb d_M_scrub_64 rfl (lv_at hl 3 rfl) ?_
      refine va_get (D := (dC, dI)) (ci := 6) (v := .int (upc uM 24 y2442 24)) (C := "VotedTripleModel") (T := F_M) (N := 37) hx hb hw in_M hown hK hP 3 rfl rfl 24 (by decide) (hw _ k_748) (fun _ h9 => h9) rfl d_M_scrub_65 ?_
      refine lv_if_eq (tgt := 75) hx hb d_M_scrub_68 rfl (fun hc45 => ?_) (fun hc45 => ?_)
      · --  (upc uM 24 y2442 24) = 0
        refine lv_iconst (v := 0) hx hb d_M_scrub_75 (by decide) ?_
        refine lv_istore_n hx hb d_M_scrub_76 rfl hl (by decide) rfl (fun ls hl => ?_)
        replace hl : lv_has ls 4 [(1, .int 0), (3, .int r38), (2, .int 0), (0, .ref m0)] := hl
        refine lv_iinc (k := 2) (v := 1) hx hb d_M_scrub_77 hl rfl rfl (by decide) rfl (fun ls hl => ?_)
        replace hl : lv_has ls 4 [(2, .int 1), (1, .int 0), (3, .int r38), (0, .ref m0)] := hl
        refine lv_goto (tgt := 4) hx hb d_M_scrub_80 rfl ?_
        have hSq : SP = s_M_scrub_cut4_1 uM sn a11 (upc uM 24 y2442 24) a9n40 a16n41 (upd (upd a19 0 (0 : Int32)) 0 (vp_nar .boolean (upc uM 24 y2442 24))) a23 0 := by rw [← hSP, s_M_scrub]; try (rw [if_pos hc36]); try (rw [if_pos hc37]); try (rw [← hr39E, bnd_eq]); try dsimp only; try (rw [if_pos hc45]); all_goals rfl
        replace hl := lv_sub hl (l' := [(0, .ref m0), (1, .int 0), (2, .int 1)]) [3, 1, 0] rfl
        replace hP := hP.sub (ws' := [(m0, .inr (6, oM ga (upc uM 24 (upc uM 24 y2442 24)) cn sn cm us wt oc ou ow)), (ga 9, .inl (gc 9, 96, .inl a9n40)), (ga 11, .inl (gc 11, 3, .inl a11)), (ga 16, .inl (gc 16, 3, .inl a16n41)), (ga 19, .inl (gc 19, 3, .inl (upd (upd a19 0 (0 : Int32)) 0 (vp_nar .boolean (upc uM 24 y2442 24))))), (ga 23, .inl (gc 23, 3, .inl a23))]) [3, 4, 0, 5, 1, 2] rfl
        replace hD := hD.sub (ws' := [(m0, .inr (6, oM ga (upc uM 24 (upc uM 24 y2442 24)) cn sn cm us wt oc ou ow)), (ga 9, .inl (gc 9, 96, .inl a9n40)), (ga 11, .inl (gc 11, 3, .inl a11)), (ga 16, .inl (gc 16, 3, .inl a16n41)), (ga 19, .inl (gc 19, 3, .inl (upd (upd a19 0 (0 : Int32)) 0 (vp_nar .boolean (upc uM 24 y2442 24))))), (ga 23, .inl (gc 23, 3, .inl a23))]) [3, 4, 0, 5, 1, 2] (by decide) rfl
        exact cut4_1 (upc uM 24 y2442 24) a9n40 a16n41 (upd (upd a19 0 (0 : Int32)) 0 (vp_nar .boolean (upc uM 24 y2442 24))) a23 0 _ _ _ hSq hl hP hD hS
      · --  ¬ (upc uM 24 y2442 24) = 0
        refine lv_iconst (v := 1) hx hb d_M_scrub_71 (by decide) ?_
        refine lv_goto (tgt := 76) hx hb d_M_scrub_72 rfl ?_
        refine lv_istore_n hx hb d_M_scrub_76 rfl hl (by decide) rfl (fun ls hl => ?_)
        replace hl : lv_has ls 4 [(1, .int 1), (3, .int r38), (2, .int 0), (0, .ref m0)] := hl
        refine lv_iinc (k := 2) (v := 1) hx hb d_M_scrub_77 hl rfl rfl (by decide) rfl (fun ls hl => ?_)
        replace hl : lv_has ls 4 [(2, .int 1), (1, .int 1), (3, .int r38), (0, .ref m0)] := hl
        refine lv_goto (tgt := 4) hx hb d_M_scrub_80 rfl ?_
        have hSq : SP = s_M_scrub_cut4_1 uM sn a11 (upc uM 24 y2442 24) a9n40 a16n41 (upd (upd a19 0 (0 : Int32)) 0 (vp_nar .boolean (upc uM 24 y2442 24))) a23 1 := by rw [← hSP, s_M_scrub]; try (rw [if_pos hc36]); try (rw [if_pos hc37]); try (rw [← hr39E, bnd_eq]); try dsimp only; try (rw [if_neg hc45]); all_goals rfl
        replace hl := lv_sub hl (l' := [(0, .ref m0), (1, .int 1), (2, .int 1)]) [3, 1, 0] rfl
        replace hP := hP.sub (ws' := [(m0, .inr (6, oM ga (upc uM 24 (upc uM 24 y2442 24)) cn sn cm us wt oc ou ow)), (ga 9, .inl (gc 9, 96, .inl a9n40)), (ga 11, .inl (gc 11, 3, .inl a11)), (ga 16, .inl (gc 16, 3, .inl a16n41)), (ga 19, .inl (gc 19, 3, .inl (upd (upd a19 0 (0 : Int32)) 0 (vp_nar .boolean (upc uM 24 y2442 24))))), (ga 23, .inl (gc 23, 3, .inl a23))]) [3, 4, 0, 5, 1, 2] rfl
        replace hD := hD.sub (ws' := [(m0, .inr (6, oM ga (upc uM 24 (upc uM 24 y2442 24)) cn sn cm us wt oc ou ow)), (ga 9, .inl (gc 9, 96, .inl a9n40)), (ga 11, .inl (gc 11, 3, .inl a11)), (ga 16, .inl (gc 16, 3, .inl a16n41)), (ga 19, .inl (gc 19, 3, .inl (upd (upd a19 0 (0 : Int32)) 0 (vp_nar .boolean (upc uM 24 y2442 24))))), (ga 23, .inl (gc 23, 3, .inl a23))]) [3, 4, 0, 5, 1, 2] (by decide) rfl
        exact cut4_1 (upc uM 24 y2442 24) a9n40 a16n41 (upd (upd a19 0 (0 : Int32)) 0 (vp_nar .boolean (upc uM 24 y2442 24))) a23 1 _ _ _ hSq hl hP hD hS
    · --  ¬ (a23 0) = 0
      refine lv_goto (tgt := 77) hx hb d_M_scrub_34 rfl ?_
      refine lv_iinc (k := 0) (v := 1) hx hb d_M_scrub_77 hl rfl rfl (by decide) rfl (fun ls hl => ?_)
      replace hl : lv_has ls 4 [(2, .int 1), (1, .int 1), (0, .ref m0)] := hl
      refine lv_goto (tgt := 4) hx hb d_M_scrub_80 rfl ?_
      have hSq : SP = s_M_scrub_cut4_1 uM sn a11 (uM 24) a9 a16 (upd a19 0 (0 : Int32)) a23 1 := by rw [← hSP, s_M_scrub]; try (rw [if_pos hc36]); try (rw [if_neg hc37]); all_goals rfl
      replace hl := lv_sub hl (l' := [(0, .ref m0), (1, .int 1), (2, .int 1)]) [2, 1, 0] rfl
      replace hP := hP.sub (ws' := [(m0, .inr (6, oM ga (upc uM 24 (uM 24)) cn sn cm us wt oc ou ow)), (ga 9, .inl (gc 9, 96, .inl a9)), (ga 11, .inl (gc 11, 3, .inl a11)), (ga 16, .inl (gc 16, 3, .inl a16)), (ga 19, .inl (gc 19, 3, .inl (upd a19 0 (0 : Int32)))), (ga 23, .inl (gc 23, 3, .inl a23))]) [0, 1, 2, 3, 4, 5] rfl
      replace hD := hD.sub (ws' := [(m0, .inr (6, oM ga (upc uM 24 (uM 24)) cn sn cm us wt oc ou ow)), (ga 9, .inl (gc 9, 96, .inl a9)), (ga 11, .inl (gc 11, 3, .inl a11)), (ga 16, .inl (gc 16, 3, .inl a16)), (ga 19, .inl (gc 19, 3, .inl (upd a19 0 (0 : Int32)))), (ga 23, .inl (gc 23, 3, .inl a23))]) [0, 1, 2, 3, 4, 5] (by decide) rfl
      exact cut4_1 (uM 24) a9 a16 (upd a19 0 (0 : Int32)) a23 1 _ _ _ hSq hl hP hD hS

set_option maxHeartbeats 4000000 in
set_option maxRecDepth 100000 in
theorem c_M_digest (l : Launch) (dC : Nat → ClassId) (dI : Nat → Nat → Nat) (m0 : Nat) (ga : Nat → Nat) (gc : Nat → ClassId) (uM : Nat → Int32) (cn : Nat) (sn : Nat) (cm : Nat) (us : Nat) (wt : Nat) (oc : Nat) (ou : Nat) (ow : Nat) (a8 : Nat → Int32) (a10 : Nat → Int32) (mk : Nat) (mi : Int32) (hmi : mi = nI mk) (hmk : mk < 3) : Met l y_M_digest (tbw y_M_digest b_M_digest 5 (some .int)) ({ frames := 0, cells := 0, slots := 0, locals := 0 }) (va_Pc [.ref m0, .int mi] (fun U => va_P (dC, dI) classes [(m0, .inr (6, oM ga uM cn sn cm us wt oc ou ow)), (ga 8, .inl (gc 8, 24, .inl a8)), (ga 10, .inl (gc 10, 3, .inl a10))] U.heap ∧ va_K (dC, dI) classes [(gc 8, .int), (gc 10, .int)] U)) (vp_Si (fun r => (True) ∧ r = s_M_digest a8 a10 mi)) 0 0 (fun _ => False) := by
  refine Met.ofW (cc := b_M_digest) (maxL := 5) (ret := (some .int)) (by decide) rfl ?_
  intro p e s m args below meth c s₁ B hml hv
  obtain ⟨rfl, hP, hK⟩ := hv
  have hx := B.exec
  have hb := B.bytes
  have hr := B.returns
  have hts := atoms_spec (ws := (tbw y_M_digest b_M_digest 5 (some .int))) B.pre
  have hw : ∀ z9 ∈ tb, z9.before ([.ref m0, .int mi] : List Value).toArray s = true := fun z9 h => hts z9 (List.mem_cons_of_mem _ h)
  have hown : s.vm.findClass "VotedTripleModel" = some m.cls := findClass_of_methodNamed B.named
  have hlocks := B.notSynchronized
  replace hl := lv_entry ([.ref m0, .int mi]) (n := 5) (Nat.le_of_ble_eq_true rfl)
  rw [lg_entry_eq]
  generalize (lg_sl ([.ref m0, .int mi]) ++ List.replicate (5 - (lg_sl ([.ref m0, .int mi])).length) Slot.unset).toArray = ls at hl ⊢
  replace hl : lv_has ls 5 [(0, .ref m0), (1, .int mi)] := hl
  generalize hSP : s_M_digest a8 a10 mi = SP
  have loop9 : ∀ (n9 : Nat) (i : Nat) (w2 : Int32) (ls : Array Slot), i + n9 = 8 → SP = s_M_digest_loop9 a8 mi n9 i w2 →  lv_has ls 5 [(0, .ref m0), (1, .int mi), (2, .int w2), (3, .int (nI i))] → W p l e (headSpec (tbw y_M_digest b_M_digest 5 (some .int)) ({ frames := 0, cells := 0, slots := 0, locals := 0 })).room s m ([.ref m0, .int mi] : List Value).toArray below meth c s.heap [] 0 0 (MQ below (vp_Si (fun r => (True) ∧ r = SP)) ([.ref m0, .int mi] : List Value).toArray s 0 0 (fun _ => False)) (F0 m 9 ls []) := by
    intro n9
    induction n9 with
    | zero =>
      intro i w2 ls hn9 hSq0 hl
      refine lv_iload_n hx hb d_M_digest_9 rfl (lv_at hl 3 rfl) ?_
      refine lv_bipush (v := 8) hx hb d_M_digest_10 (by decide) ?_
      refine lv_icmp_ge (tgt := 52) hx hb d_M_digest_12 rfl (fun hc1 => ?_) (fun hc1 => by first | exact absurd (by rw [show i = 8 by omega]; decide) hc1 | exact absurd hc1 (by rw [show i = 8 by omega]; decide))
      refine lv_iload_n hx hb d_M_digest_52 rfl (lv_at hl 2 rfl) ?_
      exact W.iret (v := w2) hx hb hr (fun t ht _ => ⟨_, rfl, ⟨trivial, (by rw [hSq0, s_M_digest_loop9]; all_goals rfl)⟩, ht⟩) (fun _ h => by cases h) d_M_digest_53
    | succ n9 ih =>
      intro i w2 ls hn9 hSq0 hl
      refine lv_iload_n hx hb d_M_digest_9 rfl (lv_at hl 3 rfl) ?_
      refine lv_bipush (v := 8) hx hb d_M_digest_10 (by decide) ?_
      refine lv_icmp_ge (tgt := 52) hx hb d_M_digest_12 rfl (fun hc2 => by first | exact absurd hc2 (fun h9 => absurd ((nI_leI (a := 8) (b := i) (by omega) (by omega)).mp h9) (by omega)) | exact absurd (fun h9 => absurd ((nI_leI (a := 8) (b := i) (by omega) (by omega)).mp h9) (by omega)) hc2) (fun hc2 => ?_)
      refine lv_aload_n hx hb d_M_digest_15 rfl (lv_at hl 0 rfl) ?_
      refine va_get (D := (dC, dI)) (ci := 6) (v := .ref (ga 8)) (C := "VotedTripleModel") (T := F_M) (N := 37) hx hb hw in_M hown hK hP 0 rfl rfl 8 (by decide) (hw _ k_732) (fun _ h9 => h9) rfl d_M_digest_16 ?_
      refine lv_bipush (v := 8) hx hb d_M_digest_19 (by decide) ?_
      refine lv_iload_n hx hb d_M_digest_21 rfl (lv_at hl 1 rfl) ?_
      refine lv_imul hx hb d_M_digest_22 ?_
      refine lv_iload_n hx hb d_M_digest_23 rfl (lv_at hl 3 rfl) ?_
      refine lv_iadd hx hb d_M_digest_24 ?_
      refine va_iald hx hb hK hP 1 0 rfl rfl (ix8 hmi hmk (vp_in_nI (by omega) (by decide))) d_M_digest_25 ?_
      refine lv_istore hx hb d_M_digest_26 hl (by decide) rfl (fun ls hl => ?_)
      replace hl : lv_has ls 5 [(4, .int (a8 (Int32.toNatClampNeg (((8 : Int32) * mi) + (nI i))))), (0, .ref m0), (1, .int mi), (2, .int w2), (3, .int (nI i))] := hl
      refine lv_iload_n hx hb d_M_digest_28 rfl (lv_at hl 3 rfl) ?_
      refine lv_iload hx hb d_M_digest_29 (lv_at hl 0 rfl) ?_
      refine lv_iload_n hx hb d_M_digest_31 rfl (lv_at hl 4 rfl) ?_
      refine lv_ishl hx hb d_M_digest_32 ?_
      refine lv_iload hx hb d_M_digest_33 (lv_at hl 0 rfl) ?_
      refine lv_bipush (v := 16) hx hb d_M_digest_35 (by decide) ?_
      refine lv_iload_n hx hb d_M_digest_37 rfl (lv_at hl 4 rfl) ?_
      refine lv_isub hx hb d_M_digest_38 ?_
      refine lv_iushr (v := ush (a8 (Int32.toNatClampNeg (((8 : Int32) * mi) + (nI i)))) ((16 : Int32) - (nI i))) hx hb d_M_digest_39 rfl ?_
      refine lv_ior hx hb d_M_digest_40 ?_
      refine lv_ldc (v := 65535) hx hb hown (hw _ k_888) d_M_digest_41 ?_
      refine lv_iand hx hb d_M_digest_43 ?_
      refine lv_ixor hx hb d_M_digest_44 ?_
      refine lv_istore_n hx hb d_M_digest_45 rfl hl (by decide) rfl (fun ls hl => ?_)
      replace hl : lv_has ls 5 [(2, .int (w2 ^^^ ((((a8 (Int32.toNatClampNeg (((8 : Int32) * mi) + (nI i)))) <<< ((nI i) &&& 31)) ||| (ush (a8 (Int32.toNatClampNeg (((8 : Int32) * mi) + (nI i)))) ((16 : Int32) - (nI i)))) &&& (65535 : Int32)))), (4, .int (a8 (Int32.toNatClampNeg (((8 : Int32) * mi) + (nI i))))), (0, .ref m0), (1, .int mi), (3, .int (nI i))] := hl
      refine lv_iinc (k := 4) (v := nI (i + 1)) hx hb d_M_digest_46 hl rfl (nI_1 i) (by decide) rfl (fun ls hl => ?_)
      replace hl : lv_has ls 5 [(3, .int (nI (i + 1))), (2, .int (w2 ^^^ ((((a8 (Int32.toNatClampNeg (((8 : Int32) * mi) + (nI i)))) <<< ((nI i) &&& 31)) ||| (ush (a8 (Int32.toNatClampNeg (((8 : Int32) * mi) + (nI i)))) ((16 : Int32) - (nI i)))) &&& (65535 : Int32)))), (4, .int (a8 (Int32.toNatClampNeg (((8 : Int32) * mi) + (nI i))))), (0, .ref m0), (1, .int mi)] := hl
      refine lv_goto (tgt := 9) hx hb d_M_digest_49 rfl ?_
      have hSq : SP = s_M_digest_loop9 a8 mi n9 (i + 1) (w2 ^^^ ((((a8 (Int32.toNatClampNeg (((8 : Int32) * mi) + (nI i)))) <<< ((nI i) &&& 31)) ||| (ush (a8 (Int32.toNatClampNeg (((8 : Int32) * mi) + (nI i)))) ((16 : Int32) - (nI i)))) &&& (65535 : Int32))) := by rw [hSq0, s_M_digest_loop9]; all_goals rfl
      replace hl := lv_sub hl (l' := [(0, .ref m0), (1, .int mi), (2, .int (w2 ^^^ ((((a8 (Int32.toNatClampNeg (((8 : Int32) * mi) + (nI i)))) <<< ((nI i) &&& 31)) ||| (ush (a8 (Int32.toNatClampNeg (((8 : Int32) * mi) + (nI i)))) ((16 : Int32) - (nI i)))) &&& (65535 : Int32)))), (3, .int (nI (i + 1)))]) [3, 4, 1, 0] rfl
      exact ih (i + 1) (w2 ^^^ ((((a8 (Int32.toNatClampNeg (((8 : Int32) * mi) + (nI i)))) <<< ((nI i) &&& 31)) ||| (ush (a8 (Int32.toNatClampNeg (((8 : Int32) * mi) + (nI i)))) ((16 : Int32) - (nI i)))) &&& (65535 : Int32))) _ (by omega) hSq hl
  refine lv_aload_n hx hb d_M_digest_0 rfl (lv_at hl 0 rfl) ?_
  refine va_get (D := (dC, dI)) (ci := 6) (v := .ref (ga 10)) (C := "VotedTripleModel") (T := F_M) (N := 37) hx hb hw in_M hown hK hP 0 rfl rfl 10 (by decide) (hw _ k_734) (fun _ h9 => h9) rfl d_M_digest_1 ?_
  refine lv_iload_n hx hb d_M_digest_4 rfl (lv_at hl 1 rfl) ?_
  refine va_iald hx hb hK hP 2 1 rfl rfl (mi_in hmi hmk) d_M_digest_5 ?_
  refine lv_istore_n hx hb d_M_digest_6 rfl hl (by decide) rfl (fun ls hl => ?_)
  replace hl : lv_has ls 5 [(2, .int (a10 (Int32.toNatClampNeg mi))), (0, .ref m0), (1, .int mi)] := hl
  refine lv_iconst (v := 0) hx hb d_M_digest_7 (by decide) ?_
  refine lv_istore_n hx hb d_M_digest_8 rfl hl (by decide) rfl (fun ls hl => ?_)
  replace hl : lv_has ls 5 [(3, .int 0), (2, .int (a10 (Int32.toNatClampNeg mi))), (0, .ref m0), (1, .int mi)] := hl
  have hSq : SP = s_M_digest_loop9 a8 mi 8 0 (a10 (Int32.toNatClampNeg mi)) := by rw [← hSP, s_M_digest]; all_goals rfl
  replace hl := lv_sub hl (l' := [(0, .ref m0), (1, .int mi), (2, .int (a10 (Int32.toNatClampNeg mi))), (3, .int 0)]) [2, 3, 1, 0] rfl
  exact loop9 8 0 (a10 (Int32.toNatClampNeg mi)) _ (by omega) hSq hl
