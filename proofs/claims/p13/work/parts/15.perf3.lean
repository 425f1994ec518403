set_option maxHeartbeats 4000000 in
set_option maxRecDepth 100000 in
theorem c_E_makeBlank (l : Launch) (dC : Nat → ClassId) (dI : Nat → Nat → Nat) (h0 r9 o9 w9 : Nat) (F : Nat → Int32) (cr : ClassId) (rg : Nat → Int32) (cw : ClassId) (wd : Nat → Int32)  (v9 : Int32) (hm : eI F rg wd) (ok9 : Nat) (sz : Nat) : Met l y_E_makeBlank (tbw y_E_makeBlank b_E_makeBlank 2 none) ({ frames := 1, cells := 0, slots := 0, locals := 21 }) (va_Pc [.ref h0] (fun U => U.heap.size = sz ∧ va_P (dC, dI) classes [(h0, .inr (3, oE F r9 o9 w9)), (r9, .inl (cr, 8, .inl rg)), (w9, .inl (cw, 32, .inl wd)), (o9, .inr (5, [.ref ok9, .int v9]))] U.heap ∧ va_K (dC, dI) classes [(cr, .int), (cw, .int)] U ∧ va_D (fun _ => True) [(h0, .inr (3, oE F r9 o9 w9)), (r9, .inl (cr, 8, .inl rg)), (w9, .inl (cw, 32, .inl wd)), (o9, .inr (5, [.ref ok9, .int v9]))])) (va_Qv (fun (u9 : (Nat → Int32) × (Nat → Int32) × (Nat → Int32)) => match u9 with | (F2, g, w2) => (eI F2 g w2) ∧ (F2, g, w2) = s_E_makeBlank F rg wd) (fun (u9 : (Nat → Int32) × (Nat → Int32) × (Nat → Int32)) t => match u9 with | (F2, g, w2) => va_P (dC, dI) classes [(h0, .inr (3, oE F2 r9 o9 w9)), (r9, .inl (cr, 8, .inl g)), (w9, .inl (cw, 32, .inl w2)), (o9, .inr (5, [.ref ok9, .int 0]))] t.heap ∧ va_K (dC, dI) classes [(cr, .int), (cw, .int)] t ∧ va_D (va_A [(h0, .inr (3, oE F r9 o9 w9)), (r9, .inl (cr, 8, .inl rg)), (w9, .inl (cw, 32, .inl wd)), (o9, .inr (5, [.ref ok9, .int v9]))] sz) [(h0, .inr (3, oE F2 r9 o9 w9)), (r9, .inl (cr, 8, .inl g)), (w9, .inl (cw, 32, .inl w2)), (o9, .inr (5, [.ref ok9, .int 0]))]) (va_A [(h0, .inr (3, oE F r9 o9 w9)), (r9, .inl (cr, 8, .inl rg)), (w9, .inl (cw, 32, .inl wd)), (o9, .inr (5, [.ref ok9, .int v9]))] sz)) 0 0 (va_A [(h0, .inr (3, oE F r9 o9 w9)), (r9, .inl (cr, 8, .inl rg)), (w9, .inl (cw, 32, .inl wd)), (o9, .inr (5, [.ref ok9, .int v9]))] sz) := by
  refine Met.ofW (cc := b_E_makeBlank) (maxL := 2) (ret := none) (by decide) rfl ?_
  intro p e s m args below meth c s₁ B hml hv
  obtain ⟨rfl, hsz, hP, hK, hD0⟩ := hv
  have hx := B.exec
  have hb := B.bytes
  have hr := B.returns
  have hts := atoms_spec (ws := (tbw y_E_makeBlank b_E_makeBlank 2 none)) B.pre
  have hw : ∀ z9 ∈ tb, z9.before ([.ref h0] : List Value).toArray s = true := fun z9 h => hts z9 (List.mem_cons_of_mem _ h)
  have hown : s.vm.findClass "VotedTriple$PerfectOne" = some m.cls := findClass_of_methodNamed B.named
  have hlocks := B.notSynchronized
  subst hsz
  replace hD := hD0.self (sz := s.heap.size)
  generalize hAe : va_A [(h0, .inr (3, oE F r9 o9 w9)), (r9, .inl (cr, 8, .inl rg)), (w9, .inl (cw, 32, .inl wd)), (o9, .inr (5, [.ref ok9, .int v9]))] s.heap.size = A at hD ⊢
  have hA : ∀ q : Nat, s.heap.size ≤ q → A q := fun q h => by rw [← hAe]; exact Or.inr h
  have hS : va_S A s.heap s.heap [] := va_S.rf
  replace hl := lv_entry ([.ref h0]) (n := 2) (Nat.le_of_ble_eq_true rfl)
  rw [lg_entry_eq]
  generalize (lg_sl ([.ref h0]) ++ List.replicate (2 - (lg_sl ([.ref h0])).length) Slot.unset).toArray = ls at hl ⊢
  replace hl : lv_has ls 2 [(0, .ref h0)] := hl
  generalize hSP : s_E_makeBlank F rg wd = SP
  have loop : ∀ (n9 : Nat) (i : Nat) (g : Nat → Int32) (d : Nat → Int32) (ls : Array Slot) (H : Heap) (locs : List Loc), i + n9 = 32 → wdI 8 g → wdI 32 d → SP = s_E_makeBlank_loop F n9 i g d →  lv_has ls 2 [(0, .ref h0), (1, .int (nI i))] → va_P (dC, dI) classes [(h0, .inr (3, oE (upc F 1 0) r9 o9 w9)), (r9, .inl (cr, 8, .inl g)), (w9, .inl (cw, 32, .inl d)), (o9, .inr (5, [.ref ok9, .int v9]))] H → va_D A [(h0, .inr (3, oE (upc F 1 0) r9 o9 w9)), (r9, .inl (cr, 8, .inl g)), (w9, .inl (cw, 32, .inl d)), (o9, .inr (5, [.ref ok9, .int v9]))] → va_S A s.heap H locs → W p l e (headSpec (tbw y_E_makeBlank b_E_makeBlank 2 none) ({ frames := 1, cells := 0, slots := 0, locals := 21 })).room s m ([.ref h0] : List Value).toArray below meth c H locs 0 0 (MQ below (va_Qv (fun (u9 : (Nat → Int32) × (Nat → Int32) × (Nat → Int32)) => match u9 with | (F2, g, w2) => (eI F2 g w2) ∧ (F2, g, w2) = SP) (fun (u9 : (Nat → Int32) × (Nat → Int32) × (Nat → Int32)) t => match u9 with | (F2, g, w2) => va_P (dC, dI) classes [(h0, .inr (3, oE F2 r9 o9 w9)), (r9, .inl (cr, 8, .inl g)), (w9, .inl (cw, 32, .inl w2)), (o9, .inr (5, [.ref ok9, .int 0]))] t.heap ∧ va_K (dC, dI) classes [(cr, .int), (cw, .int)] t ∧ va_D A [(h0, .inr (3, oE F2 r9 o9 w9)), (r9, .inl (cr, 8, .inl g)), (w9, .inl (cw, 32, .inl w2)), (o9, .inr (5, [.ref ok9, .int 0]))]) A) ([.ref h0] : List Value).toArray s 0 0 A) (F0 m 6 ls []) := by
    intro n9
    induction n9 with
    | zero =>
      intro i g d ls H locs hn9 hg hd hSq0 hl hP hD hS
      refine lv_iload_n hx hb d_E_makeBlank_6 rfl (lv_at hl 1 rfl) ?_
      refine lv_bipush (v := 32) hx hb d_E_makeBlank_7 (by decide) ?_
      refine lv_icmp_ge (tgt := 25) hx hb d_E_makeBlank_9 rfl (fun hc1 => ?_) (fun hc1 => by first | exact absurd (by rw [show i = 32 by omega]; decide) hc1 | exact absurd hc1 (by rw [show i = 32 by omega]; decide))
      refine lv_aload_n hx hb d_E_makeBlank_25 rfl (lv_at hl 0 rfl) ?_
      refine va_get (D := (dC, dI)) (ci := 3) (v := .ref o9) (C := "VotedTriple$PerfectOne") (T := F_E) (N := 10) hx hb hw in_E hown hK hP 0 rfl rfl 7 (by decide) (hw _ k_66) (fun _ h9 => h9) rfl d_E_makeBlank_26 ?_
      replace hPc := hP.sub (ws' := [(o9, .inr (5, [.ref ok9, .int v9]))]) [3] rfl
      replace hKc := hK.sub (tys' := []) [] rfl
      replace hDc := hD.sub (ws' := [(o9, .inr (5, [.ref ok9, .int v9]))]) [3] (by decide) rfl
      replace hFc := va_free (wc := [(o9, .inr (5, [.ref ok9, .int v9]))]) hD hS hA [3] rfl
      refine va_callv (va_runV (C := "VotedTriple$WordsOut") (As := []) (rest := []) ⟨hx, hb, hml, hown, hw⟩ (c_O_forget l dC dI o9 ok9 v9 H.size) (cwV 0 hw (gdV (k_317) (k_314) (k_315) (k_316) (k_5)) rfl rfl rfl (by decide +kernel) ⟨Nat.le_of_ble_eq_true rfl, Nat.le_of_ble_eq_true rfl⟩) ⟨fun a U g mk q => by obtain ⟨q0, q1, qP, qK, qD⟩ := q; exact ⟨q0, q1, qP, va_K.moved (u := U) (U := U.calling g mk a) (Vm.Alike.refl U.vm) qK, qD⟩, va_recv hK hP rfl (q0 := 3) rfl, fun U hU hW => ⟨rfl, by rw [hU], by rw [hU]; exact hPc, va_K.moved hW.alike hKc, hDc.weaken (fun _ _ _ _ => trivial)⟩⟩ rfl rfl hl.1 rfl (lv_room (Nat.le_of_ble_eq_true rfl)) d_E_makeBlank_29 ⟨Nat.le_of_ble_eq_true rfl, Nat.le_of_ble_eq_true rfl⟩) hS (fun q _ h => hFc q h) hFc (fun u9 t H1 locs ht hvm hr3 hB hz1 hk1 hS => ?_)
      obtain ⟨hP1, hK1, hD1⟩ := hB
      rw [ht] at hP1
      replace hK1 := va_K.moved hvm.symm hK1
      try dsimp only at hr3 hP1 hK1 hD1
      obtain ⟨hPz, hDz⟩ := va_join (wr := [(h0, .inr (3, oE (upc F 1 0) r9 o9 w9)), (r9, .inl (cr, 8, .inl g)), (w9, .inl (cw, 32, .inl d))]) (w1 := [(o9, .inr (5, [.ref ok9, .int 0]))]) hP hD [3] [0, 1, 2] rfl rfl (by decide) (by decide) hk1 hFc hP1 hD1
      clear hP hD hPc hDc hP1 hD1 hFc
      have hP := hPz
      have hD := hDz
      clear hPz hDz
      replace hK := (hK.sub (tys' := [(cr, .int), (cw, .int)]) [0, 1] rfl).app hK1
      clear hK1 hKc
      generalize H1 = H at hP hS ⊢
      replace hP : va_P (dC, dI) classes [(h0, .inr (3, oE (upc F 1 0) r9 o9 w9)), (r9, .inl (cr, 8, .inl g)), (w9, .inl (cw, 32, .inl d)), (o9, .inr (5, [.ref ok9, .int 0]))] H := hP
      replace hD : va_D A [(h0, .inr (3, oE (upc F 1 0) r9 o9 w9)), (r9, .inl (cr, 8, .inl g)), (w9, .inl (cw, 32, .inl d)), (o9, .inr (5, [.ref ok9, .int 0]))] := hD
      replace hK : va_K (dC, dI) classes [(cr, .int), (cw, .int)] s := hK
      refine W.widen (k := 0) (n := 0) (Nat.le_of_ble_eq_true rfl) (Nat.le_of_ble_eq_true rfl) ?_
      refine lv_aload_n hx hb d_E_makeBlank_32 rfl (lv_at hl 0 rfl) ?_
      refine lv_iconst (v := 0) hx hb d_E_makeBlank_33 (by decide) ?_
      refine va_put (D := (dC, dI)) (ci := 3) (v := .int 0) (ty := .int) (C := "VotedTriple$PerfectOne") (T := F_E) (N := 10) hx hb hw in_E ft_E tyok_E nm_E hown hK hP hD hS 0 rfl rfl 9 (by decide) (hw _ k_69) (fun _ h9 => h9) rfl (by decide +kernel) rfl rfl (Nat.le_of_ble_eq_true rfl) d_E_makeBlank_34 (fun H locs hP hD hS => ?_)
      replace hP : va_P (dC, dI) classes [(h0, .inr (3, [.ref r9, .int (upc F 1 0 1), .int (upc F 1 0 2), .int (upc F 1 0 3), .int (upc F 1 0 4), .int (upc F 1 0 5), .int (upc F 1 0 6), .ref o9, .ref w9, .int 0])), (r9, .inl (cr, 8, .inl g)), (w9, .inl (cw, 32, .inl d)), (o9, .inr (5, [.ref ok9, .int 0]))] H := hP
      replace hD : va_D A [(h0, .inr (3, [.ref r9, .int (upc F 1 0 1), .int (upc F 1 0 2), .int (upc F 1 0 3), .int (upc F 1 0 4), .int (upc F 1 0 5), .int (upc F 1 0 6), .ref o9, .ref w9, .int 0])), (r9, .inl (cr, 8, .inl g)), (w9, .inl (cw, 32, .inl d)), (o9, .inr (5, [.ref ok9, .int 0]))] := hD
      have hP9 := hP.sub (ws' := [(h0, .inr (3, oE (upc (upc F 1 0) 9 (0 : Int32)) r9 o9 w9)), (r9, .inl (cr, 8, .inl g)), (w9, .inl (cw, 32, .inl d)), (o9, .inr (5, [.ref ok9, .int 0]))]) [0, 1, 2, 3] rfl
      have hD9 := hD.sub (ws' := [(h0, .inr (3, oE (upc (upc F 1 0) 9 (0 : Int32)) r9 o9 w9)), (r9, .inl (cr, 8, .inl g)), (w9, .inl (cw, 32, .inl d)), (o9, .inr (5, [.ref ok9, .int 0]))]) [0, 1, 2, 3] (by decide) rfl
      have hK9 := hK.sub (tys' := [(cr, .int), (cw, .int)]) [0, 1] rfl
      refine W.widen (k := 0) (n := 0) (Nat.le_of_ble_eq_true rfl) (Nat.le_of_ble_eq_true rfl) ?_
      exact W.vret hx hb hr (fun t ht hW => ⟨⟨(upc (upc F 1 0) 9 (0 : Int32), g, d), rfl, ⟨⟨⟨0, by decide, rfl⟩, hm.2.1, hg, hd⟩, (by rw [hSq0, s_E_makeBlank_loop]; all_goals rfl)⟩, by rw [ht]; exact hP9, va_K.moved hW.alike hK9, hD9⟩, hS.F ht⟩) hS.2.2 d_E_makeBlank_37
    | succ n9 ih =>
      intro i g d ls H locs hn9 hg hd hSq0 hl hP hD hS
      refine lv_iload_n hx hb d_E_makeBlank_6 rfl (lv_at hl 1 rfl) ?_
      refine lv_bipush (v := 32) hx hb d_E_makeBlank_7 (by decide) ?_
      refine lv_icmp_ge (tgt := 25) hx hb d_E_makeBlank_9 rfl (fun hc4 => by first | exact absurd hc4 (lt32 (by omega)) | exact absurd (lt32 (by omega)) hc4) (fun hc4 => ?_)
      refine lv_aload_n hx hb d_E_makeBlank_12 rfl (lv_at hl 0 rfl) ?_
      refine va_get (D := (dC, dI)) (ci := 3) (v := .ref w9) (C := "VotedTriple$PerfectOne") (T := F_E) (N := 10) hx hb hw in_E hown hK hP 0 rfl rfl 8 (by decide) (hw _ k_68) (fun _ h9 => h9) rfl d_E_makeBlank_13 ?_
      refine lv_iload_n hx hb d_E_makeBlank_16 rfl (lv_at hl 1 rfl) ?_
      refine lv_iconst (v := 0) hx hb d_E_makeBlank_17 (by decide) ?_
      refine va_iast hx hb hK hP hD hS 2 1 rfl rfl (vp_in_nI (by omega) (by decide)) d_E_makeBlank_18 (fun H locs hP hD hS => ?_)
      replace hP : va_P (dC, dI) classes [(h0, .inr (3, oE (upc F 1 0) r9 o9 w9)), (r9, .inl (cr, 8, .inl g)), (w9, .inl (cw, 32, .inl (upd d (Int32.toNatClampNeg (nI i)) (0 : Int32)))), (o9, .inr (5, [.ref ok9, .int v9]))] H := hP
      replace hD : va_D A [(h0, .inr (3, oE (upc F 1 0) r9 o9 w9)), (r9, .inl (cr, 8, .inl g)), (w9, .inl (cw, 32, .inl (upd d (Int32.toNatClampNeg (nI i)) (0 : Int32)))), (o9, .inr (5, [.ref ok9, .int v9]))] := hD
      refine lv_iinc (k := 1) (v := nI (i + 1)) hx hb d_E_makeBlank_19 hl rfl (nI_1 i) (by decide) rfl (fun ls hl => ?_)
      replace hl : lv_has ls 2 [(1, .int (nI (i + 1))), (0, .ref h0)] := hl
      refine lv_goto (tgt := 6) hx hb d_E_makeBlank_22 rfl ?_
      have hSq : SP = s_E_makeBlank_loop F n9 (i + 1) g (upd d (Int32.toNatClampNeg (nI i)) (0 : Int32)) := by rw [hSq0, s_E_makeBlank_loop]; all_goals rfl
      replace hl := lv_sub hl (l' := [(0, .ref h0), (1, .int (nI (i + 1)))]) [1, 0] rfl
      replace hP := hP.sub (ws' := [(h0, .inr (3, oE (upc F 1 0) r9 o9 w9)), (r9, .inl (cr, 8, .inl g)), (w9, .inl (cw, 32, .inl (upd d (Int32.toNatClampNeg (nI i)) (0 : Int32)))), (o9, .inr (5, [.ref ok9, .int v9]))]) [0, 1, 2, 3] rfl
      replace hD := hD.sub (ws' := [(h0, .inr (3, oE (upc F 1 0) r9 o9 w9)), (r9, .inl (cr, 8, .inl g)), (w9, .inl (cw, 32, .inl (upd d (Int32.toNatClampNeg (nI i)) (0 : Int32)))), (o9, .inr (5, [.ref ok9, .int v9]))]) [0, 1, 2, 3] (by decide) rfl
      exact ih (i + 1) g (upd d (Int32.toNatClampNeg (nI i)) (0 : Int32)) _ _ _ (by omega) hg (rgI_upd hd is16_0) hSq hl hP hD hS
  refine lv_aload_n hx hb d_E_makeBlank_0 rfl (lv_at hl 0 rfl) ?_
  replace hPc := hP.sub (ws' := [(h0, .inr (3, oE F r9 o9 w9)), (r9, .inl (cr, 8, .inl rg))]) [0, 1] rfl
  replace hKc := hK.sub (tys' := [(cr, .int)]) [0] rfl
  replace hDc := hD.sub (ws' := [(h0, .inr (3, oE F r9 o9 w9)), (r9, .inl (cr, 8, .inl rg))]) [0, 1] (by decide) rfl
  replace hFc := va_free (wc := [(h0, .inr (3, oE F r9 o9 w9)), (r9, .inl (cr, 8, .inl rg))]) hD hS hA [0, 1] rfl
  refine va_callv (va_runU (C := "VotedTriple$PerfectOne") (As := []) (rest := []) ⟨hx, hb, hml, hown, hw⟩ (c_C_clearProcessor_E l dC dI h0 r9 o9 w9 F cr rg hm.2.2.1 s.heap.size) (va_cwU (C := "VotedTriple$PerfectOne") (owner := "VotedTriple$Processor") (x := ⟨"VotedTriple$PerfectOne", "clearProcessor", "()V"⟩) (y := y_C_clearProcessor) 0 hw (gd_l (List.forall_mem_cons.mpr ⟨k_311, List.forall_mem_cons.mpr ⟨k_312, List.forall_mem_cons.mpr ⟨k_313, List.forall_mem_cons.mpr ⟨k_270, List.forall_mem_cons.mpr ⟨k_3, fun _ h => absurd h List.not_mem_nil⟩⟩⟩⟩⟩) (gd (k_271))) rfl rfl rfl rfl (by decide +kernel) ⟨Nat.le_of_ble_eq_true rfl, Nat.le_of_ble_eq_true rfl⟩) ⟨fun a U g mk q => by obtain ⟨q0, q1, qP, qK, qD⟩ := q; exact ⟨q0, q1, qP, va_K.moved (u := U) (U := U.calling g mk a) (Vm.Alike.refl U.vm) qK, qD⟩, va_recv hK hP rfl (q0 := 0) rfl, fun U hU hW => ⟨rfl, by rw [hU], by rw [hU]; exact hPc, va_K.moved hW.alike hKc, hDc.weaken (fun _ _ _ _ => trivial)⟩⟩ rfl rfl hl.1 rfl (lv_room (Nat.le_of_ble_eq_true rfl)) d_E_makeBlank_1 ⟨Nat.le_of_ble_eq_true rfl, Nat.le_of_ble_eq_true rfl⟩) hS (fun q _ h => hFc q h) hFc (fun u9 t H1 locs ht hvm hr6 hB hz1 hk1 hS => ?_)
  obtain ⟨g7, rfl⟩ : ∃ z, z = u9 := ⟨_, rfl⟩
  obtain ⟨hP1, hK1, hD1⟩ := hB
  rw [ht] at hP1
  replace hK1 := va_K.moved hvm.symm hK1
  try dsimp only at hr6 hP1 hK1 hD1
  obtain ⟨hr6, hr6E⟩ := hr6
  obtain ⟨hPz, hDz⟩ := va_join (wr := [(w9, .inl (cw, 32, .inl wd)), (o9, .inr (5, [.ref ok9, .int v9]))]) (w1 := [(h0, .inr (3, oE (upc F 1 0) r9 o9 w9)), (r9, .inl (cr, 8, .inl g7))]) hP hD [0, 1] [2, 3] rfl rfl (by decide) (by decide) hk1 hFc hP1 hD1
  clear hP hD hPc hDc hP1 hD1 hFc
  have hP := hPz
  have hD := hDz
  clear hPz hDz
  replace hK := (hK.sub (tys' := [(cw, .int)]) [1] rfl).app hK1
  clear hK1 hKc
  generalize H1 = H at hP hS ⊢
  replace hP : va_P (dC, dI) classes [(w9, .inl (cw, 32, .inl wd)), (o9, .inr (5, [.ref ok9, .int v9])), (h0, .inr (3, oE (upc F 1 0) r9 o9 w9)), (r9, .inl (cr, 8, .inl g7))] H := hP
  replace hD : va_D A [(w9, .inl (cw, 32, .inl wd)), (o9, .inr (5, [.ref ok9, .int v9])), (h0, .inr (3, oE (upc F 1 0) r9 o9 w9)), (r9, .inl (cr, 8, .inl g7))] := hD
  replace hK : va_K (dC, dI) classes [(cw, .int), (cr, .int)] s := hK
  refine W.widen (k := 0) (n := 0) (Nat.le_of_ble_eq_true rfl) (Nat.le_of_ble_eq_true rfl) ?_
  replace hP := hP.sub (ws' := [(w9, .inl (cw, 32, .inl wd)), (o9, .inr (5, [.ref ok9, .int v9])), (h0, .inr (3, oE (upc F 1 0) r9 o9 w9)), (r9, .inl (cr, 8, .inl g7))]) [0, 1, 2, 3] rfl
  replace hD := hD.sub (ws' := [(w9, .inl (cw, 32, .inl wd)), (o9, .inr (5, [.ref ok9, .int v9])), (h0, .inr (3, oE (upc F 1 0) r9 o9 w9)), (r9, .inl (cr, 8, .inl g7))]) [0, 1, 2, 3] (by decide) rfl
  refine lv_iconst (v := 0) hx hb d_E_makeBlank_4 (by decide) ?_
  refine lv_istore_n hx hb d_E_makeBlank_5 rfl hl (by decide) rfl (fun ls hl => ?_)
  replace hl : lv_has ls 2 [(1, .int 0), (0, .ref h0)] := hl
  have hSq : SP = s_E_makeBlank_loop F 32 0 g7 wd := by rw [← hSP, s_E_makeBlank]; try (rw [← hr6E, bnd_eq]); all_goals rfl
  replace hl := lv_sub hl (l' := [(0, .ref h0), (1, .int 0)]) [1, 0] rfl
  replace hP := hP.sub (ws' := [(h0, .inr (3, oE (upc F 1 0) r9 o9 w9)), (r9, .inl (cr, 8, .inl g7)), (w9, .inl (cw, 32, .inl wd)), (o9, .inr (5, [.ref ok9, .int v9]))]) [2, 3, 0, 1] rfl
  replace hD := hD.sub (ws' := [(h0, .inr (3, oE (upc F 1 0) r9 o9 w9)), (r9, .inl (cr, 8, .inl g7)), (w9, .inl (cw, 32, .inl wd)), (o9, .inr (5, [.ref ok9, .int v9]))]) [2, 3, 0, 1] (by decide) rfl
  exact loop 32 0 g7 wd _ _ _ (by omega) hr6 hm.2.2.2 hSq hl hP hD hS
