set_option maxHeartbeats 4000000 in
set_option maxRecDepth 100000 in
theorem c_M_flip (l : Launch) (dC : Nat → ClassId) (dI : Nat → Nat → Nat) (m0 : Nat) (ga : Nat → Nat) (gc : Nat → ClassId) (uM : Nat → Int32) (cn : Nat) (sn : Nat) (cm : Nat) (us : Nat) (wt : Nat) (oc : Nat) (ou : Nat) (ow : Nat) (a2 : Nat → Int32) (a8 : Nat → Int32) (a9 : Nat → Int32) (a10 : Nat → Int32) (x : Int32) (y : Int32) (z : Int32) (u : Int32) (h8 : wdI 24 a8) (hc : prI cn a2) (hst9 : (¬ uM 3 = 0 → 0 < cn ∧ c3I cn a10)) (sz : Nat) : Met l y_M_flip (tbw y_M_flip b_M_flip 6 none) ({ frames := 1, cells := 0, slots := 0, locals := 20 }) (va_Pc [.ref m0, .int x, .int y, .int z, .int u] (fun U => U.heap.size = sz ∧ va_P (dC, dI) classes [(m0, .inr (6, oM ga uM cn sn cm us wt oc ou ow)), (ga 2, .inl (gc 2, 64, .inl a2)), (ga 8, .inl (gc 8, 24, .inl a8)), (ga 9, .inl (gc 9, 96, .inl a9)), (ga 10, .inl (gc 10, 3, .inl a10))] U.heap ∧ va_K (dC, dI) classes [(gc 2, .int), (gc 8, .int), (gc 9, .int), (gc 10, .int)] U ∧ va_D (fun _ => True) [(m0, .inr (6, oM ga uM cn sn cm us wt oc ou ow)), (ga 2, .inl (gc 2, 64, .inl a2)), (ga 8, .inl (gc 8, 24, .inl a8)), (ga 9, .inl (gc 9, 96, .inl a9)), (ga 10, .inl (gc 10, 3, .inl a10))])) (va_Qv (fun (u9 : (Nat → Int32) × (Nat → Int32) × (Nat → Int32) × Int32) => match u9 with | (a8n, a9n, a10n, y0) => (wdI 24 a8n ∧ (¬ uM 3 = 0 → c3I cn a10n) ∧ (upc uM 0 y0) 0 = (if (mmB uM x && hbB y z u) then 0 else 1)) ∧ (a8n, a9n, a10n, y0) = s_M_flip uM cn a8 a9 a10 x y z u) (fun (u9 : (Nat → Int32) × (Nat → Int32) × (Nat → Int32) × Int32) t => match u9 with | (a8n, a9n, a10n, y0) => va_P (dC, dI) classes [(m0, .inr (6, oM ga (upc uM 0 y0) cn sn cm us wt oc ou ow)), (ga 2, .inl (gc 2, 64, .inl a2)), (ga 8, .inl (gc 8, 24, .inl a8n)), (ga 9, .inl (gc 9, 96, .inl a9n)), (ga 10, .inl (gc 10, 3, .inl a10n))] t.heap ∧ va_K (dC, dI) classes [(gc 2, .int), (gc 8, .int), (gc 9, .int), (gc 10, .int)] t ∧ va_D (va_A [(m0, .inr (6, oM ga uM cn sn cm us wt oc ou ow)), (ga 2, .inl (gc 2, 64, .inl a2)), (ga 8, .inl (gc 8, 24, .inl a8)), (ga 9, .inl (gc 9, 96, .inl a9)), (ga 10, .inl (gc 10, 3, .inl a10))] sz) [(m0, .inr (6, oM ga (upc uM 0 y0) cn sn cm us wt oc ou ow)), (ga 2, .inl (gc 2, 64, .inl a2)), (ga 8, .inl (gc 8, 24, .inl a8n)), (ga 9, .inl (gc 9, 96, .inl a9n)), (ga 10, .inl (gc 10, 3, .inl a10n))]) (va_A [(m0, .inr (6, oM ga uM cn sn cm us wt oc ou ow)), (ga 2, .inl (gc 2, 64, .inl a2)), (ga 8, .inl (gc 8, 24, .inl a8)), (ga 9, .inl (gc 9, 96, .inl a9)), (ga 10, .inl (gc 10, 3, .inl a10))] sz)) 0 0 (va_A [(m0, .inr (6, oM ga uM cn sn cm us wt oc ou ow)), (ga 2, .inl (gc 2, 64, .inl a2)), (ga 8, .inl (gc 8, 24, .inl a8)), (ga 9, .inl (gc 9, 96, .inl a9)), (ga 10, .inl (gc 10, 3, .inl a10))] sz) := by
  refine Met.ofW (cc := b_M_flip) (maxL := 6) (ret := none) (by decide) rfl ?_
  intro p e s m args below meth c s₁ B hml hv
  obtain ⟨rfl, hsz, hP, hK, hD0⟩ := hv
  have hx := B.exec
  have hb := B.bytes
  have hr := B.returns
  have hts := atoms_spec (ws := (tbw y_M_flip b_M_flip 6 none)) B.pre
  have hw : ∀ z9 ∈ tb, z9.before ([.ref m0, .int x, .int y, .int z, .int u] : List Value).toArray s = true := fun z9 h => hts z9 (List.mem_cons_of_mem _ h)
  have hown : s.vm.findClass "VotedTripleModel" = some m.cls := findClass_of_methodNamed B.named
  have hlocks := B.notSynchronized
  subst hsz
  replace hD := hD0.self (sz := s.heap.size)
  generalize hAe : va_A [(m0, .inr (6, oM ga uM cn sn cm us wt oc ou ow)), (ga 2, .inl (gc 2, 64, .inl a2)), (ga 8, .inl (gc 8, 24, .inl a8)), (ga 9, .inl (gc 9, 96, .inl a9)), (ga 10, .inl (gc 10, 3, .inl a10))] s.heap.size = A at hD ⊢
  have hA : ∀ q : Nat, s.heap.size ≤ q → A q := fun q h => by rw [← hAe]; exact Or.inr h
  have hS : va_S A s.heap s.heap [] := va_S.rf
  replace hl := lv_entry ([.ref m0, .int x, .int y, .int z, .int u]) (n := 6) (Nat.le_of_ble_eq_true rfl)
  rw [lg_entry_eq]
  generalize (lg_sl ([.ref m0, .int x, .int y, .int z, .int u]) ++ List.replicate (6 - (lg_sl ([.ref m0, .int x, .int y, .int z, .int u])).length) Slot.unset).toArray = ls at hl ⊢
  replace hl : lv_has ls 6 [(0, .ref m0), (1, .int x), (2, .int y), (3, .int z), (4, .int u)] := hl
  generalize hSP : s_M_flip uM cn a8 a9 a10 x y z u = SP
  refine lv_aload_n hx hb d_M_flip_0 rfl (lv_at hl 0 rfl) ?_
  refine va_get (D := (dC, dI)) (ci := 6) (v := .int (uM 3)) (C := "VotedTripleModel") (T := F_M) (N := 37) hx hb hw in_M hown hK hP 0 rfl rfl 3 (by decide) (hw _ k_727) (fun _ h9 => h9) rfl d_M_flip_1 ?_
  refine lv_if_eq (tgt := 78) hx hb d_M_flip_4 rfl (fun hc1 => ?_) (fun hc1 => ?_)
  · --  (uM 3) = 0
    refine lv_iconst (v := 0) hx hb d_M_flip_78 (by decide) ?_
    refine lv_istore hx hb d_M_flip_79 hl (by decide) rfl (fun ls hl => ?_)
    replace hl : lv_has ls 6 [(5, .int 0), (0, .ref m0), (1, .int x), (2, .int y), (3, .int z), (4, .int u)] := hl
    refine lv_aload_n hx hb d_M_flip_81 rfl (lv_at hl 1 rfl) ?_
    refine lv_iload hx hb d_M_flip_82 (lv_at hl 0 rfl) ?_
    refine lv_if_eq (tgt := 91) hx hb d_M_flip_84 rfl (fun hc2 => ?_) (fun hc2 => by first | exact absurd (by decide) hc2 | exact absurd hc2 (by decide))
    refine lv_iconst (v := 1) hx hb d_M_flip_91 (by decide) ?_
    refine va_put (D := (dC, dI)) (ci := 6) (v := .int 1) (ty := .int) (C := "VotedTripleModel") (T := F_M) (N := 37) hx hb hw in_M ft_M tyok_M nm_M hown hK hP hD hS 0 rfl rfl 0 (by decide) (hw _ k_724) (fun _ h9 => h9) rfl (by decide +kernel) rfl rfl (Nat.le_of_ble_eq_true rfl) d_M_flip_92 (fun H locs hP hD hS => ?_)
    replace hP : va_P (dC, dI) classes [(m0, .inr (6, [.int 1, .int (nI cn), .ref (ga 2), .int (uM 3), .int (uM 4), .int (uM 5), .int (nI sn), .int (uM 7), .ref (ga 8), .ref (ga 9), .ref (ga 10), .ref (ga 11), .ref (ga 12), .ref (ga 13), .ref (ga 14), .ref (ga 15), .ref (ga 16), .ref (ga 17), .ref (ga 18), .ref (ga 19), .ref (ga 20), .ref (ga 21), .ref (ga 22), .ref (ga 23), .int (uM 24), .int (uM 25), .int (nI cm), .int (nI us), .ref (ga 28), .int (nI wt), .ref (ga 30), .ref (ga 31), .ref (ga 32), .int (nI oc), .int (nI ou), .int (nI ow), .ref (ga 36)])), (ga 2, .inl (gc 2, 64, .inl a2)), (ga 8, .inl (gc 8, 24, .inl a8)), (ga 9, .inl (gc 9, 96, .inl a9)), (ga 10, .inl (gc 10, 3, .inl a10))] H := hP
    replace hD : va_D A [(m0, .inr (6, [.int 1, .int (nI cn), .ref (ga 2), .int (uM 3), .int (uM 4), .int (uM 5), .int (nI sn), .int (uM 7), .ref (ga 8), .ref (ga 9), .ref (ga 10), .ref (ga 11), .ref (ga 12), .ref (ga 13), .ref (ga 14), .ref (ga 15), .ref (ga 16), .ref (ga 17), .ref (ga 18), .ref (ga 19), .ref (ga 20), .ref (ga 21), .ref (ga 22), .ref (ga 23), .int (uM 24), .int (uM 25), .int (nI cm), .int (nI us), .ref (ga 28), .int (nI wt), .ref (ga 30), .ref (ga 31), .ref (ga 32), .int (nI oc), .int (nI ou), .int (nI ow), .ref (ga 36)])), (ga 2, .inl (gc 2, 64, .inl a2)), (ga 8, .inl (gc 8, 24, .inl a8)), (ga 9, .inl (gc 9, 96, .inl a9)), (ga 10, .inl (gc 10, 3, .inl a10))] := hD
    refine lv_iload hx hb d_M_flip_95 (lv_at hl 0 rfl) ?_
    refine lv_if_ne (tgt := 101) hx hb d_M_flip_97 rfl (fun hc3 => by first | exact absurd hc3 (by decide) | exact absurd (by decide) hc3) (fun hc3 => ?_)
    have hP9 := hP.sub (ws' := [(m0, .inr (6, oM ga (upc uM 0 1) cn sn cm us wt oc ou ow)), (ga 2, .inl (gc 2, 64, .inl a2)), (ga 8, .inl (gc 8, 24, .inl a8)), (ga 9, .inl (gc 9, 96, .inl a9)), (ga 10, .inl (gc 10, 3, .inl a10))]) [0, 1, 2, 3, 4] rfl
    have hD9 := hD.sub (ws' := [(m0, .inr (6, oM ga (upc uM 0 1) cn sn cm us wt oc ou ow)), (ga 2, .inl (gc 2, 64, .inl a2)), (ga 8, .inl (gc 8, 24, .inl a8)), (ga 9, .inl (gc 9, 96, .inl a9)), (ga 10, .inl (gc 10, 3, .inl a10))]) [0, 1, 2, 3, 4] (by decide) rfl
    have hK9 := hK.sub (tys' := [(gc 2, .int), (gc 8, .int), (gc 9, .int), (gc 10, .int)]) [0, 1, 2, 3] rfl
    refine W.widen (k := 0) (n := 0) (Nat.le_of_ble_eq_true rfl) (Nat.le_of_ble_eq_true rfl) ?_
    exact W.vret hx hb hr (fun t ht hW => ⟨⟨(a8, a9, a10, 1), rfl, ⟨⟨(by repeat' first | with_reducible assumption | with_reducible exact is16_0 | with_reducible exact is16_m _ | with_reducible exact set16' _ | with_reducible apply rgI_upd | with_reducible apply c3_upd | with_reducible apply o3_upd | exact Or.inl rfl | exact ⟨0, by with_reducible assumption, rfl⟩ | omega | assumption), (fun q => (hst9 q).2), (by show (1 : Int32) = _; simp [mmB, hbB, blw, hc1] <;> (intros; simp_all))⟩, (by rw [← hSP, s_M_flip]; try (rw [if_pos hc1]); all_goals rfl)⟩, by rw [ht]; exact hP9, va_K.moved hW.alike hK9, hD9⟩, hS.F ht⟩) hS.2.2 d_M_flip_100
  · --  ¬ (uM 3) = 0
    refine lv_iload_n hx hb d_M_flip_7 rfl (lv_at hl 1 rfl) ?_
    refine vp_callSi (va_runS (As := [.int x]) (rest := []) ⟨hx, hb, hml, hown, hw⟩ (c_M_isModule l dC dI x) (va_cwS 1 hw (gdS (k_962) (k_960) (k_961) (k_8)) rfl rfl rfl (by decide +kernel) ⟨Nat.le_of_ble_eq_true rfl, Nat.le_of_ble_eq_true rfl⟩) ⟨fun _ _ _ _ q => q, fun _ _ _ => ⟨rfl, trivial⟩⟩ rfl rfl hl.1 rfl (lv_room (Nat.le_of_ble_eq_true rfl)) d_M_flip_8 ⟨Nat.le_of_ble_eq_true rfl, Nat.le_of_ble_eq_true rfl⟩).run (fun r4 hr5 => ?_)
    subst hr5
    refine lv_if_eq (tgt := 78) hx hb d_M_flip_11 rfl (fun hc6 => ?_) (fun hc6 => ?_)
    · --  (bI (in3 x)) = 0
      refine lv_iconst (v := 0) hx hb d_M_flip_78 (by decide) ?_
      refine lv_istore hx hb d_M_flip_79 hl (by decide) rfl (fun ls hl => ?_)
      replace hl : lv_has ls 6 [(5, .int 0), (0, .ref m0), (1, .int x), (2, .int y), (3, .int z), (4, .int u)] := hl
      refine lv_aload_n hx hb d_M_flip_81 rfl (lv_at hl 1 rfl) ?_
      refine lv_iload hx hb d_M_flip_82 (lv_at hl 0 rfl) ?_
      refine lv_if_eq (tgt := 91) hx hb d_M_flip_84 rfl (fun hc7 => ?_) (fun hc7 => by first | exact absurd (by decide) hc7 | exact absurd hc7 (by decide))
      refine lv_iconst (v := 1) hx hb d_M_flip_91 (by decide) ?_
      refine va_put (D := (dC, dI)) (ci := 6) (v := .int 1) (ty := .int) (C := "VotedTripleModel") (T := F_M) (N := 37) hx hb hw in_M ft_M tyok_M nm_M hown hK hP hD hS 0 rfl rfl 0 (by decide) (hw _ k_724) (fun _ h9 => h9) rfl (by decide +kernel) rfl rfl (Nat.le_of_ble_eq_true rfl) d_M_flip_92 (fun H locs hP hD hS => ?_)
      replace hP : va_P (dC, dI) classes [(m0, .inr (6, [.int 1, .int (nI cn), .ref (ga 2), .int (uM 3), .int (uM 4), .int (uM 5), .int (nI sn), .int (uM 7), .ref (ga 8), .ref (ga 9), .ref (ga 10), .ref (ga 11), .ref (ga 12), .ref (ga 13), .ref (ga 14), .ref (ga 15), .ref (ga 16), .ref (ga 17), .ref (ga 18), .ref (ga 19), .ref (ga 20), .ref (ga 21), .ref (ga 22), .ref (ga 23), .int (uM 24), .int (uM 25), .int (nI cm), .int (nI us), .ref (ga 28), .int (nI wt), .ref (ga 30), .ref (ga 31), .ref (ga 32), .int (nI oc), .int (nI ou), .int (nI ow), .ref (ga 36)])), (ga 2, .inl (gc 2, 64, .inl a2)), (ga 8, .inl (gc 8, 24, .inl a8)), (ga 9, .inl (gc 9, 96, .inl a9)), (ga 10, .inl (gc 10, 3, .inl a10))] H := hP
      replace hD : va_D A [(m0, .inr (6, [.int 1, .int (nI cn), .ref (ga 2), .int (uM 3), .int (uM 4), .int (uM 5), .int (nI sn), .int (uM 7), .ref (ga 8), .ref (ga 9), .ref (ga 10), .ref (ga 11), .ref (ga 12), .ref (ga 13), .ref (ga 14), .ref (ga 15), .ref (ga 16), .ref (ga 17), .ref (ga 18), .ref (ga 19), .ref (ga 20), .ref (ga 21), .ref (ga 22), .ref (ga 23), .int (uM 24), .int (uM 25), .int (nI cm), .int (nI us), .ref (ga 28), .int (nI wt), .ref (ga 30), .ref (ga 31), .ref (ga 32), .int (nI oc), .int (nI ou), .int (nI ow), .ref (ga 36)])), (ga 2, .inl (gc 2, 64, .inl a2)), (ga 8, .inl (gc 8, 24, .inl a8)), (ga 9, .inl (gc 9, 96, .inl a9)), (ga 10, .inl (gc 10, 3, .inl a10))] := hD
      refine lv_iload hx hb d_M_flip_95 (lv_at hl 0 rfl) ?_
      refine lv_if_ne (tgt := 101) hx hb d_M_flip_97 rfl (fun hc8 => by first | exact absurd hc8 (by decide) | exact absurd (by decide) hc8) (fun hc8 => ?_)
      have hP9 := hP.sub (ws' := [(m0, .inr (6, oM ga (upc uM 0 1) cn sn cm us wt oc ou ow)), (ga 2, .inl (gc 2, 64, .inl a2)), (ga 8, .inl (gc 8, 24, .inl a8)), (ga 9, .inl (gc 9, 96, .inl a9)), (ga 10, .inl (gc 10, 3, .inl a10))]) [0, 1, 2, 3, 4] rfl
      have hD9 := hD.sub (ws' := [(m0, .inr (6, oM ga (upc uM 0 1) cn sn cm us wt oc ou ow)), (ga 2, .inl (gc 2, 64, .inl a2)), (ga 8, .inl (gc 8, 24, .inl a8)), (ga 9, .inl (gc 9, 96, .inl a9)), (ga 10, .inl (gc 10, 3, .inl a10))]) [0, 1, 2, 3, 4] (by decide) rfl
      have hK9 := hK.sub (tys' := [(gc 2, .int), (gc 8, .int), (gc 9, .int), (gc 10, .int)]) [0, 1, 2, 3] rfl
      refine W.widen (k := 0) (n := 0) (Nat.le_of_ble_eq_true rfl) (Nat.le_of_ble_eq_true rfl) ?_
      exact W.vret hx hb hr (fun t ht hW => ⟨⟨(a8, a9, a10, 1), rfl, ⟨⟨(by repeat' first | with_reducible assumption | with_reducible exact is16_0 | with_reducible exact is16_m _ | with_reducible exact set16' _ | with_reducible apply rgI_upd | with_reducible apply c3_upd | with_reducible apply o3_upd | exact Or.inl rfl | exact ⟨0, by with_reducible assumption, rfl⟩ | omega | assumption), (fun q => (hst9 q).2), (by show (1 : Int32) = _; simp [mmB, hbB, blw, hc1, bI_f hc6] <;> (intros; simp_all))⟩, (by rw [← hSP, s_M_flip]; try (rw [if_neg hc1]); try (rw [if_pos hc6]); all_goals rfl)⟩, by rw [ht]; exact hP9, va_K.moved hW.alike hK9, hD9⟩, hS.F ht⟩) hS.2.2 d_M_flip_100
    · --  ¬ (bI (in3 x)) = 0
      obtain ⟨mk, hmk, hmi⟩ := in3_nI hc6
      obtain ⟨hpos, h10⟩ := hst9 hc1
      refine lv_iload hx hb d_M_flip_14 (lv_at hl 4 rfl) ?_
      refine lv_if_lt (tgt := 78) hx hb d_M_flip_16 rfl (fun hc9 => ?_) (fun hc9 => ?_)
      · --  u < 0
        refine lv_iconst (v := 0) hx hb d_M_flip_78 (by decide) ?_
        refine lv_istore hx hb d_M_flip_79 hl (by decide) rfl (fun ls hl => ?_)
        replace hl : lv_has ls 6 [(5, .int 0), (0, .ref m0), (1, .int x), (2, .int y), (3, .int z), (4, .int u)] := hl
        refine lv_aload_n hx hb d_M_flip_81 rfl (lv_at hl 1 rfl) ?_
        refine lv_iload hx hb d_M_flip_82 (lv_at hl 0 rfl) ?_
        refine lv_if_eq (tgt := 91) hx hb d_M_flip_84 rfl (fun hc10 => ?_) (fun hc10 => by first | exact absurd (by decide) hc10 | exact absurd hc10 (by decide))
        refine lv_iconst (v := 1) hx hb d_M_flip_91 (by decide) ?_
        refine va_put (D := (dC, dI)) (ci := 6) (v := .int 1) (ty := .int) (C := "VotedTripleModel") (T := F_M) (N := 37) hx hb hw in_M ft_M tyok_M nm_M hown hK hP hD hS 0 rfl rfl 0 (by decide) (hw _ k_724) (fun _ h9 => h9) rfl (by decide +kernel) rfl rfl (Nat.le_of_ble_eq_true rfl) d_M_flip_92 (fun H locs hP hD hS => ?_)
        replace hP : va_P (dC, dI) classes [(m0, .inr (6, [.int 1, .int (nI cn), .ref (ga 2), .int (uM 3), .int (uM 4), .int (uM 5), .int (nI sn), .int (uM 7), .ref (ga 8), .ref (ga 9), .ref (ga 10), .ref (ga 11), .ref (ga 12), .ref (ga 13), .ref (ga 14), .ref (ga 15), .ref (ga 16), .ref (ga 17), .ref (ga 18), .ref (ga 19), .ref (ga 20), .ref (ga 21), .ref (ga 22), .ref (ga 23), .int (uM 24), .int (uM 25), .int (nI cm), .int (nI us), .ref (ga 28), .int (nI wt), .ref (ga 30), .ref (ga 31), .ref (ga 32), .int (nI oc), .int (nI ou), .int (nI ow), .ref (ga 36)])), (ga 2, .inl (gc 2, 64, .inl a2)), (ga 8, .inl (gc 8, 24, .inl a8)), (ga 9, .inl (gc 9, 96, .inl a9)), (ga 10, .inl (gc 10, 3, .inl a10))] H := hP
        replace hD : va_D A [(m0, .inr (6, [.int 1, .int (nI cn), .ref (ga 2), .int (uM 3), .int (uM 4), .int (uM 5), .int (nI sn), .int (uM 7), .ref (ga 8), .ref (ga 9), .ref (ga 10), .ref (ga 11), .ref (ga 12), .ref (ga 13), .ref (ga 14), .ref (ga 15), .ref (ga 16), .ref (ga 17), .ref (ga 18), .ref (ga 19), .ref (ga 20), .ref (ga 21), .ref (ga 22), .ref (ga 23), .int (uM 24), .int (uM 25), .int (nI cm), .int (nI us), .ref (ga 28), .int (nI wt), .ref (ga 30), .ref (ga 31), .ref (ga 32), .int (nI oc), .int (nI ou), .int (nI ow), .ref (ga 36)])), (ga 2, .inl (gc 2, 64, .inl a2)), (ga 8, .inl (gc 8, 24, .inl a8)), (ga 9, .inl (gc 9, 96, .inl a9)), (ga 10, .inl (gc 10, 3, .inl a10))] := hD
        refine lv_iload hx hb d_M_flip_95 (lv_at hl 0 rfl) ?_
        refine lv_if_ne (tgt := 101) hx hb d_M_flip_97 rfl (fun hc11 => by first | exact absurd hc11 (by decide) | exact absurd (by decide) hc11) (fun hc11 => ?_)
        have hP9 := hP.sub (ws' := [(m0, .inr (6, oM ga (upc uM 0 1) cn sn cm us wt oc ou ow)), (ga 2, .inl (gc 2, 64, .inl a2)), (ga 8, .inl (gc 8, 24, .inl a8)), (ga 9, .inl (gc 9, 96, .inl a9)), (ga 10, .inl (gc 10, 3, .inl a10))]) [0, 1, 2, 3, 4] rfl
        have hD9 := hD.sub (ws' := [(m0, .inr (6, oM ga (upc uM 0 1) cn sn cm us wt oc ou ow)), (ga 2, .inl (gc 2, 64, .inl a2)), (ga 8, .inl (gc 8, 24, .inl a8)), (ga 9, .inl (gc 9, 96, .inl a9)), (ga 10, .inl (gc 10, 3, .inl a10))]) [0, 1, 2, 3, 4] (by decide) rfl
        have hK9 := hK.sub (tys' := [(gc 2, .int), (gc 8, .int), (gc 9, .int), (gc 10, .int)]) [0, 1, 2, 3] rfl
        refine W.widen (k := 0) (n := 0) (Nat.le_of_ble_eq_true rfl) (Nat.le_of_ble_eq_true rfl) ?_
        exact W.vret hx hb hr (fun t ht hW => ⟨⟨(a8, a9, a10, 1), rfl, ⟨⟨(by repeat' first | with_reducible assumption | with_reducible exact is16_0 | with_reducible exact is16_m _ | with_reducible exact set16' _ | with_reducible apply rgI_upd | with_reducible apply c3_upd | with_reducible apply o3_upd | exact Or.inl rfl | exact ⟨0, by with_reducible assumption, rfl⟩ | omega | assumption), (fun q => (hst9 q).2), (by show (1 : Int32) = _; simp [mmB, hbB, blw, hc1, bI_t hc6, hc9] <;> (intros; simp_all))⟩, (by rw [← hSP, s_M_flip]; try (rw [if_neg hc1]); try (rw [if_neg hc6]); try (rw [if_pos hc9]); all_goals rfl)⟩, by rw [ht]; exact hP9, va_K.moved hW.alike hK9, hD9⟩, hS.F ht⟩) hS.2.2 d_M_flip_100
      · --  ¬ u < 0
        refine lv_iload_n hx hb d_M_flip_19 rfl (lv_at hl 3 rfl) ?_
        refine lv_if_lt (tgt := 78) hx hb d_M_flip_20 rfl (fun hc12 => ?_) (fun hc12 => ?_)
        · --  z < 0
          refine lv_iconst (v := 0) hx hb d_M_flip_78 (by decide) ?_
          refine lv_istore hx hb d_M_flip_79 hl (by decide) rfl (fun ls hl => ?_)
          replace hl : lv_has ls 6 [(5, .int 0), (0, .ref m0), (1, .int x), (2, .int y), (3, .int z), (4, .int u)] := hl
          refine lv_aload_n hx hb d_M_flip_81 rfl (lv_at hl 1 rfl) ?_
          refine lv_iload hx hb d_M_flip_82 (lv_at hl 0 rfl) ?_
          refine lv_if_eq (tgt := 91) hx hb d_M_flip_84 rfl (fun hc13 => ?_) (fun hc13 => by first | exact absurd (by decide) hc13 | exact absurd hc13 (by decide))
          refine lv_iconst (v := 1) hx hb d_M_flip_91 (by decide) ?_
          refine va_put (D := (dC, dI)) (ci := 6) (v := .int 1) (ty := .int) (C := "VotedTripleModel") (T := F_M) (N := 37) hx hb hw in_M ft_M tyok_M nm_M hown hK hP hD hS 0 rfl rfl 0 (by decide) (hw _ k_724) (fun _ h9 => h9) rfl (by decide +kernel) rfl rfl (Nat.le_of_ble_eq_true rfl) d_M_flip_92 (fun H locs hP hD hS => ?_)
          replace hP : va_P (dC, dI) classes [(m0, .inr (6, [.int 1, .int (nI cn), .ref (ga 2), .int (uM 3), .int (uM 4), .int (uM 5), .int (nI sn), .int (uM 7), .ref (ga 8), .ref (ga 9), .ref (ga 10), .ref (ga 11), .ref (ga 12), .ref (ga 13), .ref (ga 14), .ref (ga 15), .ref (ga 16), .ref (ga 17), .ref (ga 18), .ref (ga 19), .ref (ga 20), .ref (ga 21), .ref (ga 22), .ref (ga 23), .int (uM 24), .int (uM 25), .int (nI cm), .int (nI us), .ref (ga 28), .int (nI wt), .ref (ga 30), .ref (ga 31), .ref (ga 32), .int (nI oc), .int (nI ou), .int (nI ow), .ref (ga 36)])), (ga 2, .inl (gc 2, 64, .inl a2)), (ga 8, .inl (gc 8, 24, .inl a8)), (ga 9, .inl (gc 9, 96, .inl a9)), (ga 10, .inl (gc 10, 3, .inl a10))] H := hP
          replace hD : va_D A [(m0, .inr (6, [.int 1, .int (nI cn), .ref (ga 2), .int (uM 3), .int (uM 4), .int (uM 5), .int (nI sn), .int (uM 7), .ref (ga 8), .ref (ga 9), .ref (ga 10), .ref (ga 11), .ref (ga 12), .ref (ga 13), .ref (ga 14), .ref (ga 15), .ref (ga 16), .ref (ga 17), .ref (ga 18), .ref (ga 19), .ref (ga 20), .ref (ga 21), .ref (ga 22), .ref (ga 23), .int (uM 24), .int (uM 25), .int (nI cm), .int (nI us), .ref (ga 28), .int (nI wt), .ref (ga 30), .ref (ga 31), .ref (ga 32), .int (nI oc), .int (nI ou), .int (nI ow), .ref (ga 36)])), (ga 2, .inl (gc 2, 64, .inl a2)), (ga 8, .inl (gc 8, 24, .inl a8)), (ga 9, .inl (gc 9, 96, .inl a9)), (ga 10, .inl (gc 10, 3, .inl a10))] := hD
          refine lv_iload hx hb d_M_flip_95 (lv_at hl 0 rfl) ?_
          refine lv_if_ne (tgt := 101) hx hb d_M_flip_97 rfl (fun hc14 => by first | exact absurd hc14 (by decide) | exact absurd (by decide) hc14) (fun hc14 => ?_)
          have hP9 := hP.sub (ws' := [(m0, .inr (6, oM ga (upc uM 0 1) cn sn cm us wt oc ou ow)), (ga 2, .inl (gc 2, 64, .inl a2)), (ga 8, .inl (gc 8, 24, .inl a8)), (ga 9, .inl (gc 9, 96, .inl a9)), (ga 10, .inl (gc 10, 3, .inl a10))]) [0, 1, 2, 3, 4] rfl
          have hD9 := hD.sub (ws' := [(m0, .inr (6, oM ga (upc uM 0 1) cn sn cm us wt oc ou ow)), (ga 2, .inl (gc 2, 64, .inl a2)), (ga 8, .inl (gc 8, 24, .inl a8)), (ga 9, .inl (gc 9, 96, .inl a9)), (ga 10, .inl (gc 10, 3, .inl a10))]) [0, 1, 2, 3, 4] (by decide) rfl
          have hK9 := hK.sub (tys' := [(gc 2, .int), (gc 8, .int), (gc 9, .int), (gc 10, .int)]) [0, 1, 2, 3] rfl
          refine W.widen (k := 0) (n := 0) (Nat.le_of_ble_eq_true rfl) (Nat.le_of_ble_eq_true rfl) ?_
          exact W.vret hx hb hr (fun t ht hW => ⟨⟨(a8, a9, a10, 1), rfl, ⟨⟨(by repeat' first | with_reducible assumption | with_reducible exact is16_0 | with_reducible exact is16_m _ | with_reducible exact set16' _ | with_reducible apply rgI_upd | with_reducible apply c3_upd | with_reducible apply o3_upd | exact Or.inl rfl | exact ⟨0, by with_reducible assumption, rfl⟩ | omega | assumption), (fun q => (hst9 q).2), (by show (1 : Int32) = _; simp [mmB, hbB, blw, hc1, bI_t hc6, hc9, hc12] <;> (intros; simp_all))⟩, (by rw [← hSP, s_M_flip]; try (rw [if_neg hc1]); try (rw [if_neg hc6]); try (rw [if_neg hc9]); try (rw [if_pos hc12]); all_goals rfl)⟩, by rw [ht]; exact hP9, va_K.moved hW.alike hK9, hD9⟩, hS.F ht⟩) hS.2.2 d_M_flip_100
        · --  ¬ z < 0
          refine lv_iload_n hx hb d_M_flip_23 rfl (lv_at hl 2 rfl) ?_
          refine lv_if_ne (tgt := 40) hx hb d_M_flip_24 rfl (fun hc15 => ?_) (fun hc15 => ?_)
          · --  ¬ y = 0
            refine lv_iload_n hx hb d_M_flip_40 rfl (lv_at hl 2 rfl) ?_
            refine lv_iconst (v := 1) hx hb d_M_flip_41 (by decide) ?_
            refine lv_icmp_ne (tgt := 58) hx hb d_M_flip_42 rfl (fun hc16 => ?_) (fun hc16 => ?_)
            · --  ¬ y = 1
              refine lv_iload_n hx hb d_M_flip_58 rfl (lv_at hl 2 rfl) ?_
              refine lv_iconst (v := 2) hx hb d_M_flip_59 (by decide) ?_
              refine lv_icmp_ne (tgt := 78) hx hb d_M_flip_60 rfl (fun hc17 => ?_) (fun hc17 => ?_)
              · --  ¬ y = 2
                refine lv_iconst (v := 0) hx hb d_M_flip_78 (by decide) ?_
                refine lv_istore hx hb d_M_flip_79 hl (by decide) rfl (fun ls hl => ?_)
                replace hl : lv_has ls 6 [(5, .int 0), (0, .ref m0), (1, .int x), (2, .int y), (3, .int z), (4, .int u)] := hl
                refine lv_aload_n hx hb d_M_flip_81 rfl (lv_at hl 1 rfl) ?_
                refine lv_iload hx hb d_M_flip_82 (lv_at hl 0 rfl) ?_
                refine lv_if_eq (tgt := 91) hx hb d_M_flip_84 rfl (fun hc18 => ?_) (fun hc18 => by first | exact absurd (by decide) hc18 | exact absurd hc18 (by decide))
                refine lv_iconst (v := 1) hx hb d_M_flip_91 (by decide) ?_
                refine va_put (D := (dC, dI)) (ci := 6) (v := .int 1) (ty := .int) (C := "VotedTripleModel") (T := F_M) (N := 37) hx hb hw in_M ft_M tyok_M nm_M hown hK hP hD hS 0 rfl rfl 0 (by decide) (hw _ k_724) (fun _ h9 => h9) rfl (by decide +kernel) rfl rfl (Nat.le_of_ble_eq_true rfl) d_M_flip_92 (fun H locs hP hD hS => ?_)
                replace hP : va_P (dC, dI) classes [(m0, .inr (6, [.int 1, .int (nI cn), .ref (ga 2), .int (uM 3), .int (uM 4), .int (uM 5), .int (nI sn), .int (uM 7), .ref (ga 8), .ref (ga 9), .ref (ga 10), .ref (ga 11), .ref (ga 12), .ref (ga 13), .ref (ga 14), .ref (ga 15), .ref (ga 16), .ref (ga 17), .ref (ga 18), .ref (ga 19), .ref (ga 20), .ref (ga 21), .ref (ga 22), .ref (ga 23), .int (uM 24), .int (uM 25), .int (nI cm), .int (nI us), .ref (ga 28), .int (nI wt), .ref (ga 30), .ref (ga 31), .ref (ga 32), .int (nI oc), .int (nI ou), .int (nI ow), .ref (ga 36)])), (ga 2, .inl (gc 2, 64, .inl a2)), (ga 8, .inl (gc 8, 24, .inl a8)), (ga 9, .inl (gc 9, 96, .inl a9)), (ga 10, .inl (gc 10, 3, .inl a10))] H := hP
                replace hD : va_D A [(m0, .inr (6, [.int 1, .int (nI cn), .ref (ga 2), .int (uM 3), .int (uM 4), .int (uM 5), .int (nI sn), .int (uM 7), .ref (ga 8), .ref (ga 9), .ref (ga 10), .ref (ga 11), .ref (ga 12), .ref (ga 13), .ref (ga 14), .ref (ga 15), .ref (ga 16), .ref (ga 17), .ref (ga 18), .ref (ga 19), .ref (ga 20), .ref (ga 21), .ref (ga 22), .ref (ga 23), .int (uM 24), .int (uM 25), .int (nI cm), .int (nI us), .ref (ga 28), .int (nI wt), .ref (ga 30), .ref (ga 31), .ref (ga 32), .int (nI oc), .int (nI ou), .int (nI ow), .ref (ga 36)])), (ga 2, .inl (gc 2, 64, .inl a2)), (ga 8, .inl (gc 8, 24, .inl a8)), (ga 9, .inl (gc 9, 96, .inl a9)), (ga 10, .inl (gc 10, 3, .inl a10))] := hD
                refine lv_iload hx hb d_M_flip_95 (lv_at hl 0 rfl) ?_
                refine lv_if_ne (tgt := 101) hx hb d_M_flip_97 rfl (fun hc19 => by first | exact absurd hc19 (by decide) | exact absurd (by decide) hc19) (fun hc19 => ?_)
                have hP9 := hP.sub (ws' := [(m0, .inr (6, oM ga (upc uM 0 1) cn sn cm us wt oc ou ow)), (ga 2, .inl (gc 2, 64, .inl a2)), (ga 8, .inl (gc 8, 24, .inl a8)), (ga 9, .inl (gc 9, 96, .inl a9)), (ga 10, .inl (gc 10, 3, .inl a10))]) [0, 1, 2, 3, 4] rfl
                have hD9 := hD.sub (ws' := [(m0, .inr (6, oM ga (upc uM 0 1) cn sn cm us wt oc ou ow)), (ga 2, .inl (gc 2, 64, .inl a2)), (ga 8, .inl (gc 8, 24, .inl a8)), (ga 9, .inl (gc 9, 96, .inl a9)), (ga 10, .inl (gc 10, 3, .inl a10))]) [0, 1, 2, 3, 4] (by decide) rfl
                have hK9 := hK.sub (tys' := [(gc 2, .int), (gc 8, .int), (gc 9, .int), (gc 10, .int)]) [0, 1, 2, 3] rfl
                refine W.widen (k := 0) (n := 0) (Nat.le_of_ble_eq_true rfl) (Nat.le_of_ble_eq_true rfl) ?_
                exact W.vret hx hb hr (fun t ht hW => ⟨⟨(a8, a9, a10, 1), rfl, ⟨⟨(by repeat' first | with_reducible assumption | with_reducible exact is16_0 | with_reducible exact is16_m _ | with_reducible exact set16' _ | with_reducible apply rgI_upd | with_reducible apply c3_upd | with_reducible apply o3_upd | exact Or.inl rfl | exact ⟨0, by with_reducible assumption, rfl⟩ | omega | assumption), (fun q => (hst9 q).2), (by show (1 : Int32) = _; simp [mmB, hbB, blw, hc1, bI_t hc6, hc9, hc12, hc15, hc16, hc17] <;> (intros; simp_all))⟩, (by rw [← hSP, s_M_flip]; try (rw [if_neg hc1]); try (rw [if_neg hc6]); try (rw [if_neg hc9]); try (rw [if_neg hc12]); try (rw [if_neg hc15]); try (rw [if_neg hc16]); try (rw [if_neg hc17]); all_goals rfl)⟩, by rw [ht]; exact hP9, va_K.moved hW.alike hK9, hD9⟩, hS.F ht⟩) hS.2.2 d_M_flip_100
              · --  y = 2
                refine lv_iload_n hx hb d_M_flip_63 rfl (lv_at hl 3 rfl) ?_
                refine lv_if_ne (tgt := 78) hx hb d_M_flip_64 rfl (fun hc20 => ?_) (fun hc20 => ?_)
                · --  ¬ z = 0
                  refine lv_iconst (v := 0) hx hb d_M_flip_78 (by decide) ?_
                  refine lv_istore hx hb d_M_flip_79 hl (by decide) rfl (fun ls hl => ?_)
                  replace hl : lv_has ls 6 [(5, .int 0), (0, .ref m0), (1, .int x), (2, .int y), (3, .int z), (4, .int u)] := hl
                  refine lv_aload_n hx hb d_M_flip_81 rfl (lv_at hl 1 rfl) ?_
                  refine lv_iload hx hb d_M_flip_82 (lv_at hl 0 rfl) ?_
                  refine lv_if_eq (tgt := 91) hx hb d_M_flip_84 rfl (fun hc21 => ?_) (fun hc21 => by first | exact absurd (by decide) hc21 | exact absurd hc21 (by decide))
                  refine lv_iconst (v := 1) hx hb d_M_flip_91 (by decide) ?_
                  refine va_put (D := (dC, dI)) (ci := 6) (v := .int 1) (ty := .int) (C := "VotedTripleModel") (T := F_M) (N := 37) hx hb hw in_M ft_M tyok_M nm_M hown hK hP hD hS 0 rfl rfl 0 (by decide) (hw _ k_724) (fun _ h9 => h9) rfl (by decide +kernel) rfl rfl (Nat.le_of_ble_eq_true rfl) d_M_flip_92 (fun H locs hP hD hS => ?_)
                  replace hP : va_P (dC, dI) classes [(m0, .inr (6, [.int 1, .int (nI cn), .ref (ga 2), .int (uM 3), .int (uM 4), .int (uM 5), .int (nI sn), .int (uM 7), .ref (ga 8), .ref (ga 9), .ref (ga 10), .ref (ga 11), .ref (ga 12), .ref (ga 13), .ref (ga 14), .ref (ga 15), .ref (ga 16), .ref (ga 17), .ref (ga 18), .ref (ga 19), .ref (ga 20), .ref (ga 21), .ref (ga 22), .ref (ga 23), .int (uM 24), .int (uM 25), .int (nI cm), .int (nI us), .ref (ga 28), .int (nI wt), .ref (ga 30), .ref (ga 31), .ref (ga 32), .int (nI oc), .int (nI ou), .int (nI ow), .ref (ga 36)])), (ga 2, .inl (gc 2, 64, .inl a2)), (ga 8, .inl (gc 8, 24, .inl a8)), (ga 9, .inl (gc 9, 96, .inl a9)), (ga 10, .inl (gc 10, 3, .inl a10))] H := hP
                  replace hD : va_D A [(m0, .inr (6, [.int 1, .int (nI cn), .ref (ga 2), .int (uM 3), .int (uM 4), .int (uM 5), .int (nI sn), .int (uM 7), .ref (ga 8), .ref (ga 9), .ref (ga 10), .ref (ga 11), .ref (ga 12), .ref (ga 13), .ref (ga 14), .ref (ga 15), .ref (ga 16), .ref (ga 17), .ref (ga 18), .ref (ga 19), .ref (ga 20), .ref (ga 21), .ref (ga 22), .ref (ga 23), .int (uM 24), .int (uM 25), .int (nI cm), .int (nI us), .ref (ga 28), .int (nI wt), .ref (ga 30), .ref (ga 31), .ref (ga 32), .int (nI oc), .int (nI ou), .int (nI ow), .ref (ga 36)])), (ga 2, .inl (gc 2, 64, .inl a2)), (ga 8, .inl (gc 8, 24, .inl a8)), (ga 9, .inl (gc 9, 96, .inl a9)), (ga 10, .inl (gc 10, 3, .inl a10))] := hD
                  refine lv_iload hx hb d_M_flip_95 (lv_at hl 0 rfl) ?_
                  refine lv_if_ne (tgt := 101) hx hb d_M_flip_97 rfl (fun hc22 => by first | exact absurd hc22 (by decide) | exact absurd (by decide) hc22) (fun hc22 => ?_)
                  have hP9 := hP.sub (ws' := [(m0, .inr (6, oM ga (upc uM 0 1) cn sn cm us wt oc ou ow)), (ga 2, .inl (gc 2, 64, .inl a2)), (ga 8, .inl (gc 8, 24, .inl a8)), (ga 9, .inl (gc 9, 96, .inl a9)), (ga 10, .inl (gc 10, 3, .inl a10))]) [0, 1, 2, 3, 4] rfl
                  have hD9 := hD.sub (ws' := [(m0, .inr (6, oM ga (upc uM 0 1) cn sn cm us wt oc ou ow)), (ga 2, .inl (gc 2, 64, .inl a2)), (ga 8, .inl (gc 8, 24, .inl a8)), (ga 9, .inl (gc 9, 96, .inl a9)), (ga 10, .inl (gc 10, 3, .inl a10))]) [0, 1, 2, 3, 4] (by decide) rfl
                  have hK9 := hK.sub (tys' := [(gc 2, .int), (gc 8, .int), (gc 9, .int), (gc 10, .int)]) [0, 1, 2, 3] rfl
                  refine W.widen (k := 0) (n := 0) (Nat.le_of_ble_eq_true rfl) (Nat.le_of_ble_eq_true rfl) ?_
                  exact W.vret hx hb hr (fun t ht hW => ⟨⟨(a8, a9, a10, 1), rfl, ⟨⟨(by repeat' first | with_reducible assumption | with_reducible exact is16_0 | with_reducible exact is16_m _ | with_reducible exact set16' _ | with_reducible apply rgI_upd | with_reducible apply c3_upd | with_reducible apply o3_upd | exact Or.inl rfl | exact ⟨0, by with_reducible assumption, rfl⟩ | omega | assumption), (fun q => (hst9 q).2), (by show (1 : Int32) = _; simp [mmB, hbB, blw, hc1, bI_t hc6, hc9, hc12, hc15, hc16, hc17, hc20] <;> (intros; simp_all))⟩, (by rw [← hSP, s_M_flip]; try (rw [if_neg hc1]); try (rw [if_neg hc6]); try (rw [if_neg hc9]); try (rw [if_neg hc12]); try (rw [if_neg hc15]); try (rw [if_neg hc16]); try (rw [if_pos hc17]); try (rw [if_neg hc20]); all_goals rfl)⟩, by rw [ht]; exact hP9, va_K.moved hW.alike hK9, hD9⟩, hS.F ht⟩) hS.2.2 d_M_flip_100
                · --  z = 0
                  refine lv_iload hx hb d_M_flip_67 (lv_at hl 4 rfl) ?_
                  refine lv_bipush (v := 6) hx hb d_M_flip_69 (by decide) ?_
                  refine lv_icmp_ge (tgt := 78) hx hb d_M_flip_71 rfl (fun hc23 => ?_) (fun hc23 => ?_)
                  · --  6 ≤ u
                    refine lv_iconst (v := 0) hx hb d_M_flip_78 (by decide) ?_
                    refine lv_istore hx hb d_M_flip_79 hl (by decide) rfl (fun ls hl => ?_)
                    replace hl : lv_has ls 6 [(5, .int 0), (0, .ref m0), (1, .int x), (2, .int y), (3, .int z), (4, .int u)] := hl
                    refine lv_aload_n hx hb d_M_flip_81 rfl (lv_at hl 1 rfl) ?_
                    refine lv_iload hx hb d_M_flip_82 (lv_at hl 0 rfl) ?_
                    refine lv_if_eq (tgt := 91) hx hb d_M_flip_84 rfl (fun hc24 => ?_) (fun hc24 => by first | exact absurd (by decide) hc24 | exact absurd hc24 (by decide))
                    refine lv_iconst (v := 1) hx hb d_M_flip_91 (by decide) ?_
                    refine va_put (D := (dC, dI)) (ci := 6) (v := .int 1) (ty := .int) (C := "VotedTripleModel") (T := F_M) (N := 37) hx hb hw in_M ft_M tyok_M nm_M hown hK hP hD hS 0 rfl rfl 0 (by decide) (hw _ k_724) (fun _ h9 => h9) rfl (by decide +kernel) rfl rfl (Nat.le_of_ble_eq_true rfl) d_M_flip_92 (fun H locs hP hD hS => ?_)
                    replace hP : va_P (dC, dI) classes [(m0, .inr (6, [.int 1, .int (nI cn), .ref (ga 2), .int (uM 3), .int (uM 4), .int (uM 5), .int (nI sn), .int (uM 7), .ref (ga 8), .ref (ga 9), .ref (ga 10), .ref (ga 11), .ref (ga 12), .ref (ga 13), .ref (ga 14), .ref (ga 15), .ref (ga 16), .ref (ga 17), .ref (ga 18), .ref (ga 19), .ref (ga 20), .ref (ga 21), .ref (ga 22), .ref (ga 23), .int (uM 24), .int (uM 25), .int (nI cm), .int (nI us), .ref (ga 28), .int (nI wt), .ref (ga 30), .ref (ga 31), .ref (ga 32), .int (nI oc), .int (nI ou), .int (nI ow), .ref (ga 36)])), (ga 2, .inl (gc 2, 64, .inl a2)), (ga 8, .inl (gc 8, 24, .inl a8)), (ga 9, .inl (gc 9, 96, .inl a9)), (ga 10, .inl (gc 10, 3, .inl a10))] H := hP
                    replace hD : va_D A [(m0, .inr (6, [.int 1, .int (nI cn), .ref (ga 2), .int (uM 3), .int (uM 4), .int (uM 5), .int (nI sn), .int (uM 7), .ref (ga 8), .ref (ga 9), .ref (ga 10), .ref (ga 11), .ref (ga 12), .ref (ga 13), .ref (ga 14), .ref (ga 15), .ref (ga 16), .ref (ga 17), .ref (ga 18), .ref (ga 19), .ref (ga 20), .ref (ga 21), .ref (ga 22), .ref (ga 23), .int (uM 24), .int (uM 25), .int (nI cm), .int (nI us), .ref (ga 28), .int (nI wt), .ref (ga 30), .ref (ga 31), .ref (ga 32), .int (nI oc), .int (nI ou), .int (nI ow), .ref (ga 36)])), (ga 2, .inl (gc 2, 64, .inl a2)), (ga 8, .inl (gc 8, 24, .inl a8)), (ga 9, .inl (gc 9, 96, .inl a9)), (ga 10, .inl (gc 10, 3, .inl a10))] := hD
                    refine lv_iload hx hb d_M_flip_95 (lv_at hl 0 rfl) ?_
                    refine lv_if_ne (tgt := 101) hx hb d_M_flip_97 rfl (fun hc25 => by first | exact absurd hc25 (by decide) | exact absurd (by decide) hc25) (fun hc25 => ?_)
                    have hP9 := hP.sub (ws' := [(m0, .inr (6, oM ga (upc uM 0 1) cn sn cm us wt oc ou ow)), (ga 2, .inl (gc 2, 64, .inl a2)), (ga 8, .inl (gc 8, 24, .inl a8)), (ga 9, .inl (gc 9, 96, .inl a9)), (ga 10, .inl (gc 10, 3, .inl a10))]) [0, 1, 2, 3, 4] rfl
                    have hD9 := hD.sub (ws' := [(m0, .inr (6, oM ga (upc uM 0 1) cn sn cm us wt oc ou ow)), (ga 2, .inl (gc 2, 64, .inl a2)), (ga 8, .inl (gc 8, 24, .inl a8)), (ga 9, .inl (gc 9, 96, .inl a9)), (ga 10, .inl (gc 10, 3, .inl a10))]) [0, 1, 2, 3, 4] (by decide) rfl
                    have hK9 := hK.sub (tys' := [(gc 2, .int), (gc 8, .int), (gc 9, .int), (gc 10, .int)]) [0, 1, 2, 3] rfl
                    refine W.widen (k := 0) (n := 0) (Nat.le_of_ble_eq_true rfl) (Nat.le_of_ble_eq_true rfl) ?_
                    exact W.vret hx hb hr (fun t ht hW => ⟨⟨(a8, a9, a10, 1), rfl, ⟨⟨(by repeat' first | with_reducible assumption | with_reducible exact is16_0 | with_reducible exact is16_m _ | with_reducible exact set16' _ | with_reducible apply rgI_upd | with_reducible apply c3_upd | with_reducible apply o3_upd | exact Or.inl rfl | exact ⟨0, by with_reducible assumption, rfl⟩ | omega | assumption), (fun q => (hst9 q).2), (by show (1 : Int32) = _; simp [mmB, hbB, blw, hc1, bI_t hc6, hc9, hc12, hc15, hc16, hc17, hc20, hc23] <;> (intros; simp_all))⟩, (by rw [← hSP, s_M_flip]; try (rw [if_neg hc1]); try (rw [if_neg hc6]); try (rw [if_neg hc9]); try (rw [if_neg hc12]); try (rw [if_neg hc15]); try (rw [if_neg hc16]); try (rw [if_pos hc17]); try (rw [if_pos hc20]); try (rw [if_pos hc23]); all_goals rfl)⟩, by rw [ht]; exact hP9, va_K.moved hW.alike hK9, hD9⟩, hS.F ht⟩) hS.2.2 d_M_flip_100
                  · --  ¬ 6 ≤ u
                    refine lv_iconst (v := 1) hx hb d_M_flip_74 (by decide) ?_
                    refine lv_goto (tgt := 79) hx hb d_M_flip_75 rfl ?_
                    refine lv_istore hx hb d_M_flip_79 hl (by decide) rfl (fun ls hl => ?_)
                    replace hl : lv_has ls 6 [(5, .int 1), (0, .ref m0), (1, .int x), (2, .int y), (3, .int z), (4, .int u)] := hl
                    refine lv_aload_n hx hb d_M_flip_81 rfl (lv_at hl 1 rfl) ?_
                    refine lv_iload hx hb d_M_flip_82 (lv_at hl 0 rfl) ?_
                    refine lv_if_eq (tgt := 91) hx hb d_M_flip_84 rfl (fun hc26 => by first | exact absurd hc26 (by decide) | exact absurd (by decide) hc26) (fun hc26 => ?_)
                    refine lv_iconst (v := 0) hx hb d_M_flip_87 (by decide) ?_
                    refine lv_goto (tgt := 92) hx hb d_M_flip_88 rfl ?_
                    refine va_put (D := (dC, dI)) (ci := 6) (v := .int 0) (ty := .int) (C := "VotedTripleModel") (T := F_M) (N := 37) hx hb hw in_M ft_M tyok_M nm_M hown hK hP hD hS 0 rfl rfl 0 (by decide) (hw _ k_724) (fun _ h9 => h9) rfl (by decide +kernel) rfl rfl (Nat.le_of_ble_eq_true rfl) d_M_flip_92 (fun H locs hP hD hS => ?_)
                    replace hP : va_P (dC, dI) classes [(m0, .inr (6, [.int 0, .int (nI cn), .ref (ga 2), .int (uM 3), .int (uM 4), .int (uM 5), .int (nI sn), .int (uM 7), .ref (ga 8), .ref (ga 9), .ref (ga 10), .ref (ga 11), .ref (ga 12), .ref (ga 13), .ref (ga 14), .ref (ga 15), .ref (ga 16), .ref (ga 17), .ref (ga 18), .ref (ga 19), .ref (ga 20), .ref (ga 21), .ref (ga 22), .ref (ga 23), .int (uM 24), .int (uM 25), .int (nI cm), .int (nI us), .ref (ga 28), .int (nI wt), .ref (ga 30), .ref (ga 31), .ref (ga 32), .int (nI oc), .int (nI ou), .int (nI ow), .ref (ga 36)])), (ga 2, .inl (gc 2, 64, .inl a2)), (ga 8, .inl (gc 8, 24, .inl a8)), (ga 9, .inl (gc 9, 96, .inl a9)), (ga 10, .inl (gc 10, 3, .inl a10))] H := hP
                    replace hD : va_D A [(m0, .inr (6, [.int 0, .int (nI cn), .ref (ga 2), .int (uM 3), .int (uM 4), .int (uM 5), .int (nI sn), .int (uM 7), .ref (ga 8), .ref (ga 9), .ref (ga 10), .ref (ga 11), .ref (ga 12), .ref (ga 13), .ref (ga 14), .ref (ga 15), .ref (ga 16), .ref (ga 17), .ref (ga 18), .ref (ga 19), .ref (ga 20), .ref (ga 21), .ref (ga 22), .ref (ga 23), .int (uM 24), .int (uM 25), .int (nI cm), .int (nI us), .ref (ga 28), .int (nI wt), .ref (ga 30), .ref (ga 31), .ref (ga 32), .int (nI oc), .int (nI ou), .int (nI ow), .ref (ga 36)])), (ga 2, .inl (gc 2, 64, .inl a2)), (ga 8, .inl (gc 8, 24, .inl a8)), (ga 9, .inl (gc 9, 96, .inl a9)), (ga 10, .inl (gc 10, 3, .inl a10))] := hD
                    refine lv_iload hx hb d_M_flip_95 (lv_at hl 0 rfl) ?_
                    refine lv_if_ne (tgt := 101) hx hb d_M_flip_97 rfl (fun hc27 => ?_) (fun hc27 => by first | exact absurd (by decide) hc27 | exact absurd hc27 (by decide))
                    refine lv_iload_n hx hb d_M_flip_101 rfl (lv_at hl 3 rfl) ?_
                    refine lv_if_ne (tgt := 123) hx hb d_M_flip_102 rfl (fun hc28 => ?_) (fun hc28 => by first | exact absurd (hc15) hc28 | exact absurd hc28 (hc15))
                    refine lv_iload_n hx hb d_M_flip_123 rfl (lv_at hl 3 rfl) ?_
                    refine lv_iconst (v := 1) hx hb d_M_flip_124 (by decide) ?_
                    refine lv_icmp_ne (tgt := 146) hx hb d_M_flip_125 rfl (fun hc29 => ?_) (fun hc29 => by first | exact absurd (hc16) hc29 | exact absurd hc29 (hc16))
                    refine lv_iload_n hx hb d_M_flip_146 rfl (lv_at hl 3 rfl) ?_
                    refine lv_iconst (v := 2) hx hb d_M_flip_147 (by decide) ?_
                    refine lv_icmp_ne (tgt := 173) hx hb d_M_flip_148 rfl (fun hc30 => by first | exact absurd hc30 (hc17) | exact absurd (hc17) hc30) (fun hc30 => ?_)
                    refine lv_aload_n hx hb d_M_flip_151 rfl (lv_at hl 1 rfl) ?_
                    refine va_get (D := (dC, dI)) (ci := 6) (v := .ref (ga 10)) (C := "VotedTripleModel") (T := F_M) (N := 37) hx hb hw in_M hown hK hP 0 rfl rfl 10 (by decide) (hw _ k_734) (fun _ h9 => h9) rfl d_M_flip_152 ?_
                    refine lv_iload_n hx hb d_M_flip_155 rfl (lv_at hl 2 rfl) ?_
                    refine lv_aload_n hx hb d_M_flip_156 rfl (lv_at hl 1 rfl) ?_
                    refine va_get (D := (dC, dI)) (ci := 6) (v := .ref (ga 10)) (C := "VotedTripleModel") (T := F_M) (N := 37) hx hb hw in_M hown hK hP 0 rfl rfl 10 (by decide) (hw _ k_734) (fun _ h9 => h9) rfl d_M_flip_157 ?_
                    refine lv_iload_n hx hb d_M_flip_160 rfl (lv_at hl 2 rfl) ?_
                    refine va_iald hx hb hK hP 4 3 rfl rfl (mi_in hmi hmk) d_M_flip_161 ?_
                    refine lv_iconst (v := 1) hx hb d_M_flip_162 (by decide) ?_
                    refine lv_iload hx hb d_M_flip_163 (lv_at hl 5 rfl) ?_
                    refine lv_ishl hx hb d_M_flip_165 ?_
                    refine lv_ixor hx hb d_M_flip_166 ?_
                    refine lv_aload_n hx hb d_M_flip_167 rfl (lv_at hl 1 rfl) ?_
                    refine va_get (D := (dC, dI)) (ci := 6) (v := .int (nI cn)) (C := "VotedTripleModel") (T := F_M) (N := 37) hx hb hw in_M hown hK hP 0 rfl rfl 1 (by decide) (hw _ k_725) (fun _ h9 => h9) rfl d_M_flip_168 ?_
                    refine lv_irem hx hb d_M_flip_171 (sz0 hpos hc.1) ?_
                    obtain ⟨kc, hkc, ec⟩ := c3_at h10 hmi hmk
                    obtain ⟨k2, hk2, e2⟩ := cnt_xor ⟨kc, by have := hc.1; omega, ec⟩ (in_of (N := 6) rfl hc9 hc23)
                    have hq9 := remc e2 hk2 hpos hc.1
                    refine va_iast hx hb hK hP hD hS 4 3 rfl rfl (mi_in hmi hmk) d_M_flip_172 (fun H locs hP hD hS => ?_)
                    replace hP : va_P (dC, dI) classes [(m0, .inr (6, [.int 0, .int (nI cn), .ref (ga 2), .int (uM 3), .int (uM 4), .int (uM 5), .int (nI sn), .int (uM 7), .ref (ga 8), .ref (ga 9), .ref (ga 10), .ref (ga 11), .ref (ga 12), .ref (ga 13), .ref (ga 14), .ref (ga 15), .ref (ga 16), .ref (ga 17), .ref (ga 18), .ref (ga 19), .ref (ga 20), .ref (ga 21), .ref (ga 22), .ref (ga 23), .int (uM 24), .int (uM 25), .int (nI cm), .int (nI us), .ref (ga 28), .int (nI wt), .ref (ga 30), .ref (ga 31), .ref (ga 32), .int (nI oc), .int (nI ou), .int (nI ow), .ref (ga 36)])), (ga 2, .inl (gc 2, 64, .inl a2)), (ga 8, .inl (gc 8, 24, .inl a8)), (ga 9, .inl (gc 9, 96, .inl a9)), (ga 10, .inl (gc 10, 3, .inl (upd a10 (Int32.toNatClampNeg x) (((a10 (Int32.toNatClampNeg x)) ^^^ ((1 : Int32) <<< (u &&& 31))) - ((a10 (Int32.toNatClampNeg x)) ^^^ ((1 : Int32) <<< (u &&& 31))) / (nI cn) * (nI cn)))))] H := hP
                    replace hD : va_D A [(m0, .inr (6, [.int 0, .int (nI cn), .ref (ga 2), .int (uM 3), .int (uM 4), .int (uM 5), .int (nI sn), .int (uM 7), .ref (ga 8), .ref (ga 9), .ref (ga 10), .ref (ga 11), .ref (ga 12), .ref (ga 13), .ref (ga 14), .ref (ga 15), .ref (ga 16), .ref (ga 17), .ref (ga 18), .ref (ga 19), .ref (ga 20), .ref (ga 21), .ref (ga 22), .ref (ga 23), .int (uM 24), .int (uM 25), .int (nI cm), .int (nI us), .ref (ga 28), .int (nI wt), .ref (ga 30), .ref (ga 31), .ref (ga 32), .int (nI oc), .int (nI ou), .int (nI ow), .ref (ga 36)])), (ga 2, .inl (gc 2, 64, .inl a2)), (ga 8, .inl (gc 8, 24, .inl a8)), (ga 9, .inl (gc 9, 96, .inl a9)), (ga 10, .inl (gc 10, 3, .inl (upd a10 (Int32.toNatClampNeg x) (((a10 (Int32.toNatClampNeg x)) ^^^ ((1 : Int32) <<< (u &&& 31))) - ((a10 (Int32.toNatClampNeg x)) ^^^ ((1 : Int32) <<< (u &&& 31))) / (nI cn) * (nI cn)))))] := hD
                    have hP9 := hP.sub (ws' := [(m0, .inr (6, oM ga (upc uM 0 0) cn sn cm us wt oc ou ow)), (ga 2, .inl (gc 2, 64, .inl a2)), (ga 8, .inl (gc 8, 24, .inl a8)), (ga 9, .inl (gc 9, 96, .inl a9)), (ga 10, .inl (gc 10, 3, .inl (upd a10 (Int32.toNatClampNeg x) (((a10 (Int32.toNatClampNeg x)) ^^^ ((1 : Int32) <<< (u &&& 31))) - ((a10 (Int32.toNatClampNeg x)) ^^^ ((1 : Int32) <<< (u &&& 31))) / (nI cn) * (nI cn)))))]) [0, 1, 2, 3, 4] rfl
                    have hD9 := hD.sub (ws' := [(m0, .inr (6, oM ga (upc uM 0 0) cn sn cm us wt oc ou ow)), (ga 2, .inl (gc 2, 64, .inl a2)), (ga 8, .inl (gc 8, 24, .inl a8)), (ga 9, .inl (gc 9, 96, .inl a9)), (ga 10, .inl (gc 10, 3, .inl (upd a10 (Int32.toNatClampNeg x) (((a10 (Int32.toNatClampNeg x)) ^^^ ((1 : Int32) <<< (u &&& 31))) - ((a10 (Int32.toNatClampNeg x)) ^^^ ((1 : Int32) <<< (u &&& 31))) / (nI cn) * (nI cn)))))]) [0, 1, 2, 3, 4] (by decide) rfl
                    have hK9 := hK.sub (tys' := [(gc 2, .int), (gc 8, .int), (gc 9, .int), (gc 10, .int)]) [0, 1, 2, 3] rfl
                    refine W.widen (k := 0) (n := 0) (Nat.le_of_ble_eq_true rfl) (Nat.le_of_ble_eq_true rfl) ?_
                    exact W.vret hx hb hr (fun t ht hW => ⟨⟨(a8, a9, upd a10 (Int32.toNatClampNeg x) (((a10 (Int32.toNatClampNeg x)) ^^^ ((1 : Int32) <<< (u &&& 31))) - ((a10 (Int32.toNatClampNeg x)) ^^^ ((1 : Int32) <<< (u &&& 31))) / (nI cn) * (nI cn)), 0), rfl, ⟨⟨(by repeat' first | with_reducible assumption | with_reducible exact is16_0 | with_reducible exact is16_m _ | with_reducible exact set16' _ | with_reducible apply rgI_upd | with_reducible apply c3_upd | with_reducible apply o3_upd | exact Or.inl rfl | exact ⟨0, by with_reducible assumption, rfl⟩ | omega | assumption), (fun q => c3_upd (hst9 q).2 hq9), (by show (0 : Int32) = _; simp [mmB, hbB, blw, hc1, bI_t hc6, hc9, hc12, hc15, hc16, hc17, hc20, hc23] <;> (intros; simp_all))⟩, (by rw [← hSP, s_M_flip]; try (rw [if_neg hc1]); try (rw [if_neg hc6]); try (rw [if_neg hc9]); try (rw [if_neg hc12]); try (rw [if_neg hc15]); try (rw [if_neg hc16]); try (rw [if_pos hc17]); try (rw [if_pos hc20]); try (rw [if_neg hc23]); all_goals rfl)⟩, by rw [ht]; exact hP9, va_K.moved hW.alike hK9, hD9⟩, hS.F ht⟩) hS.2.2 d_M_flip_173
            · --  y = 1
              refine lv_iload_n hx hb d_M_flip_45 rfl (lv_at hl 3 rfl) ?_
              refine lv_bipush (v := 32) hx hb d_M_flip_46 (by decide) ?_
              refine lv_icmp_ge (tgt := 58) hx hb d_M_flip_48 rfl (fun hc31 => ?_) (fun hc31 => ?_)
              · --  32 ≤ z
                refine lv_iload_n hx hb d_M_flip_58 rfl (lv_at hl 2 rfl) ?_
                refine lv_iconst (v := 2) hx hb d_M_flip_59 (by decide) ?_
                refine lv_icmp_ne (tgt := 78) hx hb d_M_flip_60 rfl (fun hc32 => ?_) (fun hc32 => ?_)
                · --  ¬ y = 2
                  refine lv_iconst (v := 0) hx hb d_M_flip_78 (by decide) ?_
                  refine lv_istore hx hb d_M_flip_79 hl (by decide) rfl (fun ls hl => ?_)
                  replace hl : lv_has ls 6 [(5, .int 0), (0, .ref m0), (1, .int x), (2, .int y), (3, .int z), (4, .int u)] := hl
                  refine lv_aload_n hx hb d_M_flip_81 rfl (lv_at hl 1 rfl) ?_
                  refine lv_iload hx hb d_M_flip_82 (lv_at hl 0 rfl) ?_
                  refine lv_if_eq (tgt := 91) hx hb d_M_flip_84 rfl (fun hc33 => ?_) (fun hc33 => by first | exact absurd (by decide) hc33 | exact absurd hc33 (by decide))
                  refine lv_iconst (v := 1) hx hb d_M_flip_91 (by decide) ?_
                  refine va_put (D := (dC, dI)) (ci := 6) (v := .int 1) (ty := .int) (C := "VotedTripleModel") (T := F_M) (N := 37) hx hb hw in_M ft_M tyok_M nm_M hown hK hP hD hS 0 rfl rfl 0 (by decide) (hw _ k_724) (fun _ h9 => h9) rfl (by decide +kernel) rfl rfl (Nat.le_of_ble_eq_true rfl) d_M_flip_92 (fun H locs hP hD hS => ?_)
                  replace hP : va_P (dC, dI) classes [(m0, .inr (6, [.int 1, .int (nI cn), .ref (ga 2), .int (uM 3), .int (uM 4), .int (uM 5), .int (nI sn), .int (uM 7), .ref (ga 8), .ref (ga 9), .ref (ga 10), .ref (ga 11), .ref (ga 12), .ref (ga 13), .ref (ga 14), .ref (ga 15), .ref (ga 16), .ref (ga 17), .ref (ga 18), .ref (ga 19), .ref (ga 20), .ref (ga 21), .ref (ga 22), .ref (ga 23), .int (uM 24), .int (uM 25), .int (nI cm), .int (nI us), .ref (ga 28), .int (nI wt), .ref (ga 30), .ref (ga 31), .ref (ga 32), .int (nI oc), .int (nI ou), .int (nI ow), .ref (ga 36)])), (ga 2, .inl (gc 2, 64, .inl a2)), (ga 8, .inl (gc 8, 24, .inl a8)), (ga 9, .inl (gc 9, 96, .inl a9)), (ga 10, .inl (gc 10, 3, .inl a10))] H := hP
                  replace hD : va_D A [(m0, .inr (6, [.int 1, .int (nI cn), .ref (ga 2), .int (uM 3), .int (uM 4), .int (uM 5), .int (nI sn), .int (uM 7), .ref (ga 8), .ref (ga 9), .ref (ga 10), .ref (ga 11), .ref (ga 12), .ref (ga 13), .ref (ga 14), .ref (ga 15), .ref (ga 16), .ref (ga 17), .ref (ga 18), .ref (ga 19), .ref (ga 20), .ref (ga 21), .ref (ga 22), .ref (ga 23), .int (uM 24), .int (uM 25), .int (nI cm), .int (nI us), .ref (ga 28), .int (nI wt), .ref (ga 30), .ref (ga 31), .ref (ga 32), .int (nI oc), .int (nI ou), .int (nI ow), .ref (ga 36)])), (ga 2, .inl (gc 2, 64, .inl a2)), (ga 8, .inl (gc 8, 24, .inl a8)), (ga 9, .inl (gc 9, 96, .inl a9)), (ga 10, .inl (gc 10, 3, .inl a10))] := hD
                  refine lv_iload hx hb d_M_flip_95 (lv_at hl 0 rfl) ?_
                  refine lv_if_ne (tgt := 101) hx hb d_M_flip_97 rfl (fun hc34 => by first | exact absurd hc34 (by decide) | exact absurd (by decide) hc34) (fun hc34 => ?_)
                  have hP9 := hP.sub (ws' := [(m0, .inr (6, oM ga (upc uM 0 1) cn sn cm us wt oc ou ow)), (ga 2, .inl (gc 2, 64, .inl a2)), (ga 8, .inl (gc 8, 24, .inl a8)), (ga 9, .inl (gc 9, 96, .inl a9)), (ga 10, .inl (gc 10, 3, .inl a10))]) [0, 1, 2, 3, 4] rfl
                  have hD9 := hD.sub (ws' := [(m0, .inr (6, oM ga (upc uM 0 1) cn sn cm us wt oc ou ow)), (ga 2, .inl (gc 2, 64, .inl a2)), (ga 8, .inl (gc 8, 24, .inl a8)), (ga 9, .inl (gc 9, 96, .inl a9)), (ga 10, .inl (gc 10, 3, .inl a10))]) [0, 1, 2, 3, 4] (by decide) rfl
                  have hK9 := hK.sub (tys' := [(gc 2, .int), (gc 8, .int), (gc 9, .int), (gc 10, .int)]) [0, 1, 2, 3] rfl
                  refine W.widen (k := 0) (n := 0) (Nat.le_of_ble_eq_true rfl) (Nat.le_of_ble_eq_true rfl) ?_
                  exact W.vret hx hb hr (fun t ht hW => ⟨⟨(a8, a9, a10, 1), rfl, ⟨⟨(by repeat' first | with_reducible assumption | with_reducible exact is16_0 | with_reducible exact is16_m _ | with_reducible exact set16' _ | with_reducible apply rgI_upd | with_reducible apply c3_upd | with_reducible apply o3_upd | exact Or.inl rfl | exact ⟨0, by with_reducible assumption, rfl⟩ | omega | assumption), (fun q => (hst9 q).2), (by show (1 : Int32) = _; simp [mmB, hbB, blw, hc1, bI_t hc6, hc9, hc12, hc15, hc16, hc31, hc32] <;> (intros; simp_all))⟩, (by rw [← hSP, s_M_flip]; try (rw [if_neg hc1]); try (rw [if_neg hc6]); try (rw [if_neg hc9]); try (rw [if_neg hc12]); try (rw [if_neg hc15]); try (rw [if_pos hc16]); try (rw [if_pos hc31]); try (rw [if_neg hc32]); all_goals rfl)⟩, by rw [ht]; exact hP9, va_K.moved hW.alike hK9, hD9⟩, hS.F ht⟩) hS.2.2 d_M_flip_100
                · --  y = 2
                  exact absurd (hc16.symm.trans hc32) (by decide)
              · --  ¬ 32 ≤ z
                refine lv_iload hx hb d_M_flip_51 (lv_at hl 4 rfl) ?_
                refine lv_bipush (v := 22) hx hb d_M_flip_53 (by decide) ?_
                refine lv_icmp_lt (tgt := 74) hx hb d_M_flip_55 rfl (fun hc35 => ?_) (fun hc35 => ?_)
                · --  u < 22
                  refine lv_iconst (v := 1) hx hb d_M_flip_74 (by decide) ?_
                  refine lv_goto (tgt := 79) hx hb d_M_flip_75 rfl ?_
                  refine lv_istore hx hb d_M_flip_79 hl (by decide) rfl (fun ls hl => ?_)
                  replace hl : lv_has ls 6 [(5, .int 1), (0, .ref m0), (1, .int x), (2, .int y), (3, .int z), (4, .int u)] := hl
                  refine lv_aload_n hx hb d_M_flip_81 rfl (lv_at hl 1 rfl) ?_
                  refine lv_iload hx hb d_M_flip_82 (lv_at hl 0 rfl) ?_
                  refine lv_if_eq (tgt := 91) hx hb d_M_flip_84 rfl (fun hc36 => by first | exact absurd hc36 (by decide) | exact absurd (by decide) hc36) (fun hc36 => ?_)
                  refine lv_iconst (v := 0) hx hb d_M_flip_87 (by decide) ?_
                  refine lv_goto (tgt := 92) hx hb d_M_flip_88 rfl ?_
                  refine va_put (D := (dC, dI)) (ci := 6) (v := .int 0) (ty := .int) (C := "VotedTripleModel") (T := F_M) (N := 37) hx hb hw in_M ft_M tyok_M nm_M hown hK hP hD hS 0 rfl rfl 0 (by decide) (hw _ k_724) (fun _ h9 => h9) rfl (by decide +kernel) rfl rfl (Nat.le_of_ble_eq_true rfl) d_M_flip_92 (fun H locs hP hD hS => ?_)
                  replace hP : va_P (dC, dI) classes [(m0, .inr (6, [.int 0, .int (nI cn), .ref (ga 2), .int (uM 3), .int (uM 4), .int (uM 5), .int (nI sn), .int (uM 7), .ref (ga 8), .ref (ga 9), .ref (ga 10), .ref (ga 11), .ref (ga 12), .ref (ga 13), .ref (ga 14), .ref (ga 15), .ref (ga 16), .ref (ga 17), .ref (ga 18), .ref (ga 19), .ref (ga 20), .ref (ga 21), .ref (ga 22), .ref (ga 23), .int (uM 24), .int (uM 25), .int (nI cm), .int (nI us), .ref (ga 28), .int (nI wt), .ref (ga 30), .ref (ga 31), .ref (ga 32), .int (nI oc), .int (nI ou), .int (nI ow), .ref (ga 36)])), (ga 2, .inl (gc 2, 64, .inl a2)), (ga 8, .inl (gc 8, 24, .inl a8)), (ga 9, .inl (gc 9, 96, .inl a9)), (ga 10, .inl (gc 10, 3, .inl a10))] H := hP
                  replace hD : va_D A [(m0, .inr (6, [.int 0, .int (nI cn), .ref (ga 2), .int (uM 3), .int (uM 4), .int (uM 5), .int (nI sn), .int (uM 7), .ref (ga 8), .ref (ga 9), .ref (ga 10), .ref (ga 11), .ref (ga 12), .ref (ga 13), .ref (ga 14), .ref (ga 15), .ref (ga 16), .ref (ga 17), .ref (ga 18), .ref (ga 19), .ref (ga 20), .ref (ga 21), .ref (ga 22), .ref (ga 23), .int (uM 24), .int (uM 25), .int (nI cm), .int (nI us), .ref (ga 28), .int (nI wt), .ref (ga 30), .ref (ga 31), .ref (ga 32), .int (nI oc), .int (nI ou), .int (nI ow), .ref (ga 36)])), (ga 2, .inl (gc 2, 64, .inl a2)), (ga 8, .inl (gc 8, 24, .inl a8)), (ga 9, .inl (gc 9, 96, .inl a9)), (ga 10, .inl (gc 10, 3, .inl a10))] := hD
                  refine lv_iload hx hb d_M_flip_95 (lv_at hl 0 rfl) ?_
                  refine lv_if_ne (tgt := 101) hx hb d_M_flip_97 rfl (fun hc37 => ?_) (fun hc37 => by first | exact absurd (by decide) hc37 | exact absurd hc37 (by decide))
                  refine lv_iload_n hx hb d_M_flip_101 rfl (lv_at hl 3 rfl) ?_
                  refine lv_if_ne (tgt := 123) hx hb d_M_flip_102 rfl (fun hc38 => ?_) (fun hc38 => by first | exact absurd (hc15) hc38 | exact absurd hc38 (hc15))
                  refine lv_iload_n hx hb d_M_flip_123 rfl (lv_at hl 3 rfl) ?_
                  refine lv_iconst (v := 1) hx hb d_M_flip_124 (by decide) ?_
                  refine lv_icmp_ne (tgt := 146) hx hb d_M_flip_125 rfl (fun hc39 => by first | exact absurd hc39 (hc16) | exact absurd (hc16) hc39) (fun hc39 => ?_)
                  refine lv_aload_n hx hb d_M_flip_128 rfl (lv_at hl 1 rfl) ?_
                  refine va_get (D := (dC, dI)) (ci := 6) (v := .ref (ga 9)) (C := "VotedTripleModel") (T := F_M) (N := 37) hx hb hw in_M hown hK hP 0 rfl rfl 9 (by decide) (hw _ k_733) (fun _ h9 => h9) rfl d_M_flip_129 ?_
                  refine lv_bipush (v := 32) hx hb d_M_flip_132 (by decide) ?_
                  refine lv_iload_n hx hb d_M_flip_134 rfl (lv_at hl 2 rfl) ?_
                  refine lv_imul hx hb d_M_flip_135 ?_
                  refine lv_iload_n hx hb d_M_flip_136 rfl (lv_at hl 4 rfl) ?_
                  refine lv_iadd hx hb d_M_flip_137 ?_
                  refine lv_dup2_11 hx hb d_M_flip_138 rfl rfl ?_
                  refine va_iald hx hb hK hP 3 2 rfl rfl (ix32 hmi hmk (in_of (N := 32) rfl hc12 hc31)) d_M_flip_139 ?_
                  refine lv_iconst (v := 1) hx hb d_M_flip_140 (by decide) ?_
                  refine lv_iload hx hb d_M_flip_141 (lv_at hl 5 rfl) ?_
                  refine lv_ishl hx hb d_M_flip_143 ?_
                  refine lv_ixor hx hb d_M_flip_144 ?_
                  refine va_iast hx hb hK hP hD hS 3 2 rfl rfl (ix32 hmi hmk (in_of (N := 32) rfl hc12 hc31)) d_M_flip_145 (fun H locs hP hD hS => ?_)
                  replace hP : va_P (dC, dI) classes [(m0, .inr (6, [.int 0, .int (nI cn), .ref (ga 2), .int (uM 3), .int (uM 4), .int (uM 5), .int (nI sn), .int (uM 7), .ref (ga 8), .ref (ga 9), .ref (ga 10), .ref (ga 11), .ref (ga 12), .ref (ga 13), .ref (ga 14), .ref (ga 15), .ref (ga 16), .ref (ga 17), .ref (ga 18), .ref (ga 19), .ref (ga 20), .ref (ga 21), .ref (ga 22), .ref (ga 23), .int (uM 24), .int (uM 25), .int (nI cm), .int (nI us), .ref (ga 28), .int (nI wt), .ref (ga 30), .ref (ga 31), .ref (ga 32), .int (nI oc), .int (nI ou), .int (nI ow), .ref (ga 36)])), (ga 2, .inl (gc 2, 64, .inl a2)), (ga 8, .inl (gc 8, 24, .inl a8)), (ga 9, .inl (gc 9, 96, .inl (upd a9 (Int32.toNatClampNeg (((32 : Int32) * x) + z)) ((a9 (Int32.toNatClampNeg (((32 : Int32) * x) + z))) ^^^ ((1 : Int32) <<< (u &&& 31)))))), (ga 10, .inl (gc 10, 3, .inl a10))] H := hP
                  replace hD : va_D A [(m0, .inr (6, [.int 0, .int (nI cn), .ref (ga 2), .int (uM 3), .int (uM 4), .int (uM 5), .int (nI sn), .int (uM 7), .ref (ga 8), .ref (ga 9), .ref (ga 10), .ref (ga 11), .ref (ga 12), .ref (ga 13), .ref (ga 14), .ref (ga 15), .ref (ga 16), .ref (ga 17), .ref (ga 18), .ref (ga 19), .ref (ga 20), .ref (ga 21), .ref (ga 22), .ref (ga 23), .int (uM 24), .int (uM 25), .int (nI cm), .int (nI us), .ref (ga 28), .int (nI wt), .ref (ga 30), .ref (ga 31), .ref (ga 32), .int (nI oc), .int (nI ou), .int (nI ow), .ref (ga 36)])), (ga 2, .inl (gc 2, 64, .inl a2)), (ga 8, .inl (gc 8, 24, .inl a8)), (ga 9, .inl (gc 9, 96, .inl (upd a9 (Int32.toNatClampNeg (((32 : Int32) * x) + z)) ((a9 (Int32.toNatClampNeg (((32 : Int32) * x) + z))) ^^^ ((1 : Int32) <<< (u &&& 31)))))), (ga 10, .inl (gc 10, 3, .inl a10))] := hD
                  refine lv_iload_n hx hb d_M_flip_146 rfl (lv_at hl 3 rfl) ?_
                  refine lv_iconst (v := 2) hx hb d_M_flip_147 (by decide) ?_
                  refine lv_icmp_ne (tgt := 173) hx hb d_M_flip_148 rfl (fun hc40 => ?_) (fun hc40 => ?_)
                  · --  ¬ y = 2
                    have hP9 := hP.sub (ws' := [(m0, .inr (6, oM ga (upc uM 0 0) cn sn cm us wt oc ou ow)), (ga 2, .inl (gc 2, 64, .inl a2)), (ga 8, .inl (gc 8, 24, .inl a8)), (ga 9, .inl (gc 9, 96, .inl (upd a9 (Int32.toNatClampNeg (((32 : Int32) * x) + z)) ((a9 (Int32.toNatClampNeg (((32 : Int32) * x) + z))) ^^^ ((1 : Int32) <<< (u &&& 31)))))), (ga 10, .inl (gc 10, 3, .inl a10))]) [0, 1, 2, 3, 4] rfl
                    have hD9 := hD.sub (ws' := [(m0, .inr (6, oM ga (upc uM 0 0) cn sn cm us wt oc ou ow)), (ga 2, .inl (gc 2, 64, .inl a2)), (ga 8, .inl (gc 8, 24, .inl a8)), (ga 9, .inl (gc 9, 96, .inl (upd a9 (Int32.toNatClampNeg (((32 : Int32) * x) + z)) ((a9 (Int32.toNatClampNeg (((32 : Int32) * x) + z))) ^^^ ((1 : Int32) <<< (u &&& 31)))))), (ga 10, .inl (gc 10, 3, .inl a10))]) [0, 1, 2, 3, 4] (by decide) rfl
                    have hK9 := hK.sub (tys' := [(gc 2, .int), (gc 8, .int), (gc 9, .int), (gc 10, .int)]) [0, 1, 2, 3] rfl
                    refine W.widen (k := 0) (n := 0) (Nat.le_of_ble_eq_true rfl) (Nat.le_of_ble_eq_true rfl) ?_
                    exact W.vret hx hb hr (fun t ht hW => ⟨⟨(a8, upd a9 (Int32.toNatClampNeg (((32 : Int32) * x) + z)) ((a9 (Int32.toNatClampNeg (((32 : Int32) * x) + z))) ^^^ ((1 : Int32) <<< (u &&& 31))), a10, 0), rfl, ⟨⟨(by repeat' first | with_reducible assumption | with_reducible exact is16_0 | with_reducible exact is16_m _ | with_reducible exact set16' _ | with_reducible apply rgI_upd | with_reducible apply c3_upd | with_reducible apply o3_upd | exact Or.inl rfl | exact ⟨0, by with_reducible assumption, rfl⟩ | omega | assumption), (fun q => (hst9 q).2), (by show (0 : Int32) = _; simp [mmB, hbB, blw, hc1, bI_t hc6, hc9, hc12, hc15, hc16, hc31, hc35, hc40] <;> (intros; simp_all))⟩, (by rw [← hSP, s_M_flip]; try (rw [if_neg hc1]); try (rw [if_neg hc6]); try (rw [if_neg hc9]); try (rw [if_neg hc12]); try (rw [if_neg hc15]); try (rw [if_pos hc16]); try (rw [if_neg hc31]); try (rw [if_pos hc35]); try (rw [if_neg hc40]); all_goals rfl)⟩, by rw [ht]; exact hP9, va_K.moved hW.alike hK9, hD9⟩, hS.F ht⟩) hS.2.2 d_M_flip_173
                  · --  y = 2
                    exact absurd (hc16.symm.trans hc40) (by decide)
                · --  ¬ u < 22
                  refine lv_iload_n hx hb d_M_flip_58 rfl (lv_at hl 2 rfl) ?_
                  refine lv_iconst (v := 2) hx hb d_M_flip_59 (by decide) ?_
                  refine lv_icmp_ne (tgt := 78) hx hb d_M_flip_60 rfl (fun hc41 => ?_) (fun hc41 => ?_)
                  · --  ¬ y = 2
                    refine lv_iconst (v := 0) hx hb d_M_flip_78 (by decide) ?_
                    refine lv_istore hx hb d_M_flip_79 hl (by decide) rfl (fun ls hl => ?_)
                    replace hl : lv_has ls 6 [(5, .int 0), (0, .ref m0), (1, .int x), (2, .int y), (3, .int z), (4, .int u)] := hl
                    refine lv_aload_n hx hb d_M_flip_81 rfl (lv_at hl 1 rfl) ?_
                    refine lv_iload hx hb d_M_flip_82 (lv_at hl 0 rfl) ?_
                    refine lv_if_eq (tgt := 91) hx hb d_M_flip_84 rfl (fun hc42 => ?_) (fun hc42 => by first | exact absurd (by decide) hc42 | exact absurd hc42 (by decide))
                    refine lv_iconst (v := 1) hx hb d_M_flip_91 (by decide) ?_
                    refine va_put (D := (dC, dI)) (ci := 6) (v := .int 1) (ty := .int) (C := "VotedTripleModel") (T := F_M) (N := 37) hx hb hw in_M ft_M tyok_M nm_M hown hK hP hD hS 0 rfl rfl 0 (by decide) (hw _ k_724) (fun _ h9 => h9) rfl (by decide +kernel) rfl rfl (Nat.le_of_ble_eq_true rfl) d_M_flip_92 (fun H locs hP hD hS => ?_)
                    replace hP : va_P (dC, dI) classes [(m0, .inr (6, [.int 1, .int (nI cn), .ref (ga 2), .int (uM 3), .int (uM 4), .int (uM 5), .int (nI sn), .int (uM 7), .ref (ga 8), .ref (ga 9), .ref (ga 10), .ref (ga 11), .ref (ga 12), .ref (ga 13), .ref (ga 14), .ref (ga 15), .ref (ga 16), .ref (ga 17), .ref (ga 18), .ref (ga 19), .ref (ga 20), .ref (ga 21), .ref (ga 22), .ref (ga 23), .int (uM 24), .int (uM 25), .int (nI cm), .int (nI us), .ref (ga 28), .int (nI wt), .ref (ga 30), .ref (ga 31), .ref (ga 32), .int (nI oc), .int (nI ou), .int (nI ow), .ref (ga 36)])), (ga 2, .inl (gc 2, 64, .inl a2)), (ga 8, .inl (gc 8, 24, .inl a8)), (ga 9, .inl (gc 9, 96, .inl a9)), (ga 10, .inl (gc 10, 3, .inl a10))] H := hP
                    replace hD : va_D A [(m0, .inr (6, [.int 1, .int (nI cn), .ref (ga 2), .int (uM 3), .int (uM 4), .int (uM 5), .int (nI sn), .int (uM 7), .ref (ga 8), .ref (ga 9), .ref (ga 10), .ref (ga 11), .ref (ga 12), .ref (ga 13), .ref (ga 14), .ref (ga 15), .ref (ga 16), .ref (ga 17), .ref (ga 18), .ref (ga 19), .ref (ga 20), .ref (ga 21), .ref (ga 22), .ref (ga 23), .int (uM 24), .int (uM 25), .int (nI cm), .int (nI us), .ref (ga 28), .int (nI wt), .ref (ga 30), .ref (ga 31), .ref (ga 32), .int (nI oc), .int (nI ou), .int (nI ow), .ref (ga 36)])), (ga 2, .inl (gc 2, 64, .inl a2)), (ga 8, .inl (gc 8, 24, .inl a8)), (ga 9, .inl (gc 9, 96, .inl a9)), (ga 10, .inl (gc 10, 3, .inl a10))] := hD
                    refine lv_iload hx hb d_M_flip_95 (lv_at hl 0 rfl) ?_
                    refine lv_if_ne (tgt := 101) hx hb d_M_flip_97 rfl (fun hc43 => by first | exact absurd hc43 (by decide) | exact absurd (by decide) hc43) (fun hc43 => ?_)
                    have hP9 := hP.sub (ws' := [(m0, .inr (6, oM ga (upc uM 0 1) cn sn cm us wt oc ou ow)), (ga 2, .inl (gc 2, 64, .inl a2)), (ga 8, .inl (gc 8, 24, .inl a8)), (ga 9, .inl (gc 9, 96, .inl a9)), (ga 10, .inl (gc 10, 3, .inl a10))]) [0, 1, 2, 3, 4] rfl
                    have hD9 := hD.sub (ws' := [(m0, .inr (6, oM ga (upc uM 0 1) cn sn cm us wt oc ou ow)), (ga 2, .inl (gc 2, 64, .inl a2)), (ga 8, .inl (gc 8, 24, .inl a8)), (ga 9, .inl (gc 9, 96, .inl a9)), (ga 10, .inl (gc 10, 3, .inl a10))]) [0, 1, 2, 3, 4] (by decide) rfl
                    have hK9 := hK.sub (tys' := [(gc 2, .int), (gc 8, .int), (gc 9, .int), (gc 10, .int)]) [0, 1, 2, 3] rfl
                    refine W.widen (k := 0) (n := 0) (Nat.le_of_ble_eq_true rfl) (Nat.le_of_ble_eq_true rfl) ?_
                    exact W.vret hx hb hr (fun t ht hW => ⟨⟨(a8, a9, a10, 1), rfl, ⟨⟨(by repeat' first | with_reducible assumption | with_reducible exact is16_0 | with_reducible exact is16_m _ | with_reducible exact set16' _ | with_reducible apply rgI_upd | with_reducible apply c3_upd | with_reducible apply o3_upd | exact Or.inl rfl | exact ⟨0, by with_reducible assumption, rfl⟩ | omega | assumption), (fun q => (hst9 q).2), (by show (1 : Int32) = _; simp [mmB, hbB, blw, hc1, bI_t hc6, hc9, hc12, hc15, hc16, hc31, hc35, hc41] <;> (intros; simp_all))⟩, (by rw [← hSP, s_M_flip]; try (rw [if_neg hc1]); try (rw [if_neg hc6]); try (rw [if_neg hc9]); try (rw [if_neg hc12]); try (rw [if_neg hc15]); try (rw [if_pos hc16]); try (rw [if_neg hc31]); try (rw [if_neg hc35]); try (rw [if_neg hc41]); all_goals rfl)⟩, by rw [ht]; exact hP9, va_K.moved hW.alike hK9, hD9⟩, hS.F ht⟩) hS.2.2 d_M_flip_100
                  · --  y = 2
                    exact absurd (hc16.symm.trans hc41) (by decide)
          · --  y = 0
            refine lv_iload_n hx hb d_M_flip_27 rfl (lv_at hl 3 rfl) ?_
            refine lv_bipush (v := 8) hx hb d_M_flip_28 (by decide) ?_
            refine lv_icmp_ge (tgt := 40) hx hb d_M_flip_30 rfl (fun hc44 => ?_) (fun hc44 => ?_)
            · --  8 ≤ z
              refine lv_iload_n hx hb d_M_flip_40 rfl (lv_at hl 2 rfl) ?_
              refine lv_iconst (v := 1) hx hb d_M_flip_41 (by decide) ?_
              refine lv_icmp_ne (tgt := 58) hx hb d_M_flip_42 rfl (fun hc45 => ?_) (fun hc45 => ?_)
              · --  ¬ y = 1
                refine lv_iload_n hx hb d_M_flip_58 rfl (lv_at hl 2 rfl) ?_
                refine lv_iconst (v := 2) hx hb d_M_flip_59 (by decide) ?_
                refine lv_icmp_ne (tgt := 78) hx hb d_M_flip_60 rfl (fun hc46 => ?_) (fun hc46 => ?_)
                · --  ¬ y = 2
                  refine lv_iconst (v := 0) hx hb d_M_flip_78 (by decide) ?_
                  refine lv_istore hx hb d_M_flip_79 hl (by decide) rfl (fun ls hl => ?_)
                  replace hl : lv_has ls 6 [(5, .int 0), (0, .ref m0), (1, .int x), (2, .int y), (3, .int z), (4, .int u)] := hl
                  refine lv_aload_n hx hb d_M_flip_81 rfl (lv_at hl 1 rfl) ?_
                  refine lv_iload hx hb d_M_flip_82 (lv_at hl 0 rfl) ?_
                  refine lv_if_eq (tgt := 91) hx hb d_M_flip_84 rfl (fun hc47 => ?_) (fun hc47 => by first | exact absurd (by decide) hc47 | exact absurd hc47 (by decide))
                  refine lv_iconst (v := 1) hx hb d_M_flip_91 (by decide) ?_
                  refine va_put (D := (dC, dI)) (ci := 6) (v := .int 1) (ty := .int) (C := "VotedTripleModel") (T := F_M) (N := 37) hx hb hw in_M ft_M tyok_M nm_M hown hK hP hD hS 0 rfl rfl 0 (by decide) (hw _ k_724) (fun _ h9 => h9) rfl (by decide +kernel) rfl rfl (Nat.le_of_ble_eq_true rfl) d_M_flip_92 (fun H locs hP hD hS => ?_)
                  replace hP : va_P (dC, dI) classes [(m0, .inr (6, [.int 1, .int (nI cn), .ref (ga 2), .int (uM 3), .int (uM 4), .int (uM 5), .int (nI sn), .int (uM 7), .ref (ga 8), .ref (ga 9), .ref (ga 10), .ref (ga 11), .ref (ga 12), .ref (ga 13), .ref (ga 14), .ref (ga 15), .ref (ga 16), .ref (ga 17), .ref (ga 18), .ref (ga 19), .ref (ga 20), .ref (ga 21), .ref (ga 22), .ref (ga 23), .int (uM 24), .int (uM 25), .int (nI cm), .int (nI us), .ref (ga 28), .int (nI wt), .ref (ga 30), .ref (ga 31), .ref (ga 32), .int (nI oc), .int (nI ou), .int (nI ow), .ref (ga 36)])), (ga 2, .inl (gc 2, 64, .inl a2)), (ga 8, .inl (gc 8, 24, .inl a8)), (ga 9, .inl (gc 9, 96, .inl a9)), (ga 10, .inl (gc 10, 3, .inl a10))] H := hP
                  replace hD : va_D A [(m0, .inr (6, [.int 1, .int (nI cn), .ref (ga 2), .int (uM 3), .int (uM 4), .int (uM 5), .int (nI sn), .int (uM 7), .ref (ga 8), .ref (ga 9), .ref (ga 10), .ref (ga 11), .ref (ga 12), .ref (ga 13), .ref (ga 14), .ref (ga 15), .ref (ga 16), .ref (ga 17), .ref (ga 18), .ref (ga 19), .ref (ga 20), .ref (ga 21), .ref (ga 22), .ref (ga 23), .int (uM 24), .int (uM 25), .int (nI cm), .int (nI us), .ref (ga 28), .int (nI wt), .ref (ga 30), .ref (ga 31), .ref (ga 32), .int (nI oc), .int (nI ou), .int (nI ow), .ref (ga 36)])), (ga 2, .inl (gc 2, 64, .inl a2)), (ga 8, .inl (gc 8, 24, .inl a8)), (ga 9, .inl (gc 9, 96, .inl a9)), (ga 10, .inl (gc 10, 3, .inl a10))] := hD
                  refine lv_iload hx hb d_M_flip_95 (lv_at hl 0 rfl) ?_
                  refine lv_if_ne (tgt := 101) hx hb d_M_flip_97 rfl (fun hc48 => by first | exact absurd hc48 (by decide) | exact absurd (by decide) hc48) (fun hc48 => ?_)
                  have hP9 := hP.sub (ws' := [(m0, .inr (6, oM ga (upc uM 0 1) cn sn cm us wt oc ou ow)), (ga 2, .inl (gc 2, 64, .inl a2)), (ga 8, .inl (gc 8, 24, .inl a8)), (ga 9, .inl (gc 9, 96, .inl a9)), (ga 10, .inl (gc 10, 3, .inl a10))]) [0, 1, 2, 3, 4] rfl
                  have hD9 := hD.sub (ws' := [(m0, .inr (6, oM ga (upc uM 0 1) cn sn cm us wt oc ou ow)), (ga 2, .inl (gc 2, 64, .inl a2)), (ga 8, .inl (gc 8, 24, .inl a8)), (ga 9, .inl (gc 9, 96, .inl a9)), (ga 10, .inl (gc 10, 3, .inl a10))]) [0, 1, 2, 3, 4] (by decide) rfl
                  have hK9 := hK.sub (tys' := [(gc 2, .int), (gc 8, .int), (gc 9, .int), (gc 10, .int)]) [0, 1, 2, 3] rfl
                  refine W.widen (k := 0) (n := 0) (Nat.le_of_ble_eq_true rfl) (Nat.le_of_ble_eq_true rfl) ?_
                  exact W.vret hx hb hr (fun t ht hW => ⟨⟨(a8, a9, a10, 1), rfl, ⟨⟨(by repeat' first | with_reducible assumption | with_reducible exact is16_0 | with_reducible exact is16_m _ | with_reducible exact set16' _ | with_reducible apply rgI_upd | with_reducible apply c3_upd | with_reducible apply o3_upd | exact Or.inl rfl | exact ⟨0, by with_reducible assumption, rfl⟩ | omega | assumption), (fun q => (hst9 q).2), (by show (1 : Int32) = _; simp [mmB, hbB, blw, hc1, bI_t hc6, hc9, hc12, hc15, hc44, hc45, hc46] <;> (intros; simp_all))⟩, (by rw [← hSP, s_M_flip]; try (rw [if_neg hc1]); try (rw [if_neg hc6]); try (rw [if_neg hc9]); try (rw [if_neg hc12]); try (rw [if_pos hc15]); try (rw [if_pos hc44]); try (rw [if_neg hc45]); try (rw [if_neg hc46]); all_goals rfl)⟩, by rw [ht]; exact hP9, va_K.moved hW.alike hK9, hD9⟩, hS.F ht⟩) hS.2.2 d_M_flip_100
                · --  y = 2
                  exact absurd (hc15.symm.trans hc46) (by decide)
              · --  y = 1
                exact absurd (hc15.symm.trans hc45) (by decide)
            · --  ¬ 8 ≤ z
              refine lv_iload hx hb d_M_flip_33 (lv_at hl 4 rfl) ?_
              refine lv_bipush (v := 16) hx hb d_M_flip_35 (by decide) ?_
              refine lv_icmp_lt (tgt := 74) hx hb d_M_flip_37 rfl (fun hc49 => ?_) (fun hc49 => ?_)
              · --  u < 16
                refine lv_iconst (v := 1) hx hb d_M_flip_74 (by decide) ?_
                refine lv_goto (tgt := 79) hx hb d_M_flip_75 rfl ?_
                refine lv_istore hx hb d_M_flip_79 hl (by decide) rfl (fun ls hl => ?_)
                replace hl : lv_has ls 6 [(5, .int 1), (0, .ref m0), (1, .int x), (2, .int y), (3, .int z), (4, .int u)] := hl
                refine lv_aload_n hx hb d_M_flip_81 rfl (lv_at hl 1 rfl) ?_
                refine lv_iload hx hb d_M_flip_82 (lv_at hl 0 rfl) ?_
                refine lv_if_eq (tgt := 91) hx hb d_M_flip_84 rfl (fun hc50 => by first | exact absurd hc50 (by decide) | exact absurd (by decide) hc50) (fun hc50 => ?_)
                refine lv_iconst (v := 0) hx hb d_M_flip_87 (by decide) ?_
                refine lv_goto (tgt := 92) hx hb d_M_flip_88 rfl ?_
                refine va_put (D := (dC, dI)) (ci := 6) (v := .int 0) (ty := .int) (C := "VotedTripleModel") (T := F_M) (N := 37) hx hb hw in_M ft_M tyok_M nm_M hown hK hP hD hS 0 rfl rfl 0 (by decide) (hw _ k_724) (fun _ h9 => h9) rfl (by decide +kernel) rfl rfl (Nat.le_of_ble_eq_true rfl) d_M_flip_92 (fun H locs hP hD hS => ?_)
                replace hP : va_P (dC, dI) classes [(m0, .inr (6, [.int 0, .int (nI cn), .ref (ga 2), .int (uM 3), .int (uM 4), .int (uM 5), .int (nI sn), .int (uM 7), .ref (ga 8), .ref (ga 9), .ref (ga 10), .ref (ga 11), .ref (ga 12), .ref (ga 13), .ref (ga 14), .ref (ga 15), .ref (ga 16), .ref (ga 17), .ref (ga 18), .ref (ga 19), .ref (ga 20), .ref (ga 21), .ref (ga 22), .ref (ga 23), .int (uM 24), .int (uM 25), .int (nI cm), .int (nI us), .ref (ga 28), .int (nI wt), .ref (ga 30), .ref (ga 31), .ref (ga 32), .int (nI oc), .int (nI ou), .int (nI ow), .ref (ga 36)])), (ga 2, .inl (gc 2, 64, .inl a2)), (ga 8, .inl (gc 8, 24, .inl a8)), (ga 9, .inl (gc 9, 96, .inl a9)), (ga 10, .inl (gc 10, 3, .inl a10))] H := hP
                replace hD : va_D A [(m0, .inr (6, [.int 0, .int (nI cn), .ref (ga 2), .int (uM 3), .int (uM 4), .int (uM 5), .int (nI sn), .int (uM 7), .ref (ga 8), .ref (ga 9), .ref (ga 10), .ref (ga 11), .ref (ga 12), .ref (ga 13), .ref (ga 14), .ref (ga 15), .ref (ga 16), .ref (ga 17), .ref (ga 18), .ref (ga 19), .ref (ga 20), .ref (ga 21), .ref (ga 22), .ref (ga 23), .int (uM 24), .int (uM 25), .int (nI cm), .int (nI us), .ref (ga 28), .int (nI wt), .ref (ga 30), .ref (ga 31), .ref (ga 32), .int (nI oc), .int (nI ou), .int (nI ow), .ref (ga 36)])), (ga 2, .inl (gc 2, 64, .inl a2)), (ga 8, .inl (gc 8, 24, .inl a8)), (ga 9, .inl (gc 9, 96, .inl a9)), (ga 10, .inl (gc 10, 3, .inl a10))] := hD
                refine lv_iload hx hb d_M_flip_95 (lv_at hl 0 rfl) ?_
                refine lv_if_ne (tgt := 101) hx hb d_M_flip_97 rfl (fun hc51 => ?_) (fun hc51 => by first | exact absurd (by decide) hc51 | exact absurd hc51 (by decide))
                refine lv_iload_n hx hb d_M_flip_101 rfl (lv_at hl 3 rfl) ?_
                refine lv_if_ne (tgt := 123) hx hb d_M_flip_102 rfl (fun hc52 => by first | exact absurd hc52 (hc15) | exact absurd (hc15) hc52) (fun hc52 => ?_)
                refine lv_aload_n hx hb d_M_flip_105 rfl (lv_at hl 1 rfl) ?_
                refine va_get (D := (dC, dI)) (ci := 6) (v := .ref (ga 8)) (C := "VotedTripleModel") (T := F_M) (N := 37) hx hb hw in_M hown hK hP 0 rfl rfl 8 (by decide) (hw _ k_732) (fun _ h9 => h9) rfl d_M_flip_106 ?_
                refine lv_bipush (v := 8) hx hb d_M_flip_109 (by decide) ?_
                refine lv_iload_n hx hb d_M_flip_111 rfl (lv_at hl 2 rfl) ?_
                refine lv_imul hx hb d_M_flip_112 ?_
                refine lv_iload_n hx hb d_M_flip_113 rfl (lv_at hl 4 rfl) ?_
                refine lv_iadd hx hb d_M_flip_114 ?_
                refine lv_dup2_11 hx hb d_M_flip_115 rfl rfl ?_
                refine va_iald hx hb hK hP 2 1 rfl rfl (ix8 hmi hmk (in_of (N := 8) rfl hc12 hc44)) d_M_flip_116 ?_
                refine lv_iconst (v := 1) hx hb d_M_flip_117 (by decide) ?_
                refine lv_iload hx hb d_M_flip_118 (lv_at hl 5 rfl) ?_
                refine lv_ishl hx hb d_M_flip_120 ?_
                refine lv_ixor hx hb d_M_flip_121 ?_
                have hv53 : is16 ((a8 (Int32.toNatClampNeg (((8 : Int32) * x) + z))) ^^^ ((1 : Int32) <<< (u &&& 31))) := is16_xor (rg_at h8 (ix8 hmi hmk (in_of (N := 8) rfl hc12 hc44)) (by decide)) (sh16 (n := 16) (by decide) (in_of (N := 16) rfl hc9 (Int32.not_le.mpr hc49)))
                refine va_iast hx hb hK hP hD hS 2 1 rfl rfl (ix8 hmi hmk (in_of (N := 8) rfl hc12 hc44)) d_M_flip_122 (fun H locs hP hD hS => ?_)
                replace hP : va_P (dC, dI) classes [(m0, .inr (6, [.int 0, .int (nI cn), .ref (ga 2), .int (uM 3), .int (uM 4), .int (uM 5), .int (nI sn), .int (uM 7), .ref (ga 8), .ref (ga 9), .ref (ga 10), .ref (ga 11), .ref (ga 12), .ref (ga 13), .ref (ga 14), .ref (ga 15), .ref (ga 16), .ref (ga 17), .ref (ga 18), .ref (ga 19), .ref (ga 20), .ref (ga 21), .ref (ga 22), .ref (ga 23), .int (uM 24), .int (uM 25), .int (nI cm), .int (nI us), .ref (ga 28), .int (nI wt), .ref (ga 30), .ref (ga 31), .ref (ga 32), .int (nI oc), .int (nI ou), .int (nI ow), .ref (ga 36)])), (ga 2, .inl (gc 2, 64, .inl a2)), (ga 8, .inl (gc 8, 24, .inl (upd a8 (Int32.toNatClampNeg (((8 : Int32) * x) + z)) ((a8 (Int32.toNatClampNeg (((8 : Int32) * x) + z))) ^^^ ((1 : Int32) <<< (u &&& 31)))))), (ga 9, .inl (gc 9, 96, .inl a9)), (ga 10, .inl (gc 10, 3, .inl a10))] H := hP
                replace hD : va_D A [(m0, .inr (6, [.int 0, .int (nI cn), .ref (ga 2), .int (uM 3), .int (uM 4), .int (uM 5), .int (nI sn), .int (uM 7), .ref (ga 8), .ref (ga 9), .ref (ga 10), .ref (ga 11), .ref (ga 12), .ref (ga 13), .ref (ga 14), .ref (ga 15), .ref (ga 16), .ref (ga 17), .ref (ga 18), .ref (ga 19), .ref (ga 20), .ref (ga 21), .ref (ga 22), .ref (ga 23), .int (uM 24), .int (uM 25), .int (nI cm), .int (nI us), .ref (ga 28), .int (nI wt), .ref (ga 30), .ref (ga 31), .ref (ga 32), .int (nI oc), .int (nI ou), .int (nI ow), .ref (ga 36)])), (ga 2, .inl (gc 2, 64, .inl a2)), (ga 8, .inl (gc 8, 24, .inl (upd a8 (Int32.toNatClampNeg (((8 : Int32) * x) + z)) ((a8 (Int32.toNatClampNeg (((8 : Int32) * x) + z))) ^^^ ((1 : Int32) <<< (u &&& 31)))))), (ga 9, .inl (gc 9, 96, .inl a9)), (ga 10, .inl (gc 10, 3, .inl a10))] := hD
                refine lv_iload_n hx hb d_M_flip_123 rfl (lv_at hl 3 rfl) ?_
                refine lv_iconst (v := 1) hx hb d_M_flip_124 (by decide) ?_
                refine lv_icmp_ne (tgt := 146) hx hb d_M_flip_125 rfl (fun hc54 => ?_) (fun hc54 => ?_)
                · --  ¬ y = 1
                  refine lv_iload_n hx hb d_M_flip_146 rfl (lv_at hl 3 rfl) ?_
                  refine lv_iconst (v := 2) hx hb d_M_flip_147 (by decide) ?_
                  refine lv_icmp_ne (tgt := 173) hx hb d_M_flip_148 rfl (fun hc55 => ?_) (fun hc55 => ?_)
                  · --  ¬ y = 2
                    have hP9 := hP.sub (ws' := [(m0, .inr (6, oM ga (upc uM 0 0) cn sn cm us wt oc ou ow)), (ga 2, .inl (gc 2, 64, .inl a2)), (ga 8, .inl (gc 8, 24, .inl (upd a8 (Int32.toNatClampNeg (((8 : Int32) * x) + z)) ((a8 (Int32.toNatClampNeg (((8 : Int32) * x) + z))) ^^^ ((1 : Int32) <<< (u &&& 31)))))), (ga 9, .inl (gc 9, 96, .inl a9)), (ga 10, .inl (gc 10, 3, .inl a10))]) [0, 1, 2, 3, 4] rfl
                    have hD9 := hD.sub (ws' := [(m0, .inr (6, oM ga (upc uM 0 0) cn sn cm us wt oc ou ow)), (ga 2, .inl (gc 2, 64, .inl a2)), (ga 8, .inl (gc 8, 24, .inl (upd a8 (Int32.toNatClampNeg (((8 : Int32) * x) + z)) ((a8 (Int32.toNatClampNeg (((8 : Int32) * x) + z))) ^^^ ((1 : Int32) <<< (u &&& 31)))))), (ga 9, .inl (gc 9, 96, .inl a9)), (ga 10, .inl (gc 10, 3, .inl a10))]) [0, 1, 2, 3, 4] (by decide) rfl
                    have hK9 := hK.sub (tys' := [(gc 2, .int), (gc 8, .int), (gc 9, .int), (gc 10, .int)]) [0, 1, 2, 3] rfl
                    refine W.widen (k := 0) (n := 0) (Nat.le_of_ble_eq_true rfl) (Nat.le_of_ble_eq_true rfl) ?_
                    exact W.vret hx hb hr (fun t ht hW => ⟨⟨(upd a8 (Int32.toNatClampNeg (((8 : Int32) * x) + z)) ((a8 (Int32.toNatClampNeg (((8 : Int32) * x) + z))) ^^^ ((1 : Int32) <<< (u &&& 31))), a9, a10, 0), rfl, ⟨⟨(by repeat' first | with_reducible assumption | with_reducible exact is16_0 | with_reducible exact is16_m _ | with_reducible exact set16' _ | with_reducible apply rgI_upd | with_reducible apply c3_upd | with_reducible apply o3_upd | exact Or.inl rfl | exact ⟨0, by with_reducible assumption, rfl⟩ | omega | assumption), (fun q => (hst9 q).2), (by show (0 : Int32) = _; simp [mmB, hbB, blw, hc1, bI_t hc6, hc9, hc12, hc15, hc44, hc49, hc54, hc55] <;> (intros; simp_all))⟩, (by rw [← hSP, s_M_flip]; try (rw [if_neg hc1]); try (rw [if_neg hc6]); try (rw [if_neg hc9]); try (rw [if_neg hc12]); try (rw [if_pos hc15]); try (rw [if_neg hc44]); try (rw [if_pos hc49]); try (rw [if_neg hc54]); try (rw [if_neg hc55]); all_goals rfl)⟩, by rw [ht]; exact hP9, va_K.moved hW.alike hK9, hD9⟩, hS.F ht⟩) hS.2.2 d_M_flip_173
                  · --  y = 2
                    exact absurd (hc15.symm.trans hc55) (by decide)
                · --  y = 1
                  exact absurd (hc15.symm.trans hc54) (by decide)
              · --  ¬ u < 16
                refine lv_iload_n hx hb d_M_flip_40 rfl (lv_at hl 2 rfl) ?_
                refine lv_iconst (v := 1) hx hb d_M_flip_41 (by decide) ?_
                refine lv_icmp_ne (tgt := 58) hx hb d_M_flip_42 rfl (fun hc56 => ?_) (fun hc56 => ?_)
                · --  ¬ y = 1
                  refine lv_iload_n hx hb d_M_flip_58 rfl (lv_at hl 2 rfl) ?_
                  refine lv_iconst (v := 2) hx hb d_M_flip_59 (by decide) ?_
                  refine lv_icmp_ne (tgt := 78) hx hb d_M_flip_60 rfl (fun hc57 => ?_) (fun hc57 => ?_)
                  · --  ¬ y = 2
                    refine lv_iconst (v := 0) hx hb d_M_flip_78 (by decide) ?_
                    refine lv_istore hx hb d_M_flip_79 hl (by decide) rfl (fun ls hl => ?_)
                    replace hl : lv_has ls 6 [(5, .int 0), (0, .ref m0), (1, .int x), (2, .int y), (3, .int z), (4, .int u)] := hl
                    refine lv_aload_n hx hb d_M_flip_81 rfl (lv_at hl 1 rfl) ?_
                    refine lv_iload hx hb d_M_flip_82 (lv_at hl 0 rfl) ?_
                    refine lv_if_eq (tgt := 91) hx hb d_M_flip_84 rfl (fun hc58 => ?_) (fun hc58 => by first | exact absurd (by decide) hc58 | exact absurd hc58 (by decide))
                    refine lv_iconst (v := 1) hx hb d_M_flip_91 (by decide) ?_
                    refine va_put (D := (dC, dI)) (ci := 6) (v := .int 1) (ty := .int) (C := "VotedTripleModel") (T := F_M) (N := 37) hx hb hw in_M ft_M tyok_M nm_M hown hK hP hD hS 0 rfl rfl 0 (by decide) (hw _ k_724) (fun _ h9 => h9) rfl (by decide +kernel) rfl rfl (Nat.le_of_ble_eq_true rfl) d_M_flip_92 (fun H locs hP hD hS => ?_)
                    replace hP : va_P (dC, dI) classes [(m0, .inr (6, [.int 1, .int (nI cn), .ref (ga 2), .int (uM 3), .int (uM 4), .int (uM 5), .int (nI sn), .int (uM 7), .ref (ga 8), .ref (ga 9), .ref (ga 10), .ref (ga 11), .ref (ga 12), .ref (ga 13), .ref (ga 14), .ref (ga 15), .ref (ga 16), .ref (ga 17), .ref (ga 18), .ref (ga 19), .ref (ga 20), .ref (ga 21), .ref (ga 22), .ref (ga 23), .int (uM 24), .int (uM 25), .int (nI cm), .int (nI us), .ref (ga 28), .int (nI wt), .ref (ga 30), .ref (ga 31), .ref (ga 32), .int (nI oc), .int (nI ou), .int (nI ow), .ref (ga 36)])), (ga 2, .inl (gc 2, 64, .inl a2)), (ga 8, .inl (gc 8, 24, .inl a8)), (ga 9, .inl (gc 9, 96, .inl a9)), (ga 10, .inl (gc 10, 3, .inl a10))] H := hP
                    replace hD : va_D A [(m0, .inr (6, [.int 1, .int (nI cn), .ref (ga 2), .int (uM 3), .int (uM 4), .int (uM 5), .int (nI sn), .int (uM 7), .ref (ga 8), .ref (ga 9), .ref (ga 10), .ref (ga 11), .ref (ga 12), .ref (ga 13), .ref (ga 14), .ref (ga 15), .ref (ga 16), .ref (ga 17), .ref (ga 18), .ref (ga 19), .ref (ga 20), .ref (ga 21), .ref (ga 22), .ref (ga 23), .int (uM 24), .int (uM 25), .int (nI cm), .int (nI us), .ref (ga 28), .int (nI wt), .ref (ga 30), .ref (ga 31), .ref (ga 32), .int (nI oc), .int (nI ou), .int (nI ow), .ref (ga 36)])), (ga 2, .inl (gc 2, 64, .inl a2)), (ga 8, .inl (gc 8, 24, .inl a8)), (ga 9, .inl (gc 9, 96, .inl a9)), (ga 10, .inl (gc 10, 3, .inl a10))] := hD
                    refine lv_iload hx hb d_M_flip_95 (lv_at hl 0 rfl) ?_
                    refine lv_if_ne (tgt := 101) hx hb d_M_flip_97 rfl (fun hc59 => by first | exact absurd hc59 (by decide) | exact absurd (by decide) hc59) (fun hc59 => ?_)
                    have hP9 := hP.sub (ws' := [(m0, .inr (6, oM ga (upc uM 0 1) cn sn cm us wt oc ou ow)), (ga 2, .inl (gc 2, 64, .inl a2)), (ga 8, .inl (gc 8, 24, .inl a8)), (ga 9, .inl (gc 9, 96, .inl a9)), (ga 10, .inl (gc 10, 3, .inl a10))]) [0, 1, 2, 3, 4] rfl
                    have hD9 := hD.sub (ws' := [(m0, .inr (6, oM ga (upc uM 0 1) cn sn cm us wt oc ou ow)), (ga 2, .inl (gc 2, 64, .inl a2)), (ga 8, .inl (gc 8, 24, .inl a8)), (ga 9, .inl (gc 9, 96, .inl a9)), (ga 10, .inl (gc 10, 3, .inl a10))]) [0, 1, 2, 3, 4] (by decide) rfl
                    have hK9 := hK.sub (tys' := [(gc 2, .int), (gc 8, .int), (gc 9, .int), (gc 10, .int)]) [0, 1, 2, 3] rfl
                    refine W.widen (k := 0) (n := 0) (Nat.le_of_ble_eq_true rfl) (Nat.le_of_ble_eq_true rfl) ?_
                    exact W.vret hx hb hr (fun t ht hW => ⟨⟨(a8, a9, a10, 1), rfl, ⟨⟨(by repeat' first | with_reducible assumption | with_reducible exact is16_0 | with_reducible exact is16_m _ | with_reducible exact set16' _ | with_reducible apply rgI_upd | with_reducible apply c3_upd | with_reducible apply o3_upd | exact Or.inl rfl | exact ⟨0, by with_reducible assumption, rfl⟩ | omega | assumption), (fun q => (hst9 q).2), (by show (1 : Int32) = _; simp [mmB, hbB, blw, hc1, bI_t hc6, hc9, hc12, hc15, hc44, hc49, hc56, hc57] <;> (intros; simp_all))⟩, (by rw [← hSP, s_M_flip]; try (rw [if_neg hc1]); try (rw [if_neg hc6]); try (rw [if_neg hc9]); try (rw [if_neg hc12]); try (rw [if_pos hc15]); try (rw [if_neg hc44]); try (rw [if_neg hc49]); try (rw [if_neg hc56]); try (rw [if_neg hc57]); all_goals rfl)⟩, by rw [ht]; exact hP9, va_K.moved hW.alike hK9, hD9⟩, hS.F ht⟩) hS.2.2 d_M_flip_100
                  · --  y = 2
                    exact absurd (hc15.symm.trans hc57) (by decide)
                · --  y = 1
                  exact absurd (hc15.symm.trans hc56) (by decide)
