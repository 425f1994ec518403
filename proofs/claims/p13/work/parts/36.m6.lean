set_option maxHeartbeats 4000000 in
set_option maxRecDepth 100000 in
theorem c_M_agreed (l : Launch) (dC : Nat → ClassId) (dI : Nat → Nat → Nat) (m0 : Nat) (ga : Nat → Nat) (gc : Nat → ClassId) (uM : Nat → Int32) (cn : Nat) (sn : Nat) (cm : Nat) (us : Nat) (wt : Nat) (oc : Nat) (ou : Nat) (ow : Nat) (a8 : Nat → Int32) (a11 : Nat → Int32) (a18 : Nat → Int32) (a20 : Nat → Int32) (a28 : Nat → Int32) (a30 : Nat → Int32) (mk : Nat) (mi : Int32) (h8 : wdI 24 a8) (h20 : o3 8 a20) (h28 : wdI 64 a28) (hcm : cm ≤ 64) (hus : us ≤ cm) (hmi : mi = nI mk) (hmk : mk < 3) (hwt1 : wt + 1 < 2 ^ 31) (sz : Nat) : Met l y_M_agreed (tbw y_M_agreed b_M_agreed 5 none) ({ frames := 0, cells := 0, slots := 0, locals := 0 }) (va_Pc [.ref m0, .int mi] (fun U => U.heap.size = sz ∧ va_P (dC, dI) classes [(m0, .inr (6, oM ga uM cn sn cm us wt oc ou ow)), (ga 8, .inl (gc 8, 24, .inl a8)), (ga 11, .inl (gc 11, 3, .inl a11)), (ga 18, .inl (gc 18, 3, .inl a18)), (ga 20, .inl (gc 20, 3, .inl a20)), (ga 28, .inl (gc 28, 64, .inl a28)), (ga 30, .inl (gc 30, 300, .inl a30))] U.heap ∧ va_K (dC, dI) classes [(gc 8, .int), (gc 11, .int), (gc 18, .int), (gc 20, .int), (gc 28, .int), (gc 30, .int)] U ∧ va_D (fun _ => True) [(m0, .inr (6, oM ga uM cn sn cm us wt oc ou ow)), (ga 8, .inl (gc 8, 24, .inl a8)), (ga 11, .inl (gc 11, 3, .inl a11)), (ga 18, .inl (gc 18, 3, .inl a18)), (ga 20, .inl (gc 20, 3, .inl a20)), (ga 28, .inl (gc 28, 64, .inl a28)), (ga 30, .inl (gc 30, 300, .inl a30))])) (va_Qv (fun (u9 : (Nat → Int32) × (Nat → Int32) × Nat × Nat) => match u9 with | (a8n, a30n, usn, wtn) => (wdI 24 a8n ∧ usn ≤ cm ∧ wtn ≤ wt + 1) ∧ (a8n, a30n, usn, wtn) = s_M_agreed cm us wt a8 a11 a18 a20 a28 a30 mi) (fun (u9 : (Nat → Int32) × (Nat → Int32) × Nat × Nat) t => match u9 with | (a8n, a30n, usn, wtn) => va_P (dC, dI) classes [(m0, .inr (6, oM ga uM cn sn cm usn wtn oc ou ow)), (ga 8, .inl (gc 8, 24, .inl a8n)), (ga 11, .inl (gc 11, 3, .inl a11)), (ga 18, .inl (gc 18, 3, .inl a18)), (ga 20, .inl (gc 20, 3, .inl a20)), (ga 28, .inl (gc 28, 64, .inl a28)), (ga 30, .inl (gc 30, 300, .inl a30n))] t.heap ∧ va_K (dC, dI) classes [(gc 8, .int), (gc 11, .int), (gc 18, .int), (gc 20, .int), (gc 28, .int), (gc 30, .int)] t ∧ va_D (va_A [(m0, .inr (6, oM ga uM cn sn cm us wt oc ou ow)), (ga 8, .inl (gc 8, 24, .inl a8)), (ga 11, .inl (gc 11, 3, .inl a11)), (ga 18, .inl (gc 18, 3, .inl a18)), (ga 20, .inl (gc 20, 3, .inl a20)), (ga 28, .inl (gc 28, 64, .inl a28)), (ga 30, .inl (gc 30, 300, .inl a30))] sz) [(m0, .inr (6, oM ga uM cn sn cm usn wtn oc ou ow)), (ga 8, .inl (gc 8, 24, .inl a8n)), (ga 11, .inl (gc 11, 3, .inl a11)), (ga 18, .inl (gc 18, 3, .inl a18)), (ga 20, .inl (gc 20, 3, .inl a20)), (ga 28, .inl (gc 28, 64, .inl a28)), (ga 30, .inl (gc 30, 300, .inl a30n))]) (va_A [(m0, .inr (6, oM ga uM cn sn cm us wt oc ou ow)), (ga 8, .inl (gc 8, 24, .inl a8)), (ga 11, .inl (gc 11, 3, .inl a11)), (ga 18, .inl (gc 18, 3, .inl a18)), (ga 20, .inl (gc 20, 3, .inl a20)), (ga 28, .inl (gc 28, 64, .inl a28)), (ga 30, .inl (gc 30, 300, .inl a30))] sz)) 0 0 (va_A [(m0, .inr (6, oM ga uM cn sn cm us wt oc ou ow)), (ga 8, .inl (gc 8, 24, .inl a8)), (ga 11, .inl (gc 11, 3, .inl a11)), (ga 18, .inl (gc 18, 3, .inl a18)), (ga 20, .inl (gc 20, 3, .inl a20)), (ga 28, .inl (gc 28, 64, .inl a28)), (ga 30, .inl (gc 30, 300, .inl a30))] sz) := by
  refine Met.ofW (cc := b_M_agreed) (maxL := 5) (ret := none) (by decide) rfl ?_
  intro p e s m args below meth c s₁ B hml hv
  obtain ⟨rfl, hsz, hP, hK, hD0⟩ := hv
  have hx := B.exec
  have hb := B.bytes
  have hr := B.returns
  have hts := atoms_spec (ws := (tbw y_M_agreed b_M_agreed 5 none)) B.pre
  have hw : ∀ z9 ∈ tb, z9.before ([.ref m0, .int mi] : List Value).toArray s = true := fun z9 h => hts z9 (List.mem_cons_of_mem _ h)
  have hown : s.vm.findClass "VotedTripleModel" = some m.cls := findClass_of_methodNamed B.named
  have hlocks := B.notSynchronized
  subst hsz
  replace hD := hD0.self (sz := s.heap.size)
  generalize hAe : va_A [(m0, .inr (6, oM ga uM cn sn cm us wt oc ou ow)), (ga 8, .inl (gc 8, 24, .inl a8)), (ga 11, .inl (gc 11, 3, .inl a11)), (ga 18, .inl (gc 18, 3, .inl a18)), (ga 20, .inl (gc 20, 3, .inl a20)), (ga 28, .inl (gc 28, 64, .inl a28)), (ga 30, .inl (gc 30, 300, .inl a30))] s.heap.size = A at hD ⊢
  have hA : ∀ q : Nat, s.heap.size ≤ q → A q := fun q h => by rw [← hAe]; exact Or.inr h
  have hS : va_S A s.heap s.heap [] := va_S.rf
  replace hl := lv_entry ([.ref m0, .int mi]) (n := 5) (Nat.le_of_ble_eq_true rfl)
  rw [lg_entry_eq]
  generalize (lg_sl ([.ref m0, .int mi]) ++ List.replicate (5 - (lg_sl ([.ref m0, .int mi])).length) Slot.unset).toArray = ls at hl ⊢
  replace hl : lv_has ls 5 [(0, .ref m0), (1, .int mi)] := hl
  generalize hSP : s_M_agreed cm us wt a8 a11 a18 a20 a28 a30 mi = SP
  have cut49_3 : ∀ (a8 : Nat → Int32) (us2 : Nat) (w2 : Int32) (w3 : Int32) (ls : Array Slot) (H : Heap) (locs : List Loc), wdI 24 a8 → is16 w3 → us2 ≤ cm → SP = s_M_agreed_cut49_3 wt a30 a8 us2 w2 w3 →  lv_has ls 5 [(0, .ref m0), (1, .int mi), (2, .int w2), (3, .int w3), (4, .int 3)] → va_P (dC, dI) classes [(m0, .inr (6, oM ga uM cn sn cm us2 wt oc ou ow)), (ga 8, .inl (gc 8, 24, .inl a8)), (ga 11, .inl (gc 11, 3, .inl a11)), (ga 18, .inl (gc 18, 3, .inl a18)), (ga 20, .inl (gc 20, 3, .inl a20)), (ga 28, .inl (gc 28, 64, .inl a28)), (ga 30, .inl (gc 30, 300, .inl a30))] H → va_D A [(m0, .inr (6, oM ga uM cn sn cm us2 wt oc ou ow)), (ga 8, .inl (gc 8, 24, .inl a8)), (ga 11, .inl (gc 11, 3, .inl a11)), (ga 18, .inl (gc 18, 3, .inl a18)), (ga 20, .inl (gc 20, 3, .inl a20)), (ga 28, .inl (gc 28, 64, .inl a28)), (ga 30, .inl (gc 30, 300, .inl a30))] → va_S A s.heap H locs → W p l e (headSpec (tbw y_M_agreed b_M_agreed 5 none) ({ frames := 0, cells := 0, slots := 0, locals := 0 })).room s m ([.ref m0, .int mi] : List Value).toArray below meth c H locs 0 0 (MQ below (va_Qv (fun (u9 : (Nat → Int32) × (Nat → Int32) × Nat × Nat) => match u9 with | (a8n, a30n, usn, wtn) => (wdI 24 a8n ∧ usn ≤ cm ∧ wtn ≤ wt + 1) ∧ (a8n, a30n, usn, wtn) = SP) (fun (u9 : (Nat → Int32) × (Nat → Int32) × Nat × Nat) t => match u9 with | (a8n, a30n, usn, wtn) => va_P (dC, dI) classes [(m0, .inr (6, oM ga uM cn sn cm usn wtn oc ou ow)), (ga 8, .inl (gc 8, 24, .inl a8n)), (ga 11, .inl (gc 11, 3, .inl a11)), (ga 18, .inl (gc 18, 3, .inl a18)), (ga 20, .inl (gc 20, 3, .inl a20)), (ga 28, .inl (gc 28, 64, .inl a28)), (ga 30, .inl (gc 30, 300, .inl a30n))] t.heap ∧ va_K (dC, dI) classes [(gc 8, .int), (gc 11, .int), (gc 18, .int), (gc 20, .int), (gc 28, .int), (gc 30, .int)] t ∧ va_D A [(m0, .inr (6, oM ga uM cn sn cm usn wtn oc ou ow)), (ga 8, .inl (gc 8, 24, .inl a8n)), (ga 11, .inl (gc 11, 3, .inl a11)), (ga 18, .inl (gc 18, 3, .inl a18)), (ga 20, .inl (gc 20, 3, .inl a20)), (ga 28, .inl (gc 28, 64, .inl a28)), (ga 30, .inl (gc 30, 300, .inl a30n))]) A) ([.ref m0, .int mi] : List Value).toArray s 0 0 A) (F0 m 49 ls []) := by
    intro a8 us2 w2 w3 ls H locs h8 hw3 hus2 hSq0 hl hP hD hS
    refine lv_iload hx hb d_M_agreed_49 (lv_at hl 4 rfl) ?_
    refine lv_iconst (v := 3) hx hb d_M_agreed_51 (by decide) ?_
    refine lv_icmp_ge (tgt := 101) hx hb d_M_agreed_52 rfl (fun hc1 => ?_) (fun hc1 => by first | exact absurd (by decide) hc1 | exact absurd hc1 (by decide))
    refine lv_iload_n hx hb d_M_agreed_101 rfl (lv_at hl 2 rfl) ?_
    refine lv_if_ge (tgt := 106) hx hb d_M_agreed_102 rfl (fun hc2 => ?_) (fun hc2 => ?_)
    · --  0 ≤ w2
      refine lv_aload_n hx hb d_M_agreed_106 rfl (lv_at hl 0 rfl) ?_
      refine va_get (D := (dC, dI)) (ci := 6) (v := .int (nI wt)) (C := "VotedTripleModel") (T := F_M) (N := 37) hx hb hw in_M hown hK hP 0 rfl rfl 29 (by decide) (hw _ k_752) (fun _ h9 => h9) rfl d_M_agreed_107 ?_
      refine lv_sipush (v := 300) hx hb d_M_agreed_110 (by decide) ?_
      refine lv_icmp_ge (tgt := 126) hx hb d_M_agreed_113 rfl (fun hc3 => ?_) (fun hc3 => ?_)
      · --  300 ≤ (nI wt)
        refine lv_aload_n hx hb d_M_agreed_126 rfl (lv_at hl 0 rfl) ?_
        refine lv_dup hx hb d_M_agreed_127 rfl ?_
        refine va_get (D := (dC, dI)) (ci := 6) (v := .int (nI wt)) (C := "VotedTripleModel") (T := F_M) (N := 37) hx hb hw in_M hown hK hP 0 rfl rfl 29 (by decide) (hw _ k_752) (fun _ h9 => h9) rfl d_M_agreed_128 ?_
        refine lv_iconst (v := 1) hx hb d_M_agreed_131 (by decide) ?_
        refine lv_iadd hx hb d_M_agreed_132 ?_
        rw [nI_1 wt]
        refine va_put (D := (dC, dI)) (ci := 6) (v := .int (nI (wt + 1))) (ty := .int) (C := "VotedTripleModel") (T := F_M) (N := 37) hx hb hw in_M ft_M tyok_M nm_M hown hK hP hD hS 0 rfl rfl 29 (by decide) (hw _ k_752) (fun _ h9 => h9) rfl (by decide +kernel) rfl rfl (Nat.le_of_ble_eq_true rfl) d_M_agreed_133 (fun H locs hP hD hS => ?_)
        replace hP : va_P (dC, dI) classes [(m0, .inr (6, oM ga uM cn sn cm us2 (wt + 1) oc ou ow)), (ga 8, .inl (gc 8, 24, .inl a8)), (ga 11, .inl (gc 11, 3, .inl a11)), (ga 18, .inl (gc 18, 3, .inl a18)), (ga 20, .inl (gc 20, 3, .inl a20)), (ga 28, .inl (gc 28, 64, .inl a28)), (ga 30, .inl (gc 30, 300, .inl a30))] H := hP
        replace hD : va_D A [(m0, .inr (6, oM ga uM cn sn cm us2 (wt + 1) oc ou ow)), (ga 8, .inl (gc 8, 24, .inl a8)), (ga 11, .inl (gc 11, 3, .inl a11)), (ga 18, .inl (gc 18, 3, .inl a18)), (ga 20, .inl (gc 20, 3, .inl a20)), (ga 28, .inl (gc 28, 64, .inl a28)), (ga 30, .inl (gc 30, 300, .inl a30))] := hD
        have hP9 := hP.sub (ws' := [(m0, .inr (6, oM ga uM cn sn cm us2 (wt + 1) oc ou ow)), (ga 8, .inl (gc 8, 24, .inl a8)), (ga 11, .inl (gc 11, 3, .inl a11)), (ga 18, .inl (gc 18, 3, .inl a18)), (ga 20, .inl (gc 20, 3, .inl a20)), (ga 28, .inl (gc 28, 64, .inl a28)), (ga 30, .inl (gc 30, 300, .inl a30))]) [0, 1, 2, 3, 4, 5, 6] rfl
        have hD9 := hD.sub (ws' := [(m0, .inr (6, oM ga uM cn sn cm us2 (wt + 1) oc ou ow)), (ga 8, .inl (gc 8, 24, .inl a8)), (ga 11, .inl (gc 11, 3, .inl a11)), (ga 18, .inl (gc 18, 3, .inl a18)), (ga 20, .inl (gc 20, 3, .inl a20)), (ga 28, .inl (gc 28, 64, .inl a28)), (ga 30, .inl (gc 30, 300, .inl a30))]) [0, 1, 2, 3, 4, 5, 6] (by decide) rfl
        have hK9 := hK.sub (tys' := [(gc 8, .int), (gc 11, .int), (gc 18, .int), (gc 20, .int), (gc 28, .int), (gc 30, .int)]) [0, 1, 2, 3, 4, 5] rfl
        refine W.widen (k := 0) (n := 0) (Nat.le_of_ble_eq_true rfl) (Nat.le_of_ble_eq_true rfl) ?_
        exact W.vret hx hb hr (fun t ht hW => ⟨⟨(a8, a30, us2, wt + 1), rfl, ⟨⟨(by repeat' first | with_reducible assumption | with_reducible exact is16_0 | with_reducible exact is16_m _ | with_reducible exact set16' _ | with_reducible apply rgI_upd | with_reducible apply c3_upd | with_reducible apply o3_upd | exact Or.inl rfl | exact ⟨0, by with_reducible assumption, rfl⟩ | omega | assumption), (by repeat' first | with_reducible assumption | with_reducible exact is16_0 | with_reducible exact is16_m _ | with_reducible exact set16' _ | with_reducible apply rgI_upd | with_reducible apply c3_upd | with_reducible apply o3_upd | exact Or.inl rfl | exact ⟨0, by with_reducible assumption, rfl⟩ | omega | assumption), (by omega)⟩, (by rw [hSq0, s_M_agreed_cut49_3]; try (rw [if_pos hc2]); try (rw [if_pos hc3]); all_goals rfl)⟩, by rw [ht]; exact hP9, va_K.moved hW.alike hK9, hD9⟩, hS.F ht⟩) hS.2.2 d_M_agreed_136
      · --  ¬ 300 ≤ (nI wt)
        refine lv_aload_n hx hb d_M_agreed_116 rfl (lv_at hl 0 rfl) ?_
        refine va_get (D := (dC, dI)) (ci := 6) (v := .ref (ga 30)) (C := "VotedTripleModel") (T := F_M) (N := 37) hx hb hw in_M hown hK hP 0 rfl rfl 30 (by decide) (hw _ k_753) (fun _ h9 => h9) rfl d_M_agreed_117 ?_
        refine lv_aload_n hx hb d_M_agreed_120 rfl (lv_at hl 0 rfl) ?_
        refine va_get (D := (dC, dI)) (ci := 6) (v := .int (nI wt)) (C := "VotedTripleModel") (T := F_M) (N := 37) hx hb hw in_M hown hK hP 0 rfl rfl 29 (by decide) (hw _ k_752) (fun _ h9 => h9) rfl d_M_agreed_121 ?_
        refine lv_iload_n hx hb d_M_agreed_124 rfl (lv_at hl 2 rfl) ?_
        refine va_iast hx hb hK hP hD hS 6 5 rfl rfl (vp_in_nI (nle_lt (N := 300) rfl hc3 (by omega) (by decide)) (by decide)) d_M_agreed_125 (fun H locs hP hD hS => ?_)
        replace hP : va_P (dC, dI) classes [(m0, .inr (6, oM ga uM cn sn cm us2 wt oc ou ow)), (ga 8, .inl (gc 8, 24, .inl a8)), (ga 11, .inl (gc 11, 3, .inl a11)), (ga 18, .inl (gc 18, 3, .inl a18)), (ga 20, .inl (gc 20, 3, .inl a20)), (ga 28, .inl (gc 28, 64, .inl a28)), (ga 30, .inl (gc 30, 300, .inl (upd a30 (Int32.toNatClampNeg (nI wt)) w2)))] H := hP
        replace hD : va_D A [(m0, .inr (6, oM ga uM cn sn cm us2 wt oc ou ow)), (ga 8, .inl (gc 8, 24, .inl a8)), (ga 11, .inl (gc 11, 3, .inl a11)), (ga 18, .inl (gc 18, 3, .inl a18)), (ga 20, .inl (gc 20, 3, .inl a20)), (ga 28, .inl (gc 28, 64, .inl a28)), (ga 30, .inl (gc 30, 300, .inl (upd a30 (Int32.toNatClampNeg (nI wt)) w2)))] := hD
        refine lv_aload_n hx hb d_M_agreed_126 rfl (lv_at hl 0 rfl) ?_
        refine lv_dup hx hb d_M_agreed_127 rfl ?_
        refine va_get (D := (dC, dI)) (ci := 6) (v := .int (nI wt)) (C := "VotedTripleModel") (T := F_M) (N := 37) hx hb hw in_M hown hK hP 0 rfl rfl 29 (by decide) (hw _ k_752) (fun _ h9 => h9) rfl d_M_agreed_128 ?_
        refine lv_iconst (v := 1) hx hb d_M_agreed_131 (by decide) ?_
        refine lv_iadd hx hb d_M_agreed_132 ?_
        rw [nI_1 wt]
        refine va_put (D := (dC, dI)) (ci := 6) (v := .int (nI (wt + 1))) (ty := .int) (C := "VotedTripleModel") (T := F_M) (N := 37) hx hb hw in_M ft_M tyok_M nm_M hown hK hP hD hS 0 rfl rfl 29 (by decide) (hw _ k_752) (fun _ h9 => h9) rfl (by decide +kernel) rfl rfl (Nat.le_of_ble_eq_true rfl) d_M_agreed_133 (fun H locs hP hD hS => ?_)
        replace hP : va_P (dC, dI) classes [(m0, .inr (6, oM ga uM cn sn cm us2 (wt + 1) oc ou ow)), (ga 8, .inl (gc 8, 24, .inl a8)), (ga 11, .inl (gc 11, 3, .inl a11)), (ga 18, .inl (gc 18, 3, .inl a18)), (ga 20, .inl (gc 20, 3, .inl a20)), (ga 28, .inl (gc 28, 64, .inl a28)), (ga 30, .inl (gc 30, 300, .inl (upd a30 (Int32.toNatClampNeg (nI wt)) w2)))] H := hP
        replace hD : va_D A [(m0, .inr (6, oM ga uM cn sn cm us2 (wt + 1) oc ou ow)), (ga 8, .inl (gc 8, 24, .inl a8)), (ga 11, .inl (gc 11, 3, .inl a11)), (ga 18, .inl (gc 18, 3, .inl a18)), (ga 20, .inl (gc 20, 3, .inl a20)), (ga 28, .inl (gc 28, 64, .inl a28)), (ga 30, .inl (gc 30, 300, .inl (upd a30 (Int32.toNatClampNeg (nI wt)) w2)))] := hD
        have hP9 := hP.sub (ws' := [(m0, .inr (6, oM ga uM cn sn cm us2 (wt + 1) oc ou ow)), (ga 8, .inl (gc 8, 24, .inl a8)), (ga 11, .inl (gc 11, 3, .inl a11)), (ga 18, .inl (gc 18, 3, .inl a18)), (ga 20, .inl (gc 20, 3, .inl a20)), (ga 28, .inl (gc 28, 64, .inl a28)), (ga 30, .inl (gc 30, 300, .inl (upd a30 (Int32.toNatClampNeg (nI wt)) w2)))]) [0, 1, 2, 3, 4, 5, 6] rfl
        have hD9 := hD.sub (ws' := [(m0, .inr (6, oM ga uM cn sn cm us2 (wt + 1) oc ou ow)), (ga 8, .inl (gc 8, 24, .inl a8)), (ga 11, .inl (gc 11, 3, .inl a11)), (ga 18, .inl (gc 18, 3, .inl a18)), (ga 20, .inl (gc 20, 3, .inl a20)), (ga 28, .inl (gc 28, 64, .inl a28)), (ga 30, .inl (gc 30, 300, .inl (upd a30 (Int32.toNatClampNeg (nI wt)) w2)))]) [0, 1, 2, 3, 4, 5, 6] (by decide) rfl
        have hK9 := hK.sub (tys' := [(gc 8, .int), (gc 11, .int), (gc 18, .int), (gc 20, .int), (gc 28, .int), (gc 30, .int)]) [0, 1, 2, 3, 4, 5] rfl
        refine W.widen (k := 0) (n := 0) (Nat.le_of_ble_eq_true rfl) (Nat.le_of_ble_eq_true rfl) ?_
        exact W.vret hx hb hr (fun t ht hW => ⟨⟨(a8, upd a30 (Int32.toNatClampNeg (nI wt)) w2, us2, wt + 1), rfl, ⟨⟨(by repeat' first | with_reducible assumption | with_reducible exact is16_0 | with_reducible exact is16_m _ | with_reducible exact set16' _ | with_reducible apply rgI_upd | with_reducible apply c3_upd | with_reducible apply o3_upd | exact Or.inl rfl | exact ⟨0, by with_reducible assumption, rfl⟩ | omega | assumption), (by repeat' first | with_reducible assumption | with_reducible exact is16_0 | with_reducible exact is16_m _ | with_reducible exact set16' _ | with_reducible apply rgI_upd | with_reducible apply c3_upd | with_reducible apply o3_upd | exact Or.inl rfl | exact ⟨0, by with_reducible assumption, rfl⟩ | omega | assumption), (by omega)⟩, (by rw [hSq0, s_M_agreed_cut49_3]; try (rw [if_pos hc2]); try (rw [if_neg hc3]); all_goals rfl)⟩, by rw [ht]; exact hP9, va_K.moved hW.alike hK9, hD9⟩, hS.F ht⟩) hS.2.2 d_M_agreed_136
    · --  ¬ 0 ≤ w2
      have hP9 := hP.sub (ws' := [(m0, .inr (6, oM ga uM cn sn cm us2 wt oc ou ow)), (ga 8, .inl (gc 8, 24, .inl a8)), (ga 11, .inl (gc 11, 3, .inl a11)), (ga 18, .inl (gc 18, 3, .inl a18)), (ga 20, .inl (gc 20, 3, .inl a20)), (ga 28, .inl (gc 28, 64, .inl a28)), (ga 30, .inl (gc 30, 300, .inl a30))]) [0, 1, 2, 3, 4, 5, 6] rfl
      have hD9 := hD.sub (ws' := [(m0, .inr (6, oM ga uM cn sn cm us2 wt oc ou ow)), (ga 8, .inl (gc 8, 24, .inl a8)), (ga 11, .inl (gc 11, 3, .inl a11)), (ga 18, .inl (gc 18, 3, .inl a18)), (ga 20, .inl (gc 20, 3, .inl a20)), (ga 28, .inl (gc 28, 64, .inl a28)), (ga 30, .inl (gc 30, 300, .inl a30))]) [0, 1, 2, 3, 4, 5, 6] (by decide) rfl
      have hK9 := hK.sub (tys' := [(gc 8, .int), (gc 11, .int), (gc 18, .int), (gc 20, .int), (gc 28, .int), (gc 30, .int)]) [0, 1, 2, 3, 4, 5] rfl
      refine W.widen (k := 0) (n := 0) (Nat.le_of_ble_eq_true rfl) (Nat.le_of_ble_eq_true rfl) ?_
      exact W.vret hx hb hr (fun t ht hW => ⟨⟨(a8, a30, us2, wt), rfl, ⟨⟨(by repeat' first | with_reducible assumption | with_reducible exact is16_0 | with_reducible exact is16_m _ | with_reducible exact set16' _ | with_reducible apply rgI_upd | with_reducible apply c3_upd | with_reducible apply o3_upd | exact Or.inl rfl | exact ⟨0, by with_reducible assumption, rfl⟩ | omega | assumption), (by repeat' first | with_reducible assumption | with_reducible exact is16_0 | with_reducible exact is16_m _ | with_reducible exact set16' _ | with_reducible apply rgI_upd | with_reducible apply c3_upd | with_reducible apply o3_upd | exact Or.inl rfl | exact ⟨0, by with_reducible assumption, rfl⟩ | omega | assumption), (by omega)⟩, (by rw [hSq0, s_M_agreed_cut49_3]; try (rw [if_neg hc2]); all_goals rfl)⟩, by rw [ht]; exact hP9, va_K.moved hW.alike hK9, hD9⟩, hS.F ht⟩) hS.2.2 d_M_agreed_105
  have cut49_2 : ∀ (a8 : Nat → Int32) (us2 : Nat) (w2 : Int32) (w3 : Int32) (ls : Array Slot) (H : Heap) (locs : List Loc), wdI 24 a8 → is16 w3 → us2 ≤ cm → SP = s_M_agreed_cut49_2 wt a11 a20 a30 a8 us2 w2 w3 →  lv_has ls 5 [(0, .ref m0), (1, .int mi), (2, .int w2), (3, .int w3), (4, .int 2)] → va_P (dC, dI) classes [(m0, .inr (6, oM ga uM cn sn cm us2 wt oc ou ow)), (ga 8, .inl (gc 8, 24, .inl a8)), (ga 11, .inl (gc 11, 3, .inl a11)), (ga 18, .inl (gc 18, 3, .inl a18)), (ga 20, .inl (gc 20, 3, .inl a20)), (ga 28, .inl (gc 28, 64, .inl a28)), (ga 30, .inl (gc 30, 300, .inl a30))] H → va_D A [(m0, .inr (6, oM ga uM cn sn cm us2 wt oc ou ow)), (ga 8, .inl (gc 8, 24, .inl a8)), (ga 11, .inl (gc 11, 3, .inl a11)), (ga 18, .inl (gc 18, 3, .inl a18)), (ga 20, .inl (gc 20, 3, .inl a20)), (ga 28, .inl (gc 28, 64, .inl a28)), (ga 30, .inl (gc 30, 300, .inl a30))] → va_S A s.heap H locs → W p l e (headSpec (tbw y_M_agreed b_M_agreed 5 none) ({ frames := 0, cells := 0, slots := 0, locals := 0 })).room s m ([.ref m0, .int mi] : List Value).toArray below meth c H locs 0 0 (MQ below (va_Qv (fun (u9 : (Nat → Int32) × (Nat → Int32) × Nat × Nat) => match u9 with | (a8n, a30n, usn, wtn) => (wdI 24 a8n ∧ usn ≤ cm ∧ wtn ≤ wt + 1) ∧ (a8n, a30n, usn, wtn) = SP) (fun (u9 : (Nat → Int32) × (Nat → Int32) × Nat × Nat) t => match u9 with | (a8n, a30n, usn, wtn) => va_P (dC, dI) classes [(m0, .inr (6, oM ga uM cn sn cm usn wtn oc ou ow)), (ga 8, .inl (gc 8, 24, .inl a8n)), (ga 11, .inl (gc 11, 3, .inl a11)), (ga 18, .inl (gc 18, 3, .inl a18)), (ga 20, .inl (gc 20, 3, .inl a20)), (ga 28, .inl (gc 28, 64, .inl a28)), (ga 30, .inl (gc 30, 300, .inl a30n))] t.heap ∧ va_K (dC, dI) classes [(gc 8, .int), (gc 11, .int), (gc 18, .int), (gc 20, .int), (gc 28, .int), (gc 30, .int)] t ∧ va_D A [(m0, .inr (6, oM ga uM cn sn cm usn wtn oc ou ow)), (ga 8, .inl (gc 8, 24, .inl a8n)), (ga 11, .inl (gc 11, 3, .inl a11)), (ga 18, .inl (gc 18, 3, .inl a18)), (ga 20, .inl (gc 20, 3, .inl a20)), (ga 28, .inl (gc 28, 64, .inl a28)), (ga 30, .inl (gc 30, 300, .inl a30n))]) A) ([.ref m0, .int mi] : List Value).toArray s 0 0 A) (F0 m 49 ls []) := by
    intro a8 us2 w2 w3 ls H locs h8 hw3 hus2 hSq0 hl hP hD hS
    refine lv_iload hx hb d_M_agreed_49 (lv_at hl 4 rfl) ?_
    refine lv_iconst (v := 3) hx hb d_M_agreed_51 (by decide) ?_
    refine lv_icmp_ge (tgt := 101) hx hb d_M_agreed_52 rfl (fun hc4 => by first | exact absurd hc4 (by decide) | exact absurd (by decide) hc4) (fun hc4 => ?_)
    refine lv_aload_n hx hb d_M_agreed_55 rfl (lv_at hl 0 rfl) ?_
    refine va_get (D := (dC, dI)) (ci := 6) (v := .ref (ga 11)) (C := "VotedTripleModel") (T := F_M) (N := 37) hx hb hw in_M hown hK hP 0 rfl rfl 11 (by decide) (hw _ k_735) (fun _ h9 => h9) rfl d_M_agreed_56 ?_
    refine lv_iload hx hb d_M_agreed_59 (lv_at hl 4 rfl) ?_
    refine va_iald hx hb hK hP 2 1 rfl rfl (by unfold vp_in; decide) d_M_agreed_61 ?_
    refine W.eq (g2 := F0 m 62 ls [.int (a11 2)]) rfl ?_
    refine lv_if_ne (tgt := 95) hx hb d_M_agreed_62 rfl (fun hc5 => ?_) (fun hc5 => ?_)
    · --  ¬ (a11 2) = 0
      refine lv_iinc (k := 4) (v := 3) hx hb d_M_agreed_95 hl rfl rfl (by decide) rfl (fun ls hl => ?_)
      replace hl : lv_has ls 5 [(4, .int 3), (0, .ref m0), (1, .int mi), (2, .int w2), (3, .int w3)] := hl
      refine lv_goto (tgt := 49) hx hb d_M_agreed_98 rfl ?_
      have hSq : SP = s_M_agreed_cut49_3 wt a30 a8 us2 w2 w3 := by rw [hSq0, s_M_agreed_cut49_2]; try (rw [if_neg hc5]); all_goals rfl
      replace hl := lv_sub hl (l' := [(0, .ref m0), (1, .int mi), (2, .int w2), (3, .int w3), (4, .int 3)]) [1, 2, 3, 4, 0] rfl
      replace hP := hP.sub (ws' := [(m0, .inr (6, oM ga uM cn sn cm us2 wt oc ou ow)), (ga 8, .inl (gc 8, 24, .inl a8)), (ga 11, .inl (gc 11, 3, .inl a11)), (ga 18, .inl (gc 18, 3, .inl a18)), (ga 20, .inl (gc 20, 3, .inl a20)), (ga 28, .inl (gc 28, 64, .inl a28)), (ga 30, .inl (gc 30, 300, .inl a30))]) [0, 1, 2, 3, 4, 5, 6] rfl
      replace hD := hD.sub (ws' := [(m0, .inr (6, oM ga uM cn sn cm us2 wt oc ou ow)), (ga 8, .inl (gc 8, 24, .inl a8)), (ga 11, .inl (gc 11, 3, .inl a11)), (ga 18, .inl (gc 18, 3, .inl a18)), (ga 20, .inl (gc 20, 3, .inl a20)), (ga 28, .inl (gc 28, 64, .inl a28)), (ga 30, .inl (gc 30, 300, .inl a30))]) [0, 1, 2, 3, 4, 5, 6] (by decide) rfl
      exact cut49_3 a8 us2 w2 w3 _ _ _ (by repeat' first | with_reducible assumption | with_reducible exact is16_0 | with_reducible exact is16_m _ | with_reducible exact set16' _ | with_reducible apply rgI_upd | with_reducible apply c3_upd | with_reducible apply o3_upd | exact Or.inl rfl | exact ⟨0, by with_reducible assumption, rfl⟩ | omega | assumption) (by repeat' first | with_reducible assumption | with_reducible exact is16_0 | with_reducible exact is16_m _ | with_reducible exact set16' _ | with_reducible apply rgI_upd | with_reducible apply c3_upd | with_reducible apply o3_upd | exact Or.inl rfl | exact ⟨0, by with_reducible assumption, rfl⟩ | omega | assumption) (by repeat' first | with_reducible assumption | with_reducible exact is16_0 | with_reducible exact is16_m _ | with_reducible exact set16' _ | with_reducible apply rgI_upd | with_reducible apply c3_upd | with_reducible apply o3_upd | exact Or.inl rfl | exact ⟨0, by with_reducible assumption, rfl⟩ | omega | assumption) hSq hl hP hD hS
    · --  (a11 2) = 0
      refine lv_aload_n hx hb d_M_agreed_65 rfl (lv_at hl 0 rfl) ?_
      refine va_get (D := (dC, dI)) (ci := 6) (v := .ref (ga 20)) (C := "VotedTripleModel") (T := F_M) (N := 37) hx hb hw in_M hown hK hP 0 rfl rfl 20 (by decide) (hw _ k_744) (fun _ h9 => h9) rfl d_M_agreed_66 ?_
      refine lv_iload hx hb d_M_agreed_69 (lv_at hl 4 rfl) ?_
      refine va_iald hx hb hK hP 4 3 rfl rfl (by unfold vp_in; decide) d_M_agreed_71 ?_
      refine W.eq (g2 := F0 m 72 ls [.int (a20 2)]) rfl ?_
      refine lv_iconst (v := (-1)) hx hb d_M_agreed_72 (by decide) ?_
      refine lv_icmp_eq (tgt := 95) hx hb d_M_agreed_73 rfl (fun hc6 => ?_) (fun hc6 => ?_)
      · --  (a20 2) = (-1)
        refine lv_iinc (k := 4) (v := 3) hx hb d_M_agreed_95 hl rfl rfl (by decide) rfl (fun ls hl => ?_)
        replace hl : lv_has ls 5 [(4, .int 3), (0, .ref m0), (1, .int mi), (2, .int w2), (3, .int w3)] := hl
        refine lv_goto (tgt := 49) hx hb d_M_agreed_98 rfl ?_
        have hSq : SP = s_M_agreed_cut49_3 wt a30 a8 us2 w2 w3 := by rw [hSq0, s_M_agreed_cut49_2]; try (rw [if_pos hc5]); try (rw [if_pos hc6]); all_goals rfl
        replace hl := lv_sub hl (l' := [(0, .ref m0), (1, .int mi), (2, .int w2), (3, .int w3), (4, .int 3)]) [1, 2, 3, 4, 0] rfl
        replace hP := hP.sub (ws' := [(m0, .inr (6, oM ga uM cn sn cm us2 wt oc ou ow)), (ga 8, .inl (gc 8, 24, .inl a8)), (ga 11, .inl (gc 11, 3, .inl a11)), (ga 18, .inl (gc 18, 3, .inl a18)), (ga 20, .inl (gc 20, 3, .inl a20)), (ga 28, .inl (gc 28, 64, .inl a28)), (ga 30, .inl (gc 30, 300, .inl a30))]) [0, 1, 2, 3, 4, 5, 6] rfl
        replace hD := hD.sub (ws' := [(m0, .inr (6, oM ga uM cn sn cm us2 wt oc ou ow)), (ga 8, .inl (gc 8, 24, .inl a8)), (ga 11, .inl (gc 11, 3, .inl a11)), (ga 18, .inl (gc 18, 3, .inl a18)), (ga 20, .inl (gc 20, 3, .inl a20)), (ga 28, .inl (gc 28, 64, .inl a28)), (ga 30, .inl (gc 30, 300, .inl a30))]) [0, 1, 2, 3, 4, 5, 6] (by decide) rfl
        exact cut49_3 a8 us2 w2 w3 _ _ _ (by repeat' first | with_reducible assumption | with_reducible exact is16_0 | with_reducible exact is16_m _ | with_reducible exact set16' _ | with_reducible apply rgI_upd | with_reducible apply c3_upd | with_reducible apply o3_upd | exact Or.inl rfl | exact ⟨0, by with_reducible assumption, rfl⟩ | omega | assumption) (by repeat' first | with_reducible assumption | with_reducible exact is16_0 | with_reducible exact is16_m _ | with_reducible exact set16' _ | with_reducible apply rgI_upd | with_reducible apply c3_upd | with_reducible apply o3_upd | exact Or.inl rfl | exact ⟨0, by with_reducible assumption, rfl⟩ | omega | assumption) (by repeat' first | with_reducible assumption | with_reducible exact is16_0 | with_reducible exact is16_m _ | with_reducible exact set16' _ | with_reducible apply rgI_upd | with_reducible apply c3_upd | with_reducible apply o3_upd | exact Or.inl rfl | exact ⟨0, by with_reducible assumption, rfl⟩ | omega | assumption) hSq hl hP hD hS
      · --  ¬ (a20 2) = (-1)
        refine lv_aload_n hx hb d_M_agreed_76 rfl (lv_at hl 0 rfl) ?_
        refine va_get (D := (dC, dI)) (ci := 6) (v := .ref (ga 8)) (C := "VotedTripleModel") (T := F_M) (N := 37) hx hb hw in_M hown hK hP 0 rfl rfl 8 (by decide) (hw _ k_732) (fun _ h9 => h9) rfl d_M_agreed_77 ?_
        refine lv_bipush (v := 8) hx hb d_M_agreed_80 (by decide) ?_
        refine lv_iload hx hb d_M_agreed_82 (lv_at hl 4 rfl) ?_
        refine lv_imul hx hb d_M_agreed_84 ?_
        refine lv_aload_n hx hb d_M_agreed_85 rfl (lv_at hl 0 rfl) ?_
        refine va_get (D := (dC, dI)) (ci := 6) (v := .ref (ga 20)) (C := "VotedTripleModel") (T := F_M) (N := 37) hx hb hw in_M hown hK hP 0 rfl rfl 20 (by decide) (hw _ k_744) (fun _ h9 => h9) rfl d_M_agreed_86 ?_
        refine lv_iload hx hb d_M_agreed_89 (lv_at hl 4 rfl) ?_
        refine va_iald hx hb hK hP 4 3 rfl rfl (by unfold vp_in; decide) d_M_agreed_91 ?_
        refine W.eq (g2 := F0 m 92 ls [.int (a20 2), .int ((8 : Int32) * (2 : Int32)), .ref (ga 8)]) rfl ?_
        refine lv_iadd hx hb d_M_agreed_92 ?_
        refine lv_iload_n hx hb d_M_agreed_93 rfl (lv_at hl 3 rfl) ?_
        refine va_iast hx hb hK hP hD hS 1 0 rfl rfl (ix8 (mi := 2) (mk := 2) rfl (by decide) (opt_in (h20 2 (by decide)) hc6 (by decide))) d_M_agreed_94 (fun H locs hP hD hS => ?_)
        replace hP : va_P (dC, dI) classes [(m0, .inr (6, oM ga uM cn sn cm us2 wt oc ou ow)), (ga 8, .inl (gc 8, 24, .inl (upd a8 (Int32.toNatClampNeg (((8 : Int32) * (2 : Int32)) + (a20 2))) w3))), (ga 11, .inl (gc 11, 3, .inl a11)), (ga 18, .inl (gc 18, 3, .inl a18)), (ga 20, .inl (gc 20, 3, .inl a20)), (ga 28, .inl (gc 28, 64, .inl a28)), (ga 30, .inl (gc 30, 300, .inl a30))] H := hP
        replace hD : va_D A [(m0, .inr (6, oM ga uM cn sn cm us2 wt oc ou ow)), (ga 8, .inl (gc 8, 24, .inl (upd a8 (Int32.toNatClampNeg (((8 : Int32) * (2 : Int32)) + (a20 2))) w3))), (ga 11, .inl (gc 11, 3, .inl a11)), (ga 18, .inl (gc 18, 3, .inl a18)), (ga 20, .inl (gc 20, 3, .inl a20)), (ga 28, .inl (gc 28, 64, .inl a28)), (ga 30, .inl (gc 30, 300, .inl a30))] := hD
        refine lv_iinc (k := 4) (v := 3) hx hb d_M_agreed_95 hl rfl rfl (by decide) rfl (fun ls hl => ?_)
        replace hl : lv_has ls 5 [(4, .int 3), (0, .ref m0), (1, .int mi), (2, .int w2), (3, .int w3)] := hl
        refine lv_goto (tgt := 49) hx hb d_M_agreed_98 rfl ?_
        have hSq : SP = s_M_agreed_cut49_3 wt a30 (upd a8 (Int32.toNatClampNeg (((8 : Int32) * (2 : Int32)) + (a20 2))) w3) us2 w2 w3 := by rw [hSq0, s_M_agreed_cut49_2]; try (rw [if_pos hc5]); try (rw [if_neg hc6]); all_goals rfl
        replace hl := lv_sub hl (l' := [(0, .ref m0), (1, .int mi), (2, .int w2), (3, .int w3), (4, .int 3)]) [1, 2, 3, 4, 0] rfl
        replace hP := hP.sub (ws' := [(m0, .inr (6, oM ga uM cn sn cm us2 wt oc ou ow)), (ga 8, .inl (gc 8, 24, .inl (upd a8 (Int32.toNatClampNeg (((8 : Int32) * (2 : Int32)) + (a20 2))) w3))), (ga 11, .inl (gc 11, 3, .inl a11)), (ga 18, .inl (gc 18, 3, .inl a18)), (ga 20, .inl (gc 20, 3, .inl a20)), (ga 28, .inl (gc 28, 64, .inl a28)), (ga 30, .inl (gc 30, 300, .inl a30))]) [0, 1, 2, 3, 4, 5, 6] rfl
        replace hD := hD.sub (ws' := [(m0, .inr (6, oM ga uM cn sn cm us2 wt oc ou ow)), (ga 8, .inl (gc 8, 24, .inl (upd a8 (Int32.toNatClampNeg (((8 : Int32) * (2 : Int32)) + (a20 2))) w3))), (ga 11, .inl (gc 11, 3, .inl a11)), (ga 18, .inl (gc 18, 3, .inl a18)), (ga 20, .inl (gc 20, 3, .inl a20)), (ga 28, .inl (gc 28, 64, .inl a28)), (ga 30, .inl (gc 30, 300, .inl a30))]) [0, 1, 2, 3, 4, 5, 6] (by decide) rfl
        exact cut49_3 (upd a8 (Int32.toNatClampNeg (((8 : Int32) * (2 : Int32)) + (a20 2))) w3) us2 w2 w3 _ _ _ (by repeat' first | with_reducible assumption | with_reducible exact is16_0 | with_reducible exact is16_m _ | with_reducible exact set16' _ | with_reducible apply rgI_upd | with_reducible apply c3_upd | with_reducible apply o3_upd | exact Or.inl rfl | exact ⟨0, by with_reducible assumption, rfl⟩ | omega | assumption) (by repeat' first | with_reducible assumption | with_reducible exact is16_0 | with_reducible exact is16_m _ | with_reducible exact set16' _ | with_reducible apply rgI_upd | with_reducible apply c3_upd | with_reducible apply o3_upd | exact Or.inl rfl | exact ⟨0, by with_reducible assumption, rfl⟩ | omega | assumption) (by repeat' first | with_reducible assumption | with_reducible exact is16_0 | with_reducible exact is16_m _ | with_reducible exact set16' _ | with_reducible apply rgI_upd | with_reducible apply c3_upd | with_reducible apply o3_upd | exact Or.inl rfl | exact ⟨0, by with_reducible assumption, rfl⟩ | omega | assumption) hSq hl hP hD hS
  have cut49_1 : ∀ (a8 : Nat → Int32) (us2 : Nat) (w2 : Int32) (w3 : Int32) (ls : Array Slot) (H : Heap) (locs : List Loc), wdI 24 a8 → is16 w3 → us2 ≤ cm → SP = s_M_agreed_cut49_1 wt a11 a20 a30 a8 us2 w2 w3 →  lv_has ls 5 [(0, .ref m0), (1, .int mi), (2, .int w2), (3, .int w3), (4, .int 1)] → va_P (dC, dI) classes [(m0, .inr (6, oM ga uM cn sn cm us2 wt oc ou ow)), (ga 8, .inl (gc 8, 24, .inl a8)), (ga 11, .inl (gc 11, 3, .inl a11)), (ga 18, .inl (gc 18, 3, .inl a18)), (ga 20, .inl (gc 20, 3, .inl a20)), (ga 28, .inl (gc 28, 64, .inl a28)), (ga 30, .inl (gc 30, 300, .inl a30))] H → va_D A [(m0, .inr (6, oM ga uM cn sn cm us2 wt oc ou ow)), (ga 8, .inl (gc 8, 24, .inl a8)), (ga 11, .inl (gc 11, 3, .inl a11)), (ga 18, .inl (gc 18, 3, .inl a18)), (ga 20, .inl (gc 20, 3, .inl a20)), (ga 28, .inl (gc 28, 64, .inl a28)), (ga 30, .inl (gc 30, 300, .inl a30))] → va_S A s.heap H locs → W p l e (headSpec (tbw y_M_agreed b_M_agreed 5 none) ({ frames := 0, cells := 0, slots := 0, locals := 0 })).room s m ([.ref m0, .int mi] : List Value).toArray below meth c H locs 0 0 (MQ below (va_Qv (fun (u9 : (Nat → Int32) × (Nat → Int32) × Nat × Nat) => match u9 with | (a8n, a30n, usn, wtn) => (wdI 24 a8n ∧ usn ≤ cm ∧ wtn ≤ wt + 1) ∧ (a8n, a30n, usn, wtn) = SP) (fun (u9 : (Nat → Int32) × (Nat → Int32) × Nat × Nat) t => match u9 with | (a8n, a30n, usn, wtn) => va_P (dC, dI) classes [(m0, .inr (6, oM ga uM cn sn cm usn wtn oc ou ow)), (ga 8, .inl (gc 8, 24, .inl a8n)), (ga 11, .inl (gc 11, 3, .inl a11)), (ga 18, .inl (gc 18, 3, .inl a18)), (ga 20, .inl (gc 20, 3, .inl a20)), (ga 28, .inl (gc 28, 64, .inl a28)), (ga 30, .inl (gc 30, 300, .inl a30n))] t.heap ∧ va_K (dC, dI) classes [(gc 8, .int), (gc 11, .int), (gc 18, .int), (gc 20, .int), (gc 28, .int), (gc 30, .int)] t ∧ va_D A [(m0, .inr (6, oM ga uM cn sn cm usn wtn oc ou ow)), (ga 8, .inl (gc 8, 24, .inl a8n)), (ga 11, .inl (gc 11, 3, .inl a11)), (ga 18, .inl (gc 18, 3, .inl a18)), (ga 20, .inl (gc 20, 3, .inl a20)), (ga 28, .inl (gc 28, 64, .inl a28)), (ga 30, .inl (gc 30, 300, .inl a30n))]) A) ([.ref m0, .int mi] : List Value).toArray s 0 0 A) (F0 m 49 ls []) := by
    intro a8 us2 w2 w3 ls H locs h8 hw3 hus2 hSq0 hl hP hD hS
    clear cut49_3
    refine lv_iload hx hb d_M_agreed_49 (lv_at hl 4 rfl) ?_
    refine lv_iconst (v := 3) hx hb d_M_agreed_51 (by decide) ?_
    refine lv_icmp_ge (tgt := 101) hx hb d_M_agreed_52 rfl (fun hc7 => by first | exact absurd hc7 (by decide) | exact absurd (by decide) hc7) (fun hc7 => ?_)
    refine lv_aload_n hx hb d_M_agreed_55 rfl (lv_at hl 0 rfl) ?_
    refine va_get (D := (dC, dI)) (ci := 6) (v := .ref (ga 11)) (C := "VotedTripleModel") (T := F_M) (N := 37) hx hb hw in_M hown hK hP 0 rfl rfl 11 (by decide) (hw _ k_735) (fun _ h9 => h9) rfl d_M_agreed_56 ?_
    refine lv_iload hx hb d_M_agreed_59 (lv_at hl 4 rfl) ?_
    refine va_iald hx hb hK hP 2 1 rfl rfl (by unfold vp_in; decide) d_M_agreed_61 ?_
    refine W.eq (g2 := F0 m 62 ls [.int (a11 1)]) rfl ?_
    refine lv_if_ne (tgt := 95) hx hb d_M_agreed_62 rfl (fun hc8 => ?_) (fun hc8 => ?_)
    · --  ¬ (a11 1) = 0
      refine lv_iinc (k := 4) (v := 2) hx hb d_M_agreed_95 hl rfl rfl (by decide) rfl (fun ls hl => ?_)
      replace hl : lv_has ls 5 [(4, .int 2), (0, .ref m0), (1, .int mi), (2, .int w2), (3, .int w3)] := hl
      refine lv_goto (tgt := 49) hx hb d_M_agreed_98 rfl ?_
      have hSq : SP = s_M_agreed_cut49_2 wt a11 a20 a30 a8 us2 w2 w3 := by rw [hSq0, s_M_agreed_cut49_1]; try (rw [if_neg hc8]); all_goals rfl
      replace hl := lv_sub hl (l' := [(0, .ref m0), (1, .int mi), (2, .int w2), (3, .int w3), (4, .int 2)]) [1, 2, 3, 4, 0] rfl
      replace hP := hP.sub (ws' := [(m0, .inr (6, oM ga uM cn sn cm us2 wt oc ou ow)), (ga 8, .inl (gc 8, 24, .inl a8)), (ga 11, .inl (gc 11, 3, .inl a11)), (ga 18, .inl (gc 18, 3, .inl a18)), (ga 20, .inl (gc 20, 3, .inl a20)), (ga 28, .inl (gc 28, 64, .inl a28)), (ga 30, .inl (gc 30, 300, .inl a30))]) [0, 1, 2, 3, 4, 5, 6] rfl
      replace hD := hD.sub (ws' := [(m0, .inr (6, oM ga uM cn sn cm us2 wt oc ou ow)), (ga 8, .inl (gc 8, 24, .inl a8)), (ga 11, .inl (gc 11, 3, .inl a11)), (ga 18, .inl (gc 18, 3, .inl a18)), (ga 20, .inl (gc 20, 3, .inl a20)), (ga 28, .inl (gc 28, 64, .inl a28)), (ga 30, .inl (gc 30, 300, .inl a30))]) [0, 1, 2, 3, 4, 5, 6] (by decide) rfl
      exact cut49_2 a8 us2 w2 w3 _ _ _ (by repeat' first | with_reducible assumption | with_reducible exact is16_0 | with_reducible exact is16_m _ | with_reducible exact set16' _ | with_reducible apply rgI_upd | with_reducible apply c3_upd | with_reducible apply o3_upd | exact Or.inl rfl | exact ⟨0, by with_reducible assumption, rfl⟩ | omega | assumption) (by repeat' first | with_reducible assumption | with_reducible exact is16_0 | with_reducible exact is16_m _ | with_reducible exact set16' _ | with_reducible apply rgI_upd | with_reducible apply c3_upd | with_reducible apply o3_upd | exact Or.inl rfl | exact ⟨0, by with_reducible assumption, rfl⟩ | omega | assumption) (by repeat' first | with_reducible assumption | with_reducible exact is16_0 | with_reducible exact is16_m _ | with_reducible exact set16' _ | with_reducible apply rgI_upd | with_reducible apply c3_upd | with_reducible apply o3_upd | exact Or.inl rfl | exact ⟨0, by with_reducible assumption, rfl⟩ | omega | assumption) hSq hl hP hD hS
    · --  (a11 1) = 0
      refine lv_aload_n hx hb d_M_agreed_65 rfl (lv_at hl 0 rfl) ?_
      refine va_get (D := (dC, dI)) (ci := 6) (v := .ref (ga 20)) (C := "VotedTripleModel") (T := F_M) (N := 37) hx hb hw in_M hown hK hP 0 rfl rfl 20 (by decide) (hw _ k_744) (fun _ h9 => h9) rfl d_M_agreed_66 ?_
      refine lv_iload hx hb d_M_agreed_69 (lv_at hl 4 rfl) ?_
      refine va_iald hx hb hK hP 4 3 rfl rfl (by unfold vp_in; decide) d_M_agreed_71 ?_
      refine W.eq (g2 := F0 m 72 ls [.int (a20 1)]) rfl ?_
      refine lv_iconst (v := (-1)) hx hb d_M_agreed_72 (by decide) ?_
      refine lv_icmp_eq (tgt := 95) hx hb d_M_agreed_73 rfl (fun hc9 => ?_) (fun hc9 => ?_)
      · --  (a20 1) = (-1)
        refine lv_iinc (k := 4) (v := 2) hx hb d_M_agreed_95 hl rfl rfl (by decide) rfl (fun ls hl => ?_)
        replace hl : lv_has ls 5 [(4, .int 2), (0, .ref m0), (1, .int mi), (2, .int w2), (3, .int w3)] := hl
        refine lv_goto (tgt := 49) hx hb d_M_agreed_98 rfl ?_
        have hSq : SP = s_M_agreed_cut49_2 wt a11 a20 a30 a8 us2 w2 w3 := by rw [hSq0, s_M_agreed_cut49_1]; try (rw [if_pos hc8]); try (rw [if_pos hc9]); all_goals rfl
        replace hl := lv_sub hl (l' := [(0, .ref m0), (1, .int mi), (2, .int w2), (3, .int w3), (4, .int 2)]) [1, 2, 3, 4, 0] rfl
        replace hP := hP.sub (ws' := [(m0, .inr (6, oM ga uM cn sn cm us2 wt oc ou ow)), (ga 8, .inl (gc 8, 24, .inl a8)), (ga 11, .inl (gc 11, 3, .inl a11)), (ga 18, .inl (gc 18, 3, .inl a18)), (ga 20, .inl (gc 20, 3, .inl a20)), (ga 28, .inl (gc 28, 64, .inl a28)), (ga 30, .inl (gc 30, 300, .inl a30))]) [0, 1, 2, 3, 4, 5, 6] rfl
        replace hD := hD.sub (ws' := [(m0, .inr (6, oM ga uM cn sn cm us2 wt oc ou ow)), (ga 8, .inl (gc 8, 24, .inl a8)), (ga 11, .inl (gc 11, 3, .inl a11)), (ga 18, .inl (gc 18, 3, .inl a18)), (ga 20, .inl (gc 20, 3, .inl a20)), (ga 28, .inl (gc 28, 64, .inl a28)), (ga 30, .inl (gc 30, 300, .inl a30))]) [0, 1, 2, 3, 4, 5, 6] (by decide) rfl
        exact cut49_2 a8 us2 w2 w3 _ _ _ (by repeat' first | with_reducible assumption | with_reducible exact is16_0 | with_reducible exact is16_m _ | with_reducible exact set16' _ | with_reducible apply rgI_upd | with_reducible apply c3_upd | with_reducible apply o3_upd | exact Or.inl rfl | exact ⟨0, by with_reducible assumption, rfl⟩ | omega | assumption) (by repeat' first | with_reducible assumption | with_reducible exact is16_0 | with_reducible exact is16_m _ | with_reducible exact set16' _ | with_reducible apply rgI_upd | with_reducible apply c3_upd | with_reducible apply o3_upd | exact Or.inl rfl | exact ⟨0, by with_reducible assumption, rfl⟩ | omega | assumption) (by repeat' first | with_reducible assumption | with_reducible exact is16_0 | with_reducible exact is16_m _ | with_reducible exact set16' _ | with_reducible apply rgI_upd | with_reducible apply c3_upd | with_reducible apply o3_upd | exact Or.inl rfl | exact ⟨0, by with_reducible assumption, rfl⟩ | omega | assumption) hSq hl hP hD hS
      · --  ¬ (a20 1) = (-1)
        refine lv_aload_n hx hb d_M_agreed_76 rfl (lv_at hl 0 rfl) ?_
        refine va_get (D := (dC, dI)) (ci := 6) (v := .ref (ga 8)) (C := "VotedTripleModel") (T := F_M) (N := 37) hx hb hw in_M hown hK hP 0 rfl rfl 8 (by decide) (hw _ k_732) (fun _ h9 => h9) rfl d_M_agreed_77 ?_
        refine lv_bipush (v := 8) hx hb d_M_agreed_80 (by decide) ?_
        refine lv_iload hx hb d_M_agreed_82 (lv_at hl 4 rfl) ?_
        refine lv_imul hx hb d_M_agreed_84 ?_
        refine lv_aload_n hx hb d_M_agreed_85 rfl (lv_at hl 0 rfl) ?_
        refine va_get (D := (dC, dI)) (ci := 6) (v := .ref (ga 20)) (C := "VotedTripleModel") (T := F_M) (N := 37) hx hb hw in_M hown hK hP 0 rfl rfl 20 (by decide) (hw _ k_744) (fun _ h9 => h9) rfl d_M_agreed_86 ?_
        refine lv_iload hx hb d_M_agreed_89 (lv_at hl 4 rfl) ?_
        refine va_iald hx hb hK hP 4 3 rfl rfl (by unfold vp_in; decide) d_M_agreed_91 ?_
        refine W.eq (g2 := F0 m 92 ls [.int (a20 1), .int ((8 : Int32) * (1 : Int32)), .ref (ga 8)]) rfl ?_
        refine lv_iadd hx hb d_M_agreed_92 ?_
        refine lv_iload_n hx hb d_M_agreed_93 rfl (lv_at hl 3 rfl) ?_
        refine va_iast hx hb hK hP hD hS 1 0 rfl rfl (ix8 (mi := 1) (mk := 1) rfl (by decide) (opt_in (h20 1 (by decide)) hc9 (by decide))) d_M_agreed_94 (fun H locs hP hD hS => ?_)
        replace hP : va_P (dC, dI) classes [(m0, .inr (6, oM ga uM cn sn cm us2 wt oc ou ow)), (ga 8, .inl (gc 8, 24, .inl (upd a8 (Int32.toNatClampNeg (((8 : Int32) * (1 : Int32)) + (a20 1))) w3))), (ga 11, .inl (gc 11, 3, .inl a11)), (ga 18, .inl (gc 18, 3, .inl a18)), (ga 20, .inl (gc 20, 3, .inl a20)), (ga 28, .inl (gc 28, 64, .inl a28)), (ga 30, .inl (gc 30, 300, .inl a30))] H := hP
        replace hD : va_D A [(m0, .inr (6, oM ga uM cn sn cm us2 wt oc ou ow)), (ga 8, .inl (gc 8, 24, .inl (upd a8 (Int32.toNatClampNeg (((8 : Int32) * (1 : Int32)) + (a20 1))) w3))), (ga 11, .inl (gc 11, 3, .inl a11)), (ga 18, .inl (gc 18, 3, .inl a18)), (ga 20, .inl (gc 20, 3, .inl a20)), (ga 28, .inl (gc 28, 64, .inl a28)), (ga 30, .inl (gc 30, 300, .inl a30))] := hD
        refine lv_iinc (k := 4) (v := 2) hx hb d_M_agreed_95 hl rfl rfl (by decide) rfl (fun ls hl => ?_)
        replace hl : lv_has ls 5 [(4, .int 2), (0, .ref m0), (1, .int mi), (2, .int w2), (3, .int w3)] := hl
        refine lv_goto (tgt := 49) hx hb d_M_agreed_98 rfl ?_
        have hSq : SP = s_M_agreed_cut49_2 wt a11 a20 a30 (upd a8 (Int32.toNatClampNeg (((8 : Int32) * (1 : Int32)) + (a20 1))) w3) us2 w2 w3 := by rw [hSq0, s_M_agreed_cut49_1]; try (rw [if_pos hc8]); try (rw [if_neg hc9]); all_goals rfl
        replace hl := lv_sub hl (l' := [(0, .ref m0), (1, .int mi), (2, .int w2), (3, .int w3), (4, .int 2)]) [1, 2, 3, 4, 0] rfl
        replace hP := hP.sub (ws' := [(m0, .inr (6, oM ga uM cn sn cm us2 wt oc ou ow)), (ga 8, .inl (gc 8, 24, .inl (upd a8 (Int32.toNatClampNeg (((8 : Int32) * (1 : Int32)) + (a20 1))) w3))), (ga 11, .inl (gc 11, 3, .inl a11)), (ga 18, .inl (gc 18, 3, .inl a18)), (ga 20, .inl (gc 20, 3, .inl a20)), (ga 28, .inl (gc 28, 64, .inl a28)), (ga 30, .inl (gc 30, 300, .inl a30))]) [0, 1, 2, 3, 4, 5, 6] rfl
        replace hD := hD.sub (ws' := [(m0, .inr (6, oM ga uM cn sn cm us2 wt oc ou ow)), (ga 8, .inl (gc 8, 24, .inl (upd a8 (Int32.toNatClampNeg (((8 : Int32) * (1 : Int32)) + (a20 1))) w3))), (ga 11, .inl (gc 11, 3, .inl a11)), (ga 18, .inl (gc 18, 3, .inl a18)), (ga 20, .inl (gc 20, 3, .inl a20)), (ga 28, .inl (gc 28, 64, .inl a28)), (ga 30, .inl (gc 30, 300, .inl a30))]) [0, 1, 2, 3, 4, 5, 6] (by decide) rfl
        exact cut49_2 (upd a8 (Int32.toNatClampNeg (((8 : Int32) * (1 : Int32)) + (a20 1))) w3) us2 w2 w3 _ _ _ (by repeat' first | with_reducible assumption | with_reducible exact is16_0 | with_reducible exact is16_m _ | with_reducible exact set16' _ | with_reducible apply rgI_upd | with_reducible apply c3_upd | with_reducible apply o3_upd | exact Or.inl rfl | exact ⟨0, by with_reducible assumption, rfl⟩ | omega | assumption) (by repeat' first | with_reducible assumption | with_reducible exact is16_0 | with_reducible exact is16_m _ | with_reducible exact set16' _ | with_reducible apply rgI_upd | with_reducible apply c3_upd | with_reducible apply o3_upd | exact Or.inl rfl | exact ⟨0, by with_reducible assumption, rfl⟩ | omega | assumption) (by repeat' first | with_reducible assumption | with_reducible exact is16_0 | with_reducible exact is16_m _ | with_reducible exact set16' _ | with_reducible apply rgI_upd | with_reducible apply c3_upd | with_reducible apply o3_upd | exact Or.inl rfl | exact ⟨0, by with_reducible assumption, rfl⟩ | omega | assumption) hSq hl hP hD hS
  have cut49_0 : ∀ (a8 : Nat → Int32) (us2 : Nat) (w2 : Int32) (w3 : Int32) (ls : Array Slot) (H : Heap) (locs : List Loc), wdI 24 a8 → is16 w3 → us2 ≤ cm → SP = s_M_agreed_cut49_0 wt a11 a20 a30 a8 us2 w2 w3 →  lv_has ls 5 [(0, .ref m0), (1, .int mi), (2, .int w2), (3, .int w3), (4, .int 0)] → va_P (dC, dI) classes [(m0, .inr (6, oM ga uM cn sn cm us2 wt oc ou ow)), (ga 8, .inl (gc 8, 24, .inl a8)), (ga 11, .inl (gc 11, 3, .inl a11)), (ga 18, .inl (gc 18, 3, .inl a18)), (ga 20, .inl (gc 20, 3, .inl a20)), (ga 28, .inl (gc 28, 64, .inl a28)), (ga 30, .inl (gc 30, 300, .inl a30))] H → va_D A [(m0, .inr (6, oM ga uM cn sn cm us2 wt oc ou ow)), (ga 8, .inl (gc 8, 24, .inl a8)), (ga 11, .inl (gc 11, 3, .inl a11)), (ga 18, .inl (gc 18, 3, .inl a18)), (ga 20, .inl (gc 20, 3, .inl a20)), (ga 28, .inl (gc 28, 64, .inl a28)), (ga 30, .inl (gc 30, 300, .inl a30))] → va_S A s.heap H locs → W p l e (headSpec (tbw y_M_agreed b_M_agreed 5 none) ({ frames := 0, cells := 0, slots := 0, locals := 0 })).room s m ([.ref m0, .int mi] : List Value).toArray below meth c H locs 0 0 (MQ below (va_Qv (fun (u9 : (Nat → Int32) × (Nat → Int32) × Nat × Nat) => match u9 with | (a8n, a30n, usn, wtn) => (wdI 24 a8n ∧ usn ≤ cm ∧ wtn ≤ wt + 1) ∧ (a8n, a30n, usn, wtn) = SP) (fun (u9 : (Nat → Int32) × (Nat → Int32) × Nat × Nat) t => match u9 with | (a8n, a30n, usn, wtn) => va_P (dC, dI) classes [(m0, .inr (6, oM ga uM cn sn cm usn wtn oc ou ow)), (ga 8, .inl (gc 8, 24, .inl a8n)), (ga 11, .inl (gc 11, 3, .inl a11)), (ga 18, .inl (gc 18, 3, .inl a18)), (ga 20, .inl (gc 20, 3, .inl a20)), (ga 28, .inl (gc 28, 64, .inl a28)), (ga 30, .inl (gc 30, 300, .inl a30n))] t.heap ∧ va_K (dC, dI) classes [(gc 8, .int), (gc 11, .int), (gc 18, .int), (gc 20, .int), (gc 28, .int), (gc 30, .int)] t ∧ va_D A [(m0, .inr (6, oM ga uM cn sn cm usn wtn oc ou ow)), (ga 8, .inl (gc 8, 24, .inl a8n)), (ga 11, .inl (gc 11, 3, .inl a11)), (ga 18, .inl (gc 18, 3, .inl a18)), (ga 20, .inl (gc 20, 3, .inl a20)), (ga 28, .inl (gc 28, 64, .inl a28)), (ga 30, .inl (gc 30, 300, .inl a30n))]) A) ([.ref m0, .int mi] : List Value).toArray s 0 0 A) (F0 m 49 ls []) := by
    intro a8 us2 w2 w3 ls H locs h8 hw3 hus2 hSq0 hl hP hD hS
    clear cut49_3 cut49_2
    refine lv_iload hx hb d_M_agreed_49 (lv_at hl 4 rfl) ?_
    refine lv_iconst (v := 3) hx hb d_M_agreed_51 (by decide) ?_
    refine lv_icmp_ge (tgt := 101) hx hb d_M_agreed_52 rfl (fun hc10 => by first | exact absurd hc10 (by decide) | exact absurd (by decide) hc10) (fun hc10 => ?_)
    refine lv_aload_n hx hb d_M_agreed_55 rfl (lv_at hl 0 rfl) ?_
    refine va_get (D := (dC, dI)) (ci := 6) (v := .ref (ga 11)) (C := "VotedTripleModel") (T := F_M) (N := 37) hx hb hw in_M hown hK hP 0 rfl rfl 11 (by decide) (hw _ k_735) (fun _ h9 => h9) rfl d_M_agreed_56 ?_
    refine lv_iload hx hb d_M_agreed_59 (lv_at hl 4 rfl) ?_
    refine va_iald hx hb hK hP 2 1 rfl rfl (by unfold vp_in; decide) d_M_agreed_61 ?_
    refine W.eq (g2 := F0 m 62 ls [.int (a11 0)]) rfl ?_
    refine lv_if_ne (tgt := 95) hx hb d_M_agreed_62 rfl (fun hc11 => ?_) (fun hc11 => ?_)
    · --  ¬ (a11 0) = 0
      refine lv_iinc (k := 4) (v := 1) hx hb d_M_agreed_95 hl rfl rfl (by decide) rfl (fun ls hl => ?_)
      replace hl : lv_has ls 5 [(4, .int 1), (0, .ref m0), (1, .int mi), (2, .int w2), (3, .int w3)] := hl
      refine lv_goto (tgt := 49) hx hb d_M_agreed_98 rfl ?_
      have hSq : SP = s_M_agreed_cut49_1 wt a11 a20 a30 a8 us2 w2 w3 := by rw [hSq0, s_M_agreed_cut49_0]; try (rw [if_neg hc11]); all_goals rfl
      replace hl := lv_sub hl (l' := [(0, .ref m0), (1, .int mi), (2, .int w2), (3, .int w3), (4, .int 1)]) [1, 2, 3, 4, 0] rfl
      replace hP := hP.sub (ws' := [(m0, .inr (6, oM ga uM cn sn cm us2 wt oc ou ow)), (ga 8, .inl (gc 8, 24, .inl a8)), (ga 11, .inl (gc 11, 3, .inl a11)), (ga 18, .inl (gc 18, 3, .inl a18)), (ga 20, .inl (gc 20, 3, .inl a20)), (ga 28, .inl (gc 28, 64, .inl a28)), (ga 30, .inl (gc 30, 300, .inl a30))]) [0, 1, 2, 3, 4, 5, 6] rfl
      replace hD := hD.sub (ws' := [(m0, .inr (6, oM ga uM cn sn cm us2 wt oc ou ow)), (ga 8, .inl (gc 8, 24, .inl a8)), (ga 11, .inl (gc 11, 3, .inl a11)), (ga 18, .inl (gc 18, 3, .inl a18)), (ga 20, .inl (gc 20, 3, .inl a20)), (ga 28, .inl (gc 28, 64, .inl a28)), (ga 30, .inl (gc 30, 300, .inl a30))]) [0, 1, 2, 3, 4, 5, 6] (by decide) rfl
      exact cut49_1 a8 us2 w2 w3 _ _ _ (by repeat' first | with_reducible assumption | with_reducible exact is16_0 | with_reducible exact is16_m _ | with_reducible exact set16' _ | with_reducible apply rgI_upd | with_reducible apply c3_upd | with_reducible apply o3_upd | exact Or.inl rfl | exact ⟨0, by with_reducible assumption, rfl⟩ | omega | assumption) (by repeat' first | with_reducible assumption | with_reducible exact is16_0 | with_reducible exact is16_m _ | with_reducible exact set16' _ | with_reducible apply rgI_upd | with_reducible apply c3_upd | with_reducible apply o3_upd | exact Or.inl rfl | exact ⟨0, by with_reducible assumption, rfl⟩ | omega | assumption) (by repeat' first | with_reducible assumption | with_reducible exact is16_0 | with_reducible exact is16_m _ | with_reducible exact set16' _ | with_reducible apply rgI_upd | with_reducible apply c3_upd | with_reducible apply o3_upd | exact Or.inl rfl | exact ⟨0, by with_reducible assumption, rfl⟩ | omega | assumption) hSq hl hP hD hS
    · --  (a11 0) = 0
      refine lv_aload_n hx hb d_M_agreed_65 rfl (lv_at hl 0 rfl) ?_
      refine va_get (D := (dC, dI)) (ci := 6) (v := .ref (ga 20)) (C := "VotedTripleModel") (T := F_M) (N := 37) hx hb hw in_M hown hK hP 0 rfl rfl 20 (by decide) (hw _ k_744) (fun _ h9 => h9) rfl d_M_agreed_66 ?_
      refine lv_iload hx hb d_M_agreed_69 (lv_at hl 4 rfl) ?_
      refine va_iald hx hb hK hP 4 3 rfl rfl (by unfold vp_in; decide) d_M_agreed_71 ?_
      refine W.eq (g2 := F0 m 72 ls [.int (a20 0)]) rfl ?_
      refine lv_iconst (v := (-1)) hx hb d_M_agreed_72 (by decide) ?_
      refine lv_icmp_eq (tgt := 95) hx hb d_M_agreed_73 rfl (fun hc12 => ?_) (fun hc12 => ?_)
      · --  (a20 0) = (-1)
        refine lv_iinc (k := 4) (v := 1) hx hb d_M_agreed_95 hl rfl rfl (by decide) rfl (fun ls hl => ?_)
        replace hl : lv_has ls 5 [(4, .int 1), (0, .ref m0), (1, .int mi), (2, .int w2), (3, .int w3)] := hl
        refine lv_goto (tgt := 49) hx hb d_M_agreed_98 rfl ?_
        have hSq : SP = s_M_agreed_cut49_1 wt a11 a20 a30 a8 us2 w2 w3 := by rw [hSq0, s_M_agreed_cut49_0]; try (rw [if_pos hc11]); try (rw [if_pos hc12]); all_goals rfl
        replace hl := lv_sub hl (l' := [(0, .ref m0), (1, .int mi), (2, .int w2), (3, .int w3), (4, .int 1)]) [1, 2, 3, 4, 0] rfl
        replace hP := hP.sub (ws' := [(m0, .inr (6, oM ga uM cn sn cm us2 wt oc ou ow)), (ga 8, .inl (gc 8, 24, .inl a8)), (ga 11, .inl (gc 11, 3, .inl a11)), (ga 18, .inl (gc 18, 3, .inl a18)), (ga 20, .inl (gc 20, 3, .inl a20)), (ga 28, .inl (gc 28, 64, .inl a28)), (ga 30, .inl (gc 30, 300, .inl a30))]) [0, 1, 2, 3, 4, 5, 6] rfl
        replace hD := hD.sub (ws' := [(m0, .inr (6, oM ga uM cn sn cm us2 wt oc ou ow)), (ga 8, .inl (gc 8, 24, .inl a8)), (ga 11, .inl (gc 11, 3, .inl a11)), (ga 18, .inl (gc 18, 3, .inl a18)), (ga 20, .inl (gc 20, 3, .inl a20)), (ga 28, .inl (gc 28, 64, .inl a28)), (ga 30, .inl (gc 30, 300, .inl a30))]) [0, 1, 2, 3, 4, 5, 6] (by decide) rfl
        exact cut49_1 a8 us2 w2 w3 _ _ _ (by repeat' first | with_reducible assumption | with_reducible exact is16_0 | with_reducible exact is16_m _ | with_reducible exact set16' _ | with_reducible apply rgI_upd | with_reducible apply c3_upd | with_reducible apply o3_upd | exact Or.inl rfl | exact ⟨0, by with_reducible assumption, rfl⟩ | omega | assumption) (by repeat' first | with_reducible assumption | with_reducible exact is16_0 | with_reducible exact is16_m _ | with_reducible exact set16' _ | with_reducible apply rgI_upd | with_reducible apply c3_upd | with_reducible apply o3_upd | exact Or.inl rfl | exact ⟨0, by with_reducible assumption, rfl⟩ | omega | assumption) (by repeat' first | with_reducible assumption | with_reducible exact is16_0 | with_reducible exact is16_m _ | with_reducible exact set16' _ | with_reducible apply rgI_upd | with_reducible apply c3_upd | with_reducible apply o3_upd | exact Or.inl rfl | exact ⟨0, by with_reducible assumption, rfl⟩ | omega | assumption) hSq hl hP hD hS
      · --  ¬ (a20 0) = (-1)
        refine lv_aload_n hx hb d_M_agreed_76 rfl (lv_at hl 0 rfl) ?_
        refine va_get (D := (dC, dI)) (ci := 6) (v := .ref (ga 8)) (C := "VotedTripleModel") (T := F_M) (N := 37) hx hb hw in_M hown hK hP 0 rfl rfl 8 (by decide) (hw _ k_732) (fun _ h9 => h9) rfl d_M_agreed_77 ?_
        refine lv_bipush (v := 8) hx hb d_M_agreed_80 (by decide) ?_
        refine lv_iload hx hb d_M_agreed_82 (lv_at hl 4 rfl) ?_
        refine lv_imul hx hb d_M_agreed_84 ?_
        refine lv_aload_n hx hb d_M_agreed_85 rfl (lv_at hl 0 rfl) ?_
        refine va_get (D := (dC, dI)) (ci := 6) (v := .ref (ga 20)) (C := "VotedTripleModel") (T := F_M) (N := 37) hx hb hw in_M hown hK hP 0 rfl rfl 20 (by decide) (hw _ k_744) (fun _ h9 => h9) rfl d_M_agreed_86 ?_
        refine lv_iload hx hb d_M_agreed_89 (lv_at hl 4 rfl) ?_
        refine va_iald hx hb hK hP 4 3 rfl rfl (by unfold vp_in; decide) d_M_agreed_91 ?_
        refine W.eq (g2 := F0 m 92 ls [.int (a20 0), .int ((8 : Int32) * (0 : Int32)), .ref (ga 8)]) rfl ?_
        refine lv_iadd hx hb d_M_agreed_92 ?_
        refine lv_iload_n hx hb d_M_agreed_93 rfl (lv_at hl 3 rfl) ?_
        refine va_iast hx hb hK hP hD hS 1 0 rfl rfl (ix8 (mi := 0) (mk := 0) rfl (by decide) (opt_in (h20 0 (by decide)) hc12 (by decide))) d_M_agreed_94 (fun H locs hP hD hS => ?_)
        replace hP : va_P (dC, dI) classes [(m0, .inr (6, oM ga uM cn sn cm us2 wt oc ou ow)), (ga 8, .inl (gc 8, 24, .inl (upd a8 (Int32.toNatClampNeg (((8 : Int32) * (0 : Int32)) + (a20 0))) w3))), (ga 11, .inl (gc 11, 3, .inl a11)), (ga 18, .inl (gc 18, 3, .inl a18)), (ga 20, .inl (gc 20, 3, .inl a20)), (ga 28, .inl (gc 28, 64, .inl a28)), (ga 30, .inl (gc 30, 300, .inl a30))] H := hP
        replace hD : va_D A [(m0, .inr (6, oM ga uM cn sn cm us2 wt oc ou ow)), (ga 8, .inl (gc 8, 24, .inl (upd a8 (Int32.toNatClampNeg (((8 : Int32) * (0 : Int32)) + (a20 0))) w3))), (ga 11, .inl (gc 11, 3, .inl a11)), (ga 18, .inl (gc 18, 3, .inl a18)), (ga 20, .inl (gc 20, 3, .inl a20)), (ga 28, .inl (gc 28, 64, .inl a28)), (ga 30, .inl (gc 30, 300, .inl a30))] := hD
        refine lv_iinc (k := 4) (v := 1) hx hb d_M_agreed_95 hl rfl rfl (by decide) rfl (fun ls hl => ?_)
        replace hl : lv_has ls 5 [(4, .int 1), (0, .ref m0), (1, .int mi), (2, .int w2), (3, .int w3)] := hl
        refine lv_goto (tgt := 49) hx hb d_M_agreed_98 rfl ?_
        have hSq : SP = s_M_agreed_cut49_1 wt a11 a20 a30 (upd a8 (Int32.toNatClampNeg (((8 : Int32) * (0 : Int32)) + (a20 0))) w3) us2 w2 w3 := by rw [hSq0, s_M_agreed_cut49_0]; try (rw [if_pos hc11]); try (rw [if_neg hc12]); all_goals rfl
        replace hl := lv_sub hl (l' := [(0, .ref m0), (1, .int mi), (2, .int w2), (3, .int w3), (4, .int 1)]) [1, 2, 3, 4, 0] rfl
        replace hP := hP.sub (ws' := [(m0, .inr (6, oM ga uM cn sn cm us2 wt oc ou ow)), (ga 8, .inl (gc 8, 24, .inl (upd a8 (Int32.toNatClampNeg (((8 : Int32) * (0 : Int32)) + (a20 0))) w3))), (ga 11, .inl (gc 11, 3, .inl a11)), (ga 18, .inl (gc 18, 3, .inl a18)), (ga 20, .inl (gc 20, 3, .inl a20)), (ga 28, .inl (gc 28, 64, .inl a28)), (ga 30, .inl (gc 30, 300, .inl a30))]) [0, 1, 2, 3, 4, 5, 6] rfl
        replace hD := hD.sub (ws' := [(m0, .inr (6, oM ga uM cn sn cm us2 wt oc ou ow)), (ga 8, .inl (gc 8, 24, .inl (upd a8 (Int32.toNatClampNeg (((8 : Int32) * (0 : Int32)) + (a20 0))) w3))), (ga 11, .inl (gc 11, 3, .inl a11)), (ga 18, .inl (gc 18, 3, .inl a18)), (ga 20, .inl (gc 20, 3, .inl a20)), (ga 28, .inl (gc 28, 64, .inl a28)), (ga 30, .inl (gc 30, 300, .inl a30))]) [0, 1, 2, 3, 4, 5, 6] (by decide) rfl
        exact cut49_1 (upd a8 (Int32.toNatClampNeg (((8 : Int32) * (0 : Int32)) + (a20 0))) w3) us2 w2 w3 _ _ _ (by repeat' first | with_reducible assumption | with_reducible exact is16_0 | with_reducible exact is16_m _ | with_reducible exact set16' _ | with_reducible apply rgI_upd | with_reducible apply c3_upd | with_reducible apply o3_upd | exact Or.inl rfl | exact ⟨0, by with_reducible assumption, rfl⟩ | omega | assumption) (by repeat' first | with_reducible assumption | with_reducible exact is16_0 | with_reducible exact is16_m _ | with_reducible exact set16' _ | with_reducible apply rgI_upd | with_reducible apply c3_upd | with_reducible apply o3_upd | exact Or.inl rfl | exact ⟨0, by with_reducible assumption, rfl⟩ | omega | assumption) (by repeat' first | with_reducible assumption | with_reducible exact is16_0 | with_reducible exact is16_m _ | with_reducible exact set16' _ | with_reducible apply rgI_upd | with_reducible apply c3_upd | with_reducible apply o3_upd | exact Or.inl rfl | exact ⟨0, by with_reducible assumption, rfl⟩ | omega | assumption) hSq hl hP hD hS
  clear cut49_3 cut49_2 cut49_1
  refine lv_aload_n hx hb d_M_agreed_0 rfl (lv_at hl 0 rfl) ?_
  refine va_get (D := (dC, dI)) (ci := 6) (v := .ref (ga 18)) (C := "VotedTripleModel") (T := F_M) (N := 37) hx hb hw in_M hown hK hP 0 rfl rfl 18 (by decide) (hw _ k_742) (fun _ h9 => h9) rfl d_M_agreed_1 ?_
  refine lv_iload_n hx hb d_M_agreed_4 rfl (lv_at hl 1 rfl) ?_
  refine va_iald hx hb hK hP 3 2 rfl rfl (mi_in hmi hmk) d_M_agreed_5 ?_
  refine lv_istore_n hx hb d_M_agreed_6 rfl hl (by decide) rfl (fun ls hl => ?_)
  replace hl : lv_has ls 5 [(2, .int (a18 (Int32.toNatClampNeg mi))), (0, .ref m0), (1, .int mi)] := hl
  refine lv_iconst (v := 0) hx hb d_M_agreed_7 (by decide) ?_
  refine lv_istore_n hx hb d_M_agreed_8 rfl hl (by decide) rfl (fun ls hl => ?_)
  replace hl : lv_has ls 5 [(3, .int 0), (2, .int (a18 (Int32.toNatClampNeg mi))), (0, .ref m0), (1, .int mi)] := hl
  refine lv_iload_n hx hb d_M_agreed_9 rfl (lv_at hl 1 rfl) ?_
  refine lv_bipush (v := (-2)) hx hb d_M_agreed_10 (by decide) ?_
  refine lv_icmp_ne (tgt := 46) hx hb d_M_agreed_12 rfl (fun hc13 => ?_) (fun hc13 => ?_)
  · --  ¬ (a18 (Int32.toNatClampNeg mi)) = (-2)
    refine lv_iconst (v := 0) hx hb d_M_agreed_46 (by decide) ?_
    refine lv_istore hx hb d_M_agreed_47 hl (by decide) rfl (fun ls hl => ?_)
    replace hl : lv_has ls 5 [(4, .int 0), (3, .int 0), (2, .int (a18 (Int32.toNatClampNeg mi))), (0, .ref m0), (1, .int mi)] := hl
    have hSq : SP = s_M_agreed_cut49_0 wt a11 a20 a30 a8 us (a18 (Int32.toNatClampNeg mi)) 0 := by rw [← hSP, s_M_agreed]; try (rw [if_neg hc13]); all_goals rfl
    replace hl := lv_sub hl (l' := [(0, .ref m0), (1, .int mi), (2, .int (a18 (Int32.toNatClampNeg mi))), (3, .int 0), (4, .int 0)]) [3, 4, 2, 1, 0] rfl
    replace hP := hP.sub (ws' := [(m0, .inr (6, oM ga uM cn sn cm us wt oc ou ow)), (ga 8, .inl (gc 8, 24, .inl a8)), (ga 11, .inl (gc 11, 3, .inl a11)), (ga 18, .inl (gc 18, 3, .inl a18)), (ga 20, .inl (gc 20, 3, .inl a20)), (ga 28, .inl (gc 28, 64, .inl a28)), (ga 30, .inl (gc 30, 300, .inl a30))]) [0, 1, 2, 3, 4, 5, 6] rfl
    replace hD := hD.sub (ws' := [(m0, .inr (6, oM ga uM cn sn cm us wt oc ou ow)), (ga 8, .inl (gc 8, 24, .inl a8)), (ga 11, .inl (gc 11, 3, .inl a11)), (ga 18, .inl (gc 18, 3, .inl a18)), (ga 20, .inl (gc 20, 3, .inl a20)), (ga 28, .inl (gc 28, 64, .inl a28)), (ga 30, .inl (gc 30, 300, .inl a30))]) [0, 1, 2, 3, 4, 5, 6] (by decide) rfl
    exact cut49_0 a8 us (a18 (Int32.toNatClampNeg mi)) 0 _ _ _ (by repeat' first | with_reducible assumption | with_reducible exact is16_0 | with_reducible exact is16_m _ | with_reducible exact set16' _ | with_reducible apply rgI_upd | with_reducible apply c3_upd | with_reducible apply o3_upd | exact Or.inl rfl | exact ⟨0, by with_reducible assumption, rfl⟩ | omega | assumption) (by repeat' first | with_reducible assumption | with_reducible exact is16_0 | with_reducible exact is16_m _ | with_reducible exact set16' _ | with_reducible apply rgI_upd | with_reducible apply c3_upd | with_reducible apply o3_upd | exact Or.inl rfl | exact ⟨0, by with_reducible assumption, rfl⟩ | omega | assumption) (by repeat' first | with_reducible assumption | with_reducible exact is16_0 | with_reducible exact is16_m _ | with_reducible exact set16' _ | with_reducible apply rgI_upd | with_reducible apply c3_upd | with_reducible apply o3_upd | exact Or.inl rfl | exact ⟨0, by with_reducible assumption, rfl⟩ | omega | assumption) hSq hl hP hD hS
  · --  (a18 (Int32.toNatClampNeg mi)) = (-2)
    refine lv_aload_n hx hb d_M_agreed_15 rfl (lv_at hl 2 rfl) ?_
    refine va_get (D := (dC, dI)) (ci := 6) (v := .int (nI us)) (C := "VotedTripleModel") (T := F_M) (N := 37) hx hb hw in_M hown hK hP 0 rfl rfl 27 (by decide) (hw _ k_750) (fun _ h9 => h9) rfl d_M_agreed_16 ?_
    refine lv_aload_n hx hb d_M_agreed_19 rfl (lv_at hl 2 rfl) ?_
    refine va_get (D := (dC, dI)) (ci := 6) (v := .int (nI cm)) (C := "VotedTripleModel") (T := F_M) (N := 37) hx hb hw in_M hown hK hP 0 rfl rfl 26 (by decide) (hw _ k_749) (fun _ h9 => h9) rfl d_M_agreed_20 ?_
    refine lv_icmp_ge (tgt := 46) hx hb d_M_agreed_23 rfl (fun hc14 => ?_) (fun hc14 => ?_)
    · --  (nI cm) ≤ (nI us)
      refine lv_iconst (v := 0) hx hb d_M_agreed_46 (by decide) ?_
      refine lv_istore hx hb d_M_agreed_47 hl (by decide) rfl (fun ls hl => ?_)
      replace hl : lv_has ls 5 [(4, .int 0), (3, .int 0), (2, .int (a18 (Int32.toNatClampNeg mi))), (0, .ref m0), (1, .int mi)] := hl
      have hSq : SP = s_M_agreed_cut49_0 wt a11 a20 a30 a8 us (a18 (Int32.toNatClampNeg mi)) 0 := by rw [← hSP, s_M_agreed]; try (rw [if_pos hc13]); try (rw [if_pos hc14]); all_goals rfl
      replace hl := lv_sub hl (l' := [(0, .ref m0), (1, .int mi), (2, .int (a18 (Int32.toNatClampNeg mi))), (3, .int 0), (4, .int 0)]) [3, 4, 2, 1, 0] rfl
      replace hP := hP.sub (ws' := [(m0, .inr (6, oM ga uM cn sn cm us wt oc ou ow)), (ga 8, .inl (gc 8, 24, .inl a8)), (ga 11, .inl (gc 11, 3, .inl a11)), (ga 18, .inl (gc 18, 3, .inl a18)), (ga 20, .inl (gc 20, 3, .inl a20)), (ga 28, .inl (gc 28, 64, .inl a28)), (ga 30, .inl (gc 30, 300, .inl a30))]) [0, 1, 2, 3, 4, 5, 6] rfl
      replace hD := hD.sub (ws' := [(m0, .inr (6, oM ga uM cn sn cm us wt oc ou ow)), (ga 8, .inl (gc 8, 24, .inl a8)), (ga 11, .inl (gc 11, 3, .inl a11)), (ga 18, .inl (gc 18, 3, .inl a18)), (ga 20, .inl (gc 20, 3, .inl a20)), (ga 28, .inl (gc 28, 64, .inl a28)), (ga 30, .inl (gc 30, 300, .inl a30))]) [0, 1, 2, 3, 4, 5, 6] (by decide) rfl
      exact cut49_0 a8 us (a18 (Int32.toNatClampNeg mi)) 0 _ _ _ (by repeat' first | with_reducible assumption | with_reducible exact is16_0 | with_reducible exact is16_m _ | with_reducible exact set16' _ | with_reducible apply rgI_upd | with_reducible apply c3_upd | with_reducible apply o3_upd | exact Or.inl rfl | exact ⟨0, by with_reducible assumption, rfl⟩ | omega | assumption) (by repeat' first | with_reducible assumption | with_reducible exact is16_0 | with_reducible exact is16_m _ | with_reducible exact set16' _ | with_reducible apply rgI_upd | with_reducible apply c3_upd | with_reducible apply o3_upd | exact Or.inl rfl | exact ⟨0, by with_reducible assumption, rfl⟩ | omega | assumption) (by repeat' first | with_reducible assumption | with_reducible exact is16_0 | with_reducible exact is16_m _ | with_reducible exact set16' _ | with_reducible apply rgI_upd | with_reducible apply c3_upd | with_reducible apply o3_upd | exact Or.inl rfl | exact ⟨0, by with_reducible assumption, rfl⟩ | omega | assumption) hSq hl hP hD hS
    · --  ¬ (nI cm) ≤ (nI us)
      refine lv_aload_n hx hb d_M_agreed_26 rfl (lv_at hl 2 rfl) ?_
      refine va_get (D := (dC, dI)) (ci := 6) (v := .ref (ga 28)) (C := "VotedTripleModel") (T := F_M) (N := 37) hx hb hw in_M hown hK hP 0 rfl rfl 28 (by decide) (hw _ k_751) (fun _ h9 => h9) rfl d_M_agreed_27 ?_
      refine lv_aload_n hx hb d_M_agreed_30 rfl (lv_at hl 2 rfl) ?_
      refine va_get (D := (dC, dI)) (ci := 6) (v := .int (nI us)) (C := "VotedTripleModel") (T := F_M) (N := 37) hx hb hw in_M hown hK hP 0 rfl rfl 27 (by decide) (hw _ k_750) (fun _ h9 => h9) rfl d_M_agreed_31 ?_
      refine va_iald hx hb hK hP 5 4 rfl rfl (vp_in_nI (by have := nle_lt (N := cm) rfl hc14 (by omega) (by omega); omega) (by decide)) d_M_agreed_34 ?_
      have hv15 : is16 (a28 (Int32.toNatClampNeg (nI us))) := rg_at h28 (vp_in_nI (by have := nle_lt (N := cm) rfl hc14 (by omega) (by omega); omega) (by decide)) (by decide)
      have hus1 : us + 1 ≤ cm := by have := nle_lt (N := cm) rfl hc14 (by omega) (by omega); omega
      refine lv_istore_n hx hb d_M_agreed_35 rfl hl (by decide) rfl (fun ls hl => ?_)
      replace hl : lv_has ls 5 [(3, .int (a28 (Int32.toNatClampNeg (nI us)))), (2, .int (a18 (Int32.toNatClampNeg mi))), (0, .ref m0), (1, .int mi)] := hl
      refine lv_aload_n hx hb d_M_agreed_36 rfl (lv_at hl 2 rfl) ?_
      refine lv_dup hx hb d_M_agreed_37 rfl ?_
      refine va_get (D := (dC, dI)) (ci := 6) (v := .int (nI us)) (C := "VotedTripleModel") (T := F_M) (N := 37) hx hb hw in_M hown hK hP 0 rfl rfl 27 (by decide) (hw _ k_750) (fun _ h9 => h9) rfl d_M_agreed_38 ?_
      refine lv_iconst (v := 1) hx hb d_M_agreed_41 (by decide) ?_
      refine lv_iadd hx hb d_M_agreed_42 ?_
      rw [nI_1 us]
      refine va_put (D := (dC, dI)) (ci := 6) (v := .int (nI (us + 1))) (ty := .int) (C := "VotedTripleModel") (T := F_M) (N := 37) hx hb hw in_M ft_M tyok_M nm_M hown hK hP hD hS 0 rfl rfl 27 (by decide) (hw _ k_750) (fun _ h9 => h9) rfl (by decide +kernel) rfl rfl (Nat.le_of_ble_eq_true rfl) d_M_agreed_43 (fun H locs hP hD hS => ?_)
      replace hP : va_P (dC, dI) classes [(m0, .inr (6, oM ga uM cn sn cm (us + 1) wt oc ou ow)), (ga 8, .inl (gc 8, 24, .inl a8)), (ga 11, .inl (gc 11, 3, .inl a11)), (ga 18, .inl (gc 18, 3, .inl a18)), (ga 20, .inl (gc 20, 3, .inl a20)), (ga 28, .inl (gc 28, 64, .inl a28)), (ga 30, .inl (gc 30, 300, .inl a30))] H := hP
      replace hD : va_D A [(m0, .inr (6, oM ga uM cn sn cm (us + 1) wt oc ou ow)), (ga 8, .inl (gc 8, 24, .inl a8)), (ga 11, .inl (gc 11, 3, .inl a11)), (ga 18, .inl (gc 18, 3, .inl a18)), (ga 20, .inl (gc 20, 3, .inl a20)), (ga 28, .inl (gc 28, 64, .inl a28)), (ga 30, .inl (gc 30, 300, .inl a30))] := hD
      refine lv_iconst (v := 0) hx hb d_M_agreed_46 (by decide) ?_
      refine lv_istore hx hb d_M_agreed_47 hl (by decide) rfl (fun ls hl => ?_)
      replace hl : lv_has ls 5 [(4, .int 0), (3, .int (a28 (Int32.toNatClampNeg (nI us)))), (2, .int (a18 (Int32.toNatClampNeg mi))), (0, .ref m0), (1, .int mi)] := hl
      have hSq : SP = s_M_agreed_cut49_0 wt a11 a20 a30 a8 (us + 1) (a18 (Int32.toNatClampNeg mi)) (a28 (Int32.toNatClampNeg (nI us))) := by rw [← hSP, s_M_agreed]; try (rw [if_pos hc13]); try (rw [if_neg hc14]); all_goals rfl
      replace hl := lv_sub hl (l' := [(0, .ref m0), (1, .int mi), (2, .int (a18 (Int32.toNatClampNeg mi))), (3, .int (a28 (Int32.toNatClampNeg (nI us)))), (4, .int 0)]) [3, 4, 2, 1, 0] rfl
      replace hP := hP.sub (ws' := [(m0, .inr (6, oM ga uM cn sn cm (us + 1) wt oc ou ow)), (ga 8, .inl (gc 8, 24, .inl a8)), (ga 11, .inl (gc 11, 3, .inl a11)), (ga 18, .inl (gc 18, 3, .inl a18)), (ga 20, .inl (gc 20, 3, .inl a20)), (ga 28, .inl (gc 28, 64, .inl a28)), (ga 30, .inl (gc 30, 300, .inl a30))]) [0, 1, 2, 3, 4, 5, 6] rfl
      replace hD := hD.sub (ws' := [(m0, .inr (6, oM ga uM cn sn cm (us + 1) wt oc ou ow)), (ga 8, .inl (gc 8, 24, .inl a8)), (ga 11, .inl (gc 11, 3, .inl a11)), (ga 18, .inl (gc 18, 3, .inl a18)), (ga 20, .inl (gc 20, 3, .inl a20)), (ga 28, .inl (gc 28, 64, .inl a28)), (ga 30, .inl (gc 30, 300, .inl a30))]) [0, 1, 2, 3, 4, 5, 6] (by decide) rfl
      exact cut49_0 a8 (us + 1) (a18 (Int32.toNatClampNeg mi)) (a28 (Int32.toNatClampNeg (nI us))) _ _ _ (by repeat' first | with_reducible assumption | with_reducible exact is16_0 | with_reducible exact is16_m _ | with_reducible exact set16' _ | with_reducible apply rgI_upd | with_reducible apply c3_upd | with_reducible apply o3_upd | exact Or.inl rfl | exact ⟨0, by with_reducible assumption, rfl⟩ | omega | assumption) (by repeat' first | with_reducible assumption | with_reducible exact is16_0 | with_reducible exact is16_m _ | with_reducible exact set16' _ | with_reducible apply rgI_upd | with_reducible apply c3_upd | with_reducible apply o3_upd | exact Or.inl rfl | exact ⟨0, by with_reducible assumption, rfl⟩ | omega | assumption) (by repeat' first | with_reducible assumption | with_reducible exact is16_0 | with_reducible exact is16_m _ | with_reducible exact set16' _ | with_reducible apply rgI_upd | with_reducible apply c3_upd | with_reducible apply o3_upd | exact Or.inl rfl | exact ⟨0, by with_reducible assumption, rfl⟩ | omega | assumption) hSq hl hP hD hS

set_option maxHeartbeats 4000000 in
set_option maxRecDepth 100000 in
theorem c_M_lowest (l : Launch) (dC : Nat → ClassId) (dI : Nat → Nat → Nat) (m0 : Nat) (ga : Nat → Nat) (gc : Nat → ClassId) (uM : Nat → Int32) (cn : Nat) (sn : Nat) (cm : Nat) (us : Nat) (wt : Nat) (oc : Nat) (ou : Nat) (ow : Nat) (a11 : Nat → Int32) (a23 : Nat → Int32) (zb : Int32) : Met l y_M_lowest (tbw y_M_lowest b_M_lowest 3 (some .int)) ({ frames := 0, cells := 0, slots := 0, locals := 0 }) (va_Pc [.ref m0, .int zb] (fun U => va_P (dC, dI) classes [(m0, .inr (6, oM ga uM cn sn cm us wt oc ou ow)), (ga 11, .inl (gc 11, 3, .inl a11)), (ga 23, .inl (gc 23, 3, .inl a23))] U.heap ∧ va_K (dC, dI) classes [(gc 11, .int), (gc 23, .boolean)] U)) (vp_Si (fun r => ((i012 r ∧ (zb = 0 → s3 a11 → ¬ r = -1))) ∧ r = s_M_lowest a11 a23 zb)) 0 0 (fun _ => False) := by
  refine Met.ofW (cc := b_M_lowest) (maxL := 3) (ret := (some .int)) (by decide) rfl ?_
  intro p e s m args below meth c s₁ B hml hv
  obtain ⟨rfl, hP, hK⟩ := hv
  have hx := B.exec
  have hb := B.bytes
  have hr := B.returns
  have hts := atoms_spec (ws := (tbw y_M_lowest b_M_lowest 3 (some .int))) B.pre
  have hw : ∀ z9 ∈ tb, z9.before ([.ref m0, .int zb] : List Value).toArray s = true := fun z9 h => hts z9 (List.mem_cons_of_mem _ h)
  have hown : s.vm.findClass "VotedTripleModel" = some m.cls := findClass_of_methodNamed B.named
  have hlocks := B.notSynchronized
  replace hl := lv_entry ([.ref m0, .int zb]) (n := 3) (Nat.le_of_ble_eq_true rfl)
  rw [lg_entry_eq]
  generalize (lg_sl ([.ref m0, .int zb]) ++ List.replicate (3 - (lg_sl ([.ref m0, .int zb])).length) Slot.unset).toArray = ls at hl ⊢
  replace hl : lv_has ls 3 [(0, .ref m0), (1, .int zb)] := hl
  generalize hSP : s_M_lowest a11 a23 zb = SP
  refine lv_iconst (v := 0) hx hb d_M_lowest_0 (by decide) ?_
  refine lv_istore_n hx hb d_M_lowest_1 rfl hl (by decide) rfl (fun ls hl => ?_)
  replace hl : lv_has ls 3 [(2, .int 0), (0, .ref m0), (1, .int zb)] := hl
  refine lv_iload_n hx hb d_M_lowest_2 rfl (lv_at hl 0 rfl) ?_
  refine lv_iconst (v := 3) hx hb d_M_lowest_3 (by decide) ?_
  refine lv_icmp_ge (tgt := 37) hx hb d_M_lowest_4 rfl (fun hc1 => by first | exact absurd hc1 (by decide) | exact absurd (by decide) hc1) (fun hc1 => ?_)
  refine lv_aload_n hx hb d_M_lowest_7 rfl (lv_at hl 1 rfl) ?_
  refine va_get (D := (dC, dI)) (ci := 6) (v := .ref (ga 11)) (C := "VotedTripleModel") (T := F_M) (N := 37) hx hb hw in_M hown hK hP 0 rfl rfl 11 (by decide) (hw _ k_735) (fun _ h9 => h9) rfl d_M_lowest_8 ?_
  refine lv_iload_n hx hb d_M_lowest_11 rfl (lv_at hl 0 rfl) ?_
  refine va_iald hx hb hK hP 1 0 rfl rfl (by unfold vp_in; decide) d_M_lowest_12 ?_
  refine W.eq (g2 := F0 m 13 ls [.int (a11 0)]) rfl ?_
  refine lv_if_ne (tgt := 31) hx hb d_M_lowest_13 rfl (fun hc2 => ?_) (fun hc2 => ?_)
  · --  ¬ (a11 0) = 0
    refine lv_iinc (k := 0) (v := 1) hx hb d_M_lowest_31 hl rfl rfl (by decide) rfl (fun ls hl => ?_)
    replace hl : lv_has ls 3 [(2, .int 1), (0, .ref m0), (1, .int zb)] := hl
    refine lv_goto (tgt := 2) hx hb d_M_lowest_34 rfl ?_
    refine lv_iload_n hx hb d_M_lowest_2 rfl (lv_at hl 0 rfl) ?_
    refine lv_iconst (v := 3) hx hb d_M_lowest_3 (by decide) ?_
    refine lv_icmp_ge (tgt := 37) hx hb d_M_lowest_4 rfl (fun hc3 => by first | exact absurd hc3 (by decide) | exact absurd (by decide) hc3) (fun hc3 => ?_)
    refine lv_aload_n hx hb d_M_lowest_7 rfl (lv_at hl 1 rfl) ?_
    refine va_get (D := (dC, dI)) (ci := 6) (v := .ref (ga 11)) (C := "VotedTripleModel") (T := F_M) (N := 37) hx hb hw in_M hown hK hP 0 rfl rfl 11 (by decide) (hw _ k_735) (fun _ h9 => h9) rfl d_M_lowest_8 ?_
    refine lv_iload_n hx hb d_M_lowest_11 rfl (lv_at hl 0 rfl) ?_
    refine va_iald hx hb hK hP 1 0 rfl rfl (by unfold vp_in; decide) d_M_lowest_12 ?_
    refine W.eq (g2 := F0 m 13 ls [.int (a11 1)]) rfl ?_
    refine lv_if_ne (tgt := 31) hx hb d_M_lowest_13 rfl (fun hc4 => ?_) (fun hc4 => ?_)
    · --  ¬ (a11 1) = 0
      refine lv_iinc (k := 0) (v := 2) hx hb d_M_lowest_31 hl rfl rfl (by decide) rfl (fun ls hl => ?_)
      replace hl : lv_has ls 3 [(2, .int 2), (0, .ref m0), (1, .int zb)] := hl
      refine lv_goto (tgt := 2) hx hb d_M_lowest_34 rfl ?_
      refine lv_iload_n hx hb d_M_lowest_2 rfl (lv_at hl 0 rfl) ?_
      refine lv_iconst (v := 3) hx hb d_M_lowest_3 (by decide) ?_
      refine lv_icmp_ge (tgt := 37) hx hb d_M_lowest_4 rfl (fun hc5 => by first | exact absurd hc5 (by decide) | exact absurd (by decide) hc5) (fun hc5 => ?_)
      refine lv_aload_n hx hb d_M_lowest_7 rfl (lv_at hl 1 rfl) ?_
      refine va_get (D := (dC, dI)) (ci := 6) (v := .ref (ga 11)) (C := "VotedTripleModel") (T := F_M) (N := 37) hx hb hw in_M hown hK hP 0 rfl rfl 11 (by decide) (hw _ k_735) (fun _ h9 => h9) rfl d_M_lowest_8 ?_
      refine lv_iload_n hx hb d_M_lowest_11 rfl (lv_at hl 0 rfl) ?_
      refine va_iald hx hb hK hP 1 0 rfl rfl (by unfold vp_in; decide) d_M_lowest_12 ?_
      refine W.eq (g2 := F0 m 13 ls [.int (a11 2)]) rfl ?_
      refine lv_if_ne (tgt := 31) hx hb d_M_lowest_13 rfl (fun hc6 => ?_) (fun hc6 => ?_)
      · --  ¬ (a11 2) = 0
        refine lv_iinc (k := 0) (v := 3) hx hb d_M_lowest_31 hl rfl rfl (by decide) rfl (fun ls hl => ?_)
        replace hl : lv_has ls 3 [(2, .int 3), (0, .ref m0), (1, .int zb)] := hl
        refine lv_goto (tgt := 2) hx hb d_M_lowest_34 rfl ?_
        refine lv_iload_n hx hb d_M_lowest_2 rfl (lv_at hl 0 rfl) ?_
        refine lv_iconst (v := 3) hx hb d_M_lowest_3 (by decide) ?_
        refine lv_icmp_ge (tgt := 37) hx hb d_M_lowest_4 rfl (fun hc7 => ?_) (fun hc7 => by first | exact absurd (by decide) hc7 | exact absurd hc7 (by decide))
        refine lv_iconst (v := (-1)) hx hb d_M_lowest_37 (by decide) ?_
        exact W.iret (v := (-1)) hx hb hr (fun t ht _ => ⟨_, rfl, ⟨⟨Or.inl rfl, fun hz hs9 => absurd hs9 (by simp only [s3, not_or]; refine ⟨?_, ?_, ?_⟩ <;> first | assumption | exact absurd hz (by assumption))⟩, (by rw [← hSP, s_M_lowest]; try (rw [if_neg hc2]); try (rw [if_neg hc4]); try (rw [if_neg hc6]); all_goals rfl)⟩, ht⟩) (fun _ h => by cases h) d_M_lowest_38
      · --  (a11 2) = 0
        refine lv_iload_n hx hb d_M_lowest_16 rfl (lv_at hl 2 rfl) ?_
        refine lv_if_eq (tgt := 29) hx hb d_M_lowest_17 rfl (fun hc8 => ?_) (fun hc8 => ?_)
        · --  zb = 0
          refine lv_iload_n hx hb d_M_lowest_29 rfl (lv_at hl 0 rfl) ?_
          exact W.iret (v := 2) hx hb hr (fun t ht _ => ⟨_, rfl, ⟨⟨(Or.inr (Or.inr (Or.inr rfl))), fun _ _ => by decide⟩, (by rw [← hSP, s_M_lowest]; try (rw [if_neg hc2]); try (rw [if_neg hc4]); try (rw [if_pos hc6]); try (rw [if_pos hc8]); all_goals rfl)⟩, ht⟩) (fun _ h => by cases h) d_M_lowest_30
        · --  ¬ zb = 0
          refine lv_aload_n hx hb d_M_lowest_20 rfl (lv_at hl 1 rfl) ?_
          refine va_get (D := (dC, dI)) (ci := 6) (v := .ref (ga 23)) (C := "VotedTripleModel") (T := F_M) (N := 37) hx hb hw in_M hown hK hP 0 rfl rfl 23 (by decide) (hw _ k_747) (fun _ h9 => h9) rfl d_M_lowest_21 ?_
          refine lv_iload_n hx hb d_M_lowest_24 rfl (lv_at hl 0 rfl) ?_
          refine va_zald hx hb hK hP 2 1 rfl rfl (by unfold vp_in; decide) d_M_lowest_25 ?_
          refine W.eq (g2 := F0 m 26 ls [.int (a23 2)]) rfl ?_
          refine lv_if_ne (tgt := 31) hx hb d_M_lowest_26 rfl (fun hc9 => ?_) (fun hc9 => ?_)
          · --  ¬ (a23 2) = 0
            refine lv_iinc (k := 0) (v := 3) hx hb d_M_lowest_31 hl rfl rfl (by decide) rfl (fun ls hl => ?_)
            replace hl : lv_has ls 3 [(2, .int 3), (0, .ref m0), (1, .int zb)] := hl
            refine lv_goto (tgt := 2) hx hb d_M_lowest_34 rfl ?_
            refine lv_iload_n hx hb d_M_lowest_2 rfl (lv_at hl 0 rfl) ?_
            refine lv_iconst (v := 3) hx hb d_M_lowest_3 (by decide) ?_
            refine lv_icmp_ge (tgt := 37) hx hb d_M_lowest_4 rfl (fun hc10 => ?_) (fun hc10 => by first | exact absurd (by decide) hc10 | exact absurd hc10 (by decide))
            refine lv_iconst (v := (-1)) hx hb d_M_lowest_37 (by decide) ?_
            exact W.iret (v := (-1)) hx hb hr (fun t ht _ => ⟨_, rfl, ⟨⟨Or.inl rfl, fun hz hs9 => absurd hs9 (by simp only [s3, not_or]; refine ⟨?_, ?_, ?_⟩ <;> first | assumption | exact absurd hz (by assumption))⟩, (by rw [← hSP, s_M_lowest]; try (rw [if_neg hc2]); try (rw [if_neg hc4]); try (rw [if_pos hc6]); try (rw [if_neg hc8]); try (rw [if_neg hc9]); all_goals rfl)⟩, ht⟩) (fun _ h => by cases h) d_M_lowest_38
          · --  (a23 2) = 0
            refine lv_iload_n hx hb d_M_lowest_29 rfl (lv_at hl 0 rfl) ?_
            exact W.iret (v := 2) hx hb hr (fun t ht _ => ⟨_, rfl, ⟨⟨(Or.inr (Or.inr (Or.inr rfl))), fun _ _ => by decide⟩, (by rw [← hSP, s_M_lowest]; try (rw [if_neg hc2]); try (rw [if_neg hc4]); try (rw [if_pos hc6]); try (rw [if_neg hc8]); try (rw [if_pos hc9]); all_goals rfl)⟩, ht⟩) (fun _ h => by cases h) d_M_lowest_30
    · --  (a11 1) = 0
      refine lv_iload_n hx hb d_M_lowest_16 rfl (lv_at hl 2 rfl) ?_
      refine lv_if_eq (tgt := 29) hx hb d_M_lowest_17 rfl (fun hc11 => ?_) (fun hc11 => ?_)
      · --  zb = 0
        refine lv_iload_n hx hb d_M_lowest_29 rfl (lv_at hl 0 rfl) ?_
        exact W.iret (v := 1) hx hb hr (fun t ht _ => ⟨_, rfl, ⟨⟨(Or.inr (Or.inr (Or.inl rfl))), fun _ _ => by decide⟩, (by rw [← hSP, s_M_lowest]; try (rw [if_neg hc2]); try (rw [if_pos hc4]); try (rw [if_pos hc11]); all_goals rfl)⟩, ht⟩) (fun _ h => by cases h) d_M_lowest_30
      · --  ¬ zb = 0
        refine lv_aload_n hx hb d_M_lowest_20 rfl (lv_at hl 1 rfl) ?_
        refine va_get (D := (dC, dI)) (ci := 6) (v := .ref (ga 23)) (C := "VotedTripleModel") (T := F_M) (N := 37) hx hb hw in_M hown hK hP 0 rfl rfl 23 (by decide) (hw _ k_747) (fun _ h9 => h9) rfl d_M_lowest_21 ?_
        refine lv_iload_n hx hb d_M_lowest_24 rfl (lv_at hl 0 rfl) ?_
        refine va_zald hx hb hK hP 2 1 rfl rfl (by unfold vp_in; decide) d_M_lowest_25 ?_
        refine W.eq (g2 := F0 m 26 ls [.int (a23 1)]) rfl ?_
        refine lv_if_ne (tgt := 31) hx hb d_M_lowest_26 rfl (fun hc12 => ?_) (fun hc12 => ?_)
        · --  ¬ (a23 1) = 0
          refine lv_iinc (k := 0) (v := 2) hx hb d_M_lowest_31 hl rfl rfl (by decide) rfl (fun ls hl => ?_)
          replace hl : lv_has ls 3 [(2, .int 2), (0, .ref m0), (1, .int zb)] := hl
          refine lv_goto (tgt := 2) hx hb d_M_lowest_34 rfl ?_
          refine lv_iload_n hx hb d_M_lowest_2 rfl (lv_at hl 0 rfl) ?_
          refine lv_iconst (v := 3) hx hb d_M_lowest_3 (by decide) ?_
          refine lv_icmp_ge (tgt := 37) hx hb d_M_lowest_4 rfl (fun hc13 => by first | exact absurd hc13 (by decide) | exact absurd (by decide) hc13) (fun hc13 => ?_)
          refine lv_aload_n hx hb d_M_lowest_7 rfl (lv_at hl 1 rfl) ?_
          refine va_get (D := (dC, dI)) (ci := 6) (v := .ref (ga 11)) (C := "VotedTripleModel") (T := F_M) (N := 37) hx hb hw in_M hown hK hP 0 rfl rfl 11 (by decide) (hw _ k_735) (fun _ h9 => h9) rfl d_M_lowest_8 ?_
          refine lv_iload_n hx hb d_M_lowest_11 rfl (lv_at hl 0 rfl) ?_
          refine va_iald hx hb hK hP 1 0 rfl rfl (by unfold vp_in; decide) d_M_lowest_12 ?_
          refine W.eq (g2 := F0 m 13 ls [.int (a11 2)]) rfl ?_
          refine lv_if_ne (tgt := 31) hx hb d_M_lowest_13 rfl (fun hc14 => ?_) (fun hc14 => ?_)
          · --  ¬ (a11 2) = 0
            refine lv_iinc (k := 0) (v := 3) hx hb d_M_lowest_31 hl rfl rfl (by decide) rfl (fun ls hl => ?_)
            replace hl : lv_has ls 3 [(2, .int 3), (0, .ref m0), (1, .int zb)] := hl
            refine lv_goto (tgt := 2) hx hb d_M_lowest_34 rfl ?_
            refine lv_iload_n hx hb d_M_lowest_2 rfl (lv_at hl 0 rfl) ?_
            refine lv_iconst (v := 3) hx hb d_M_lowest_3 (by decide) ?_
            refine lv_icmp_ge (tgt := 37) hx hb d_M_lowest_4 rfl (fun hc15 => ?_) (fun hc15 => by first | exact absurd (by decide) hc15 | exact absurd hc15 (by decide))
            refine lv_iconst (v := (-1)) hx hb d_M_lowest_37 (by decide) ?_
            exact W.iret (v := (-1)) hx hb hr (fun t ht _ => ⟨_, rfl, ⟨⟨Or.inl rfl, fun hz hs9 => absurd hs9 (by simp only [s3, not_or]; refine ⟨?_, ?_, ?_⟩ <;> first | assumption | exact absurd hz (by assumption))⟩, (by rw [← hSP, s_M_lowest]; try (rw [if_neg hc2]); try (rw [if_pos hc4]); try (rw [if_neg hc11]); try (rw [if_neg hc12]); try (rw [if_neg hc14]); all_goals rfl)⟩, ht⟩) (fun _ h => by cases h) d_M_lowest_38
          · --  (a11 2) = 0
            refine lv_iload_n hx hb d_M_lowest_16 rfl (lv_at hl 2 rfl) ?_
            refine lv_if_eq (tgt := 29) hx hb d_M_lowest_17 rfl (fun hc16 => by first | exact absurd hc16 (hc11) | exact absurd (hc11) hc16) (fun hc16 => ?_)
            refine lv_aload_n hx hb d_M_lowest_20 rfl (lv_at hl 1 rfl) ?_
            refine va_get (D := (dC, dI)) (ci := 6) (v := .ref (ga 23)) (C := "VotedTripleModel") (T := F_M) (N := 37) hx hb hw in_M hown hK hP 0 rfl rfl 23 (by decide) (hw _ k_747) (fun _ h9 => h9) rfl d_M_lowest_21 ?_
            refine lv_iload_n hx hb d_M_lowest_24 rfl (lv_at hl 0 rfl) ?_
            refine va_zald hx hb hK hP 2 1 rfl rfl (by unfold vp_in; decide) d_M_lowest_25 ?_
            refine W.eq (g2 := F0 m 26 ls [.int (a23 2)]) rfl ?_
            refine lv_if_ne (tgt := 31) hx hb d_M_lowest_26 rfl (fun hc17 => ?_) (fun hc17 => ?_)
            · --  ¬ (a23 2) = 0
              refine lv_iinc (k := 0) (v := 3) hx hb d_M_lowest_31 hl rfl rfl (by decide) rfl (fun ls hl => ?_)
              replace hl : lv_has ls 3 [(2, .int 3), (0, .ref m0), (1, .int zb)] := hl
              refine lv_goto (tgt := 2) hx hb d_M_lowest_34 rfl ?_
              refine lv_iload_n hx hb d_M_lowest_2 rfl (lv_at hl 0 rfl) ?_
              refine lv_iconst (v := 3) hx hb d_M_lowest_3 (by decide) ?_
              refine lv_icmp_ge (tgt := 37) hx hb d_M_lowest_4 rfl (fun hc18 => ?_) (fun hc18 => by first | exact absurd (by decide) hc18 | exact absurd hc18 (by decide))
              refine lv_iconst (v := (-1)) hx hb d_M_lowest_37 (by decide) ?_
              exact W.iret (v := (-1)) hx hb hr (fun t ht _ => ⟨_, rfl, ⟨⟨Or.inl rfl, fun hz hs9 => absurd hs9 (by simp only [s3, not_or]; refine ⟨?_, ?_, ?_⟩ <;> first | assumption | exact absurd hz (by assumption))⟩, (by rw [← hSP, s_M_lowest]; try (rw [if_neg hc2]); try (rw [if_pos hc4]); try (rw [if_neg hc11]); try (rw [if_neg hc12]); try (rw [if_pos hc14]); try (rw [if_neg hc17]); all_goals rfl)⟩, ht⟩) (fun _ h => by cases h) d_M_lowest_38
            · --  (a23 2) = 0
              refine lv_iload_n hx hb d_M_lowest_29 rfl (lv_at hl 0 rfl) ?_
              exact W.iret (v := 2) hx hb hr (fun t ht _ => ⟨_, rfl, ⟨⟨(Or.inr (Or.inr (Or.inr rfl))), fun _ _ => by decide⟩, (by rw [← hSP, s_M_lowest]; try (rw [if_neg hc2]); try (rw [if_pos hc4]); try (rw [if_neg hc11]); try (rw [if_neg hc12]); try (rw [if_pos hc14]); try (rw [if_pos hc17]); all_goals rfl)⟩, ht⟩) (fun _ h => by cases h) d_M_lowest_30
        · --  (a23 1) = 0
          refine lv_iload_n hx hb d_M_lowest_29 rfl (lv_at hl 0 rfl) ?_
          exact W.iret (v := 1) hx hb hr (fun t ht _ => ⟨_, rfl, ⟨⟨(Or.inr (Or.inr (Or.inl rfl))), fun _ _ => by decide⟩, (by rw [← hSP, s_M_lowest]; try (rw [if_neg hc2]); try (rw [if_pos hc4]); try (rw [if_neg hc11]); try (rw [if_pos hc12]); all_goals rfl)⟩, ht⟩) (fun _ h => by cases h) d_M_lowest_30
  · --  (a11 0) = 0
    refine lv_iload_n hx hb d_M_lowest_16 rfl (lv_at hl 2 rfl) ?_
    refine lv_if_eq (tgt := 29) hx hb d_M_lowest_17 rfl (fun hc19 => ?_) (fun hc19 => ?_)
    · --  zb = 0
      refine lv_iload_n hx hb d_M_lowest_29 rfl (lv_at hl 0 rfl) ?_
      exact W.iret (v := 0) hx hb hr (fun t ht _ => ⟨_, rfl, ⟨⟨(Or.inr (Or.inl rfl)), fun _ _ => by decide⟩, (by rw [← hSP, s_M_lowest]; try (rw [if_pos hc2]); try (rw [if_pos hc19]); all_goals rfl)⟩, ht⟩) (fun _ h => by cases h) d_M_lowest_30
    · --  ¬ zb = 0
      refine lv_aload_n hx hb d_M_lowest_20 rfl (lv_at hl 1 rfl) ?_
      refine va_get (D := (dC, dI)) (ci := 6) (v := .ref (ga 23)) (C := "VotedTripleModel") (T := F_M) (N := 37) hx hb hw in_M hown hK hP 0 rfl rfl 23 (by decide) (hw _ k_747) (fun _ h9 => h9) rfl d_M_lowest_21 ?_
      refine lv_iload_n hx hb d_M_lowest_24 rfl (lv_at hl 0 rfl) ?_
      refine va_zald hx hb hK hP 2 1 rfl rfl (by unfold vp_in; decide) d_M_lowest_25 ?_
      refine W.eq (g2 := F0 m 26 ls [.int (a23 0)]) rfl ?_
      refine lv_if_ne (tgt := 31) hx hb d_M_lowest_26 rfl (fun hc20 => ?_) (fun hc20 => ?_)
      · --  ¬ (a23 0) = 0
        refine lv_iinc (k := 0) (v := 1) hx hb d_M_lowest_31 hl rfl rfl (by decide) rfl (fun ls hl => ?_)
        replace hl : lv_has ls 3 [(2, .int 1), (0, .ref m0), (1, .int zb)] := hl
        refine lv_goto (tgt := 2) hx hb d_M_lowest_34 rfl ?_
        refine lv_iload_n hx hb d_M_lowest_2 rfl (lv_at hl 0 rfl) ?_
        refine lv_iconst (v := 3) hx hb d_M_lowest_3 (by decide) ?_
        refine lv_icmp_ge (tgt := 37) hx hb d_M_lowest_4 rfl (fun hc21 => by first | exact absurd hc21 (by decide) | exact absurd (by decide) hc21) (fun hc21 => ?_)
        refine lv_aload_n hx hb d_M_lowest_7 rfl (lv_at hl 1 rfl) ?_
        refine va_get (D := (dC, dI)) (ci := 6) (v := .ref (ga 11)) (C := "VotedTripleModel") (T := F_M) (N := 37) hx hb hw in_M hown hK hP 0 rfl rfl 11 (by decide) (hw _ k_735) (fun _ h9 => h9) rfl d_M_lowest_8 ?_
        refine lv_iload_n hx hb d_M_lowest_11 rfl (lv_at hl 0 rfl) ?_
        refine va_iald hx hb hK hP 1 0 rfl rfl (by unfold vp_in; decide) d_M_lowest_12 ?_
        refine W.eq (g2 := F0 m 13 ls [.int (a11 1)]) rfl ?_
        refine lv_if_ne (tgt := 31) hx hb d_M_lowest_13 rfl (fun hc22 => ?_) (fun hc22 => ?_)
        · --  ¬ (a11 1) = 0
          refine lv_iinc (k := 0) (v := 2) hx hb d_M_lowest_31 hl rfl rfl (by decide) rfl (fun ls hl => ?_)
          replace hl : lv_has ls 3 [(2, .int 2), (0, .ref m0), (1, .int zb)] := hl
          refine lv_goto (tgt := 2) hx hb d_M_lowest_34 rfl ?_
          refine lv_iload_n hx hb d_M_lowest_2 rfl (lv_at hl 0 rfl) ?_
          refine lv_iconst (v := 3) hx hb d_M_lowest_3 (by decide) ?_
          refine lv_icmp_ge (tgt := 37) hx hb d_M_lowest_4 rfl (fun hc23 => by first | exact absurd hc23 (by decide) | exact absurd (by decide) hc23) (fun hc23 => ?_)
          refine lv_aload_n hx hb d_M_lowest_7 rfl (lv_at hl 1 rfl) ?_
          refine va_get (D := (dC, dI)) (ci := 6) (v := .ref (ga 11)) (C := "VotedTripleModel") (T := F_M) (N := 37) hx hb hw in_M hown hK hP 0 rfl rfl 11 (by decide) (hw _ k_735) (fun _ h9 => h9) rfl d_M_lowest_8 ?_
          refine lv_iload_n hx hb d_M_lowest_11 rfl (lv_at hl 0 rfl) ?_
          refine va_iald hx hb hK hP 1 0 rfl rfl (by unfold vp_in; decide) d_M_lowest_12 ?_
          refine W.eq (g2 := F0 m 13 ls [.int (a11 2)]) rfl ?_
          refine lv_if_ne (tgt := 31) hx hb d_M_lowest_13 rfl (fun hc24 => ?_) (fun hc24 => ?_)
          · --  ¬ (a11 2) = 0
            refine lv_iinc (k := 0) (v := 3) hx hb d_M_lowest_31 hl rfl rfl (by decide) rfl (fun ls hl => ?_)
            replace hl : lv_has ls 3 [(2, .int 3), (0, .ref m0), (1, .int zb)] := hl
            refine lv_goto (tgt := 2) hx hb d_M_lowest_34 rfl ?_
            refine lv_iload_n hx hb d_M_lowest_2 rfl (lv_at hl 0 rfl) ?_
            refine lv_iconst (v := 3) hx hb d_M_lowest_3 (by decide) ?_
            refine lv_icmp_ge (tgt := 37) hx hb d_M_lowest_4 rfl (fun hc25 => ?_) (fun hc25 => by first | exact absurd (by decide) hc25 | exact absurd hc25 (by decide))
            refine lv_iconst (v := (-1)) hx hb d_M_lowest_37 (by decide) ?_
            exact W.iret (v := (-1)) hx hb hr (fun t ht _ => ⟨_, rfl, ⟨⟨Or.inl rfl, fun hz hs9 => absurd hs9 (by simp only [s3, not_or]; refine ⟨?_, ?_, ?_⟩ <;> first | assumption | exact absurd hz (by assumption))⟩, (by rw [← hSP, s_M_lowest]; try (rw [if_pos hc2]); try (rw [if_neg hc19]); try (rw [if_neg hc20]); try (rw [if_neg hc22]); try (rw [if_neg hc24]); all_goals rfl)⟩, ht⟩) (fun _ h => by cases h) d_M_lowest_38
          · --  (a11 2) = 0
            refine lv_iload_n hx hb d_M_lowest_16 rfl (lv_at hl 2 rfl) ?_
            refine lv_if_eq (tgt := 29) hx hb d_M_lowest_17 rfl (fun hc26 => by first | exact absurd hc26 (hc19) | exact absurd (hc19) hc26) (fun hc26 => ?_)
            refine lv_aload_n hx hb d_M_lowest_20 rfl (lv_at hl 1 rfl) ?_
            refine va_get (D := (dC, dI)) (ci := 6) (v := .ref (ga 23)) (C := "VotedTripleModel") (T := F_M) (N := 37) hx hb hw in_M hown hK hP 0 rfl rfl 23 (by decide) (hw _ k_747) (fun _ h9 => h9) rfl d_M_lowest_21 ?_
            refine lv_iload_n hx hb d_M_lowest_24 rfl (lv_at hl 0 rfl) ?_
            refine va_zald hx hb hK hP 2 1 rfl rfl (by unfold vp_in; decide) d_M_lowest_25 ?_
            refine W.eq (g2 := F0 m 26 ls [.int (a23 2)]) rfl ?_
            refine lv_if_ne (tgt := 31) hx hb d_M_lowest_26 rfl (fun hc27 => ?_) (fun hc27 => ?_)
            · --  ¬ (a23 2) = 0
              refine lv_iinc (k := 0) (v := 3) hx hb d_M_lowest_31 hl rfl rfl (by decide) rfl (fun ls hl => ?_)
              replace hl : lv_has ls 3 [(2, .int 3), (0, .ref m0), (1, .int zb)] := hl
              refine lv_goto (tgt := 2) hx hb d_M_lowest_34 rfl ?_
              refine lv_iload_n hx hb d_M_lowest_2 rfl (lv_at hl 0 rfl) ?_
              refine lv_iconst (v := 3) hx hb d_M_lowest_3 (by decide) ?_
              refine lv_icmp_ge (tgt := 37) hx hb d_M_lowest_4 rfl (fun hc28 => ?_) (fun hc28 => by first | exact absurd (by decide) hc28 | exact absurd hc28 (by decide))
              refine lv_iconst (v := (-1)) hx hb d_M_lowest_37 (by decide) ?_
              exact W.iret (v := (-1)) hx hb hr (fun t ht _ => ⟨_, rfl, ⟨⟨Or.inl rfl, fun hz hs9 => absurd hs9 (by simp only [s3, not_or]; refine ⟨?_, ?_, ?_⟩ <;> first | assumption | exact absurd hz (by assumption))⟩, (by rw [← hSP, s_M_lowest]; try (rw [if_pos hc2]); try (rw [if_neg hc19]); try (rw [if_neg hc20]); try (rw [if_neg hc22]); try (rw [if_pos hc24]); try (rw [if_neg hc27]); all_goals rfl)⟩, ht⟩) (fun _ h => by cases h) d_M_lowest_38
            · --  (a23 2) = 0
              refine lv_iload_n hx hb d_M_lowest_29 rfl (lv_at hl 0 rfl) ?_
              exact W.iret (v := 2) hx hb hr (fun t ht _ => ⟨_, rfl, ⟨⟨(Or.inr (Or.inr (Or.inr rfl))), fun _ _ => by decide⟩, (by rw [← hSP, s_M_lowest]; try (rw [if_pos hc2]); try (rw [if_neg hc19]); try (rw [if_neg hc20]); try (rw [if_neg hc22]); try (rw [if_pos hc24]); try (rw [if_pos hc27]); all_goals rfl)⟩, ht⟩) (fun _ h => by cases h) d_M_lowest_30
        · --  (a11 1) = 0
          refine lv_iload_n hx hb d_M_lowest_16 rfl (lv_at hl 2 rfl) ?_
          refine lv_if_eq (tgt := 29) hx hb d_M_lowest_17 rfl (fun hc29 => by first | exact absurd hc29 (hc19) | exact absurd (hc19) hc29) (fun hc29 => ?_)
          refine lv_aload_n hx hb d_M_lowest_20 rfl (lv_at hl 1 rfl) ?_
          refine va_get (D := (dC, dI)) (ci := 6) (v := .ref (ga 23)) (C := "VotedTripleModel") (T := F_M) (N := 37) hx hb hw in_M hown hK hP 0 rfl rfl 23 (by decide) (hw _ k_747) (fun _ h9 => h9) rfl d_M_lowest_21 ?_
          refine lv_iload_n hx hb d_M_lowest_24 rfl (lv_at hl 0 rfl) ?_
          refine va_zald hx hb hK hP 2 1 rfl rfl (by unfold vp_in; decide) d_M_lowest_25 ?_
          refine W.eq (g2 := F0 m 26 ls [.int (a23 1)]) rfl ?_
          refine lv_if_ne (tgt := 31) hx hb d_M_lowest_26 rfl (fun hc30 => ?_) (fun hc30 => ?_)
          · --  ¬ (a23 1) = 0
            refine lv_iinc (k := 0) (v := 2) hx hb d_M_lowest_31 hl rfl rfl (by decide) rfl (fun ls hl => ?_)
            replace hl : lv_has ls 3 [(2, .int 2), (0, .ref m0), (1, .int zb)] := hl
            refine lv_goto (tgt := 2) hx hb d_M_lowest_34 rfl ?_
            refine lv_iload_n hx hb d_M_lowest_2 rfl (lv_at hl 0 rfl) ?_
            refine lv_iconst (v := 3) hx hb d_M_lowest_3 (by decide) ?_
            refine lv_icmp_ge (tgt := 37) hx hb d_M_lowest_4 rfl (fun hc31 => by first | exact absurd hc31 (by decide) | exact absurd (by decide) hc31) (fun hc31 => ?_)
            refine lv_aload_n hx hb d_M_lowest_7 rfl (lv_at hl 1 rfl) ?_
            refine va_get (D := (dC, dI)) (ci := 6) (v := .ref (ga 11)) (C := "VotedTripleModel") (T := F_M) (N := 37) hx hb hw in_M hown hK hP 0 rfl rfl 11 (by decide) (hw _ k_735) (fun _ h9 => h9) rfl d_M_lowest_8 ?_
            refine lv_iload_n hx hb d_M_lowest_11 rfl (lv_at hl 0 rfl) ?_
            refine va_iald hx hb hK hP 1 0 rfl rfl (by unfold vp_in; decide) d_M_lowest_12 ?_
            refine W.eq (g2 := F0 m 13 ls [.int (a11 2)]) rfl ?_
            refine lv_if_ne (tgt := 31) hx hb d_M_lowest_13 rfl (fun hc32 => ?_) (fun hc32 => ?_)
            · --  ¬ (a11 2) = 0
              refine lv_iinc (k := 0) (v := 3) hx hb d_M_lowest_31 hl rfl rfl (by decide) rfl (fun ls hl => ?_)
              replace hl : lv_has ls 3 [(2, .int 3), (0, .ref m0), (1, .int zb)] := hl
              refine lv_goto (tgt := 2) hx hb d_M_lowest_34 rfl ?_
              refine lv_iload_n hx hb d_M_lowest_2 rfl (lv_at hl 0 rfl) ?_
              refine lv_iconst (v := 3) hx hb d_M_lowest_3 (by decide) ?_
              refine lv_icmp_ge (tgt := 37) hx hb d_M_lowest_4 rfl (fun hc33 => ?_) (fun hc33 => by first | exact absurd (by decide) hc33 | exact absurd hc33 (by decide))
              refine lv_iconst (v := (-1)) hx hb d_M_lowest_37 (by decide) ?_
              exact W.iret (v := (-1)) hx hb hr (fun t ht _ => ⟨_, rfl, ⟨⟨Or.inl rfl, fun hz hs9 => absurd hs9 (by simp only [s3, not_or]; refine ⟨?_, ?_, ?_⟩ <;> first | assumption | exact absurd hz (by assumption))⟩, (by rw [← hSP, s_M_lowest]; try (rw [if_pos hc2]); try (rw [if_neg hc19]); try (rw [if_neg hc20]); try (rw [if_pos hc22]); try (rw [if_neg hc30]); try (rw [if_neg hc32]); all_goals rfl)⟩, ht⟩) (fun _ h => by cases h) d_M_lowest_38
            · --  (a11 2) = 0
              refine lv_iload_n hx hb d_M_lowest_16 rfl (lv_at hl 2 rfl) ?_
              refine lv_if_eq (tgt := 29) hx hb d_M_lowest_17 rfl (fun hc34 => by first | exact absurd hc34 (hc19) | exact absurd (hc19) hc34) (fun hc34 => ?_)
              refine lv_aload_n hx hb d_M_lowest_20 rfl (lv_at hl 1 rfl) ?_
              refine va_get (D := (dC, dI)) (ci := 6) (v := .ref (ga 23)) (C := "VotedTripleModel") (T := F_M) (N := 37) hx hb hw in_M hown hK hP 0 rfl rfl 23 (by decide) (hw _ k_747) (fun _ h9 => h9) rfl d_M_lowest_21 ?_
              refine lv_iload_n hx hb d_M_lowest_24 rfl (lv_at hl 0 rfl) ?_
              refine va_zald hx hb hK hP 2 1 rfl rfl (by unfold vp_in; decide) d_M_lowest_25 ?_
              refine W.eq (g2 := F0 m 26 ls [.int (a23 2)]) rfl ?_
              refine lv_if_ne (tgt := 31) hx hb d_M_lowest_26 rfl (fun hc35 => ?_) (fun hc35 => ?_)
              · --  ¬ (a23 2) = 0
                refine lv_iinc (k := 0) (v := 3) hx hb d_M_lowest_31 hl rfl rfl (by decide) rfl (fun ls hl => ?_)
                replace hl : lv_has ls 3 [(2, .int 3), (0, .ref m0), (1, .int zb)] := hl
                refine lv_goto (tgt := 2) hx hb d_M_lowest_34 rfl ?_
                refine lv_iload_n hx hb d_M_lowest_2 rfl (lv_at hl 0 rfl) ?_
                refine lv_iconst (v := 3) hx hb d_M_lowest_3 (by decide) ?_
                refine lv_icmp_ge (tgt := 37) hx hb d_M_lowest_4 rfl (fun hc36 => ?_) (fun hc36 => by first | exact absurd (by decide) hc36 | exact absurd hc36 (by decide))
                refine lv_iconst (v := (-1)) hx hb d_M_lowest_37 (by decide) ?_
                exact W.iret (v := (-1)) hx hb hr (fun t ht _ => ⟨_, rfl, ⟨⟨Or.inl rfl, fun hz hs9 => absurd hs9 (by simp only [s3, not_or]; refine ⟨?_, ?_, ?_⟩ <;> first | assumption | exact absurd hz (by assumption))⟩, (by rw [← hSP, s_M_lowest]; try (rw [if_pos hc2]); try (rw [if_neg hc19]); try (rw [if_neg hc20]); try (rw [if_pos hc22]); try (rw [if_neg hc30]); try (rw [if_pos hc32]); try (rw [if_neg hc35]); all_goals rfl)⟩, ht⟩) (fun _ h => by cases h) d_M_lowest_38
              · --  (a23 2) = 0
                refine lv_iload_n hx hb d_M_lowest_29 rfl (lv_at hl 0 rfl) ?_
                exact W.iret (v := 2) hx hb hr (fun t ht _ => ⟨_, rfl, ⟨⟨(Or.inr (Or.inr (Or.inr rfl))), fun _ _ => by decide⟩, (by rw [← hSP, s_M_lowest]; try (rw [if_pos hc2]); try (rw [if_neg hc19]); try (rw [if_neg hc20]); try (rw [if_pos hc22]); try (rw [if_neg hc30]); try (rw [if_pos hc32]); try (rw [if_pos hc35]); all_goals rfl)⟩, ht⟩) (fun _ h => by cases h) d_M_lowest_30
          · --  (a23 1) = 0
            refine lv_iload_n hx hb d_M_lowest_29 rfl (lv_at hl 0 rfl) ?_
            exact W.iret (v := 1) hx hb hr (fun t ht _ => ⟨_, rfl, ⟨⟨(Or.inr (Or.inr (Or.inl rfl))), fun _ _ => by decide⟩, (by rw [← hSP, s_M_lowest]; try (rw [if_pos hc2]); try (rw [if_neg hc19]); try (rw [if_neg hc20]); try (rw [if_pos hc22]); try (rw [if_pos hc30]); all_goals rfl)⟩, ht⟩) (fun _ h => by cases h) d_M_lowest_30
      · --  (a23 0) = 0
        refine lv_iload_n hx hb d_M_lowest_29 rfl (lv_at hl 0 rfl) ?_
        exact W.iret (v := 0) hx hb hr (fun t ht _ => ⟨_, rfl, ⟨⟨(Or.inr (Or.inl rfl)), fun _ _ => by decide⟩, (by rw [← hSP, s_M_lowest]; try (rw [if_pos hc2]); try (rw [if_neg hc19]); try (rw [if_pos hc20]); all_goals rfl)⟩, ht⟩) (fun _ h => by cases h) d_M_lowest_30

set_option maxHeartbeats 4000000 in
set_option maxRecDepth 100000 in
theorem c_M_copyStore (l : Launch) (dC : Nat → ClassId) (dI : Nat → Nat → Nat) (m0 : Nat) (ga : Nat → Nat) (gc : Nat → ClassId) (uM : Nat → Int32) (cn : Nat) (sn : Nat) (cm : Nat) (us : Nat) (wt : Nat) (oc : Nat) (ou : Nat) (ow : Nat) (a9 : Nat → Int32) (a11 : Nat → Int32) (a12 : Nat → Int32) (a21 : Nat → Int32) (a22 : Nat → Int32) (a23 : Nat → Int32) (h21 : o3 32 a21) (sz : Nat) : Met l y_M_copyStore (tbw y_M_copyStore b_M_copyStore 3 none) ({ frames := 2, cells := 0, slots := 0, locals := 46 }) (va_Pc [.ref m0] (fun U => U.heap.size = sz ∧ va_P (dC, dI) classes [(m0, .inr (6, oM ga uM cn sn cm us wt oc ou ow)), (ga 9, .inl (gc 9, 96, .inl a9)), (ga 11, .inl (gc 11, 3, .inl a11)), (ga 12, .inl (gc 12, 3, .inl a12)), (ga 21, .inl (gc 21, 3, .inl a21)), (ga 22, .inl (gc 22, 3, .inl a22)), (ga 23, .inl (gc 23, 3, .inl a23))] U.heap ∧ va_K (dC, dI) classes [(gc 9, .int), (gc 11, .int), (gc 12, .int), (gc 21, .int), (gc 22, .int), (gc 23, .boolean)] U ∧ va_D (fun _ => True) [(m0, .inr (6, oM ga uM cn sn cm us wt oc ou ow)), (ga 9, .inl (gc 9, 96, .inl a9)), (ga 11, .inl (gc 11, 3, .inl a11)), (ga 12, .inl (gc 12, 3, .inl a12)), (ga 21, .inl (gc 21, 3, .inl a21)), (ga 22, .inl (gc 22, 3, .inl a22)), (ga 23, .inl (gc 23, 3, .inl a23))])) (va_Qv (fun (u9 : (Nat → Int32)) => match u9 with | a9n => (True) ∧ (a9n) = s_M_copyStore a9 a11 a12 a21 a22 a23) (fun (u9 : (Nat → Int32)) t => match u9 with | a9n => va_P (dC, dI) classes [(m0, .inr (6, oM ga uM cn sn cm us wt oc ou ow)), (ga 9, .inl (gc 9, 96, .inl a9n)), (ga 11, .inl (gc 11, 3, .inl a11)), (ga 12, .inl (gc 12, 3, .inl a12)), (ga 21, .inl (gc 21, 3, .inl a21)), (ga 22, .inl (gc 22, 3, .inl a22)), (ga 23, .inl (gc 23, 3, .inl a23))] t.heap ∧ va_K (dC, dI) classes [(gc 9, .int), (gc 11, .int), (gc 12, .int), (gc 21, .int), (gc 22, .int), (gc 23, .boolean)] t ∧ va_D (va_A [(m0, .inr (6, oM ga uM cn sn cm us wt oc ou ow)), (ga 9, .inl (gc 9, 96, .inl a9)), (ga 11, .inl (gc 11, 3, .inl a11)), (ga 12, .inl (gc 12, 3, .inl a12)), (ga 21, .inl (gc 21, 3, .inl a21)), (ga 22, .inl (gc 22, 3, .inl a22)), (ga 23, .inl (gc 23, 3, .inl a23))] sz) [(m0, .inr (6, oM ga uM cn sn cm us wt oc ou ow)), (ga 9, .inl (gc 9, 96, .inl a9n)), (ga 11, .inl (gc 11, 3, .inl a11)), (ga 12, .inl (gc 12, 3, .inl a12)), (ga 21, .inl (gc 21, 3, .inl a21)), (ga 22, .inl (gc 22, 3, .inl a22)), (ga 23, .inl (gc 23, 3, .inl a23))]) (va_A [(m0, .inr (6, oM ga uM cn sn cm us wt oc ou ow)), (ga 9, .inl (gc 9, 96, .inl a9)), (ga 11, .inl (gc 11, 3, .inl a11)), (ga 12, .inl (gc 12, 3, .inl a12)), (ga 21, .inl (gc 21, 3, .inl a21)), (ga 22, .inl (gc 22, 3, .inl a22)), (ga 23, .inl (gc 23, 3, .inl a23))] sz)) 0 0 (va_A [(m0, .inr (6, oM ga uM cn sn cm us wt oc ou ow)), (ga 9, .inl (gc 9, 96, .inl a9)), (ga 11, .inl (gc 11, 3, .inl a11)), (ga 12, .inl (gc 12, 3, .inl a12)), (ga 21, .inl (gc 21, 3, .inl a21)), (ga 22, .inl (gc 22, 3, .inl a22)), (ga 23, .inl (gc 23, 3, .inl a23))] sz) := by
  refine Met.ofW (cc := b_M_copyStore) (maxL := 3) (ret := none) (by decide) rfl ?_
  intro p e s m args below meth c s₁ B hml hv
  obtain ⟨rfl, hsz, hP, hK, hD0⟩ := hv
  have hx := B.exec
  have hb := B.bytes
  have hr := B.returns
  have hts := atoms_spec (ws := (tbw y_M_copyStore b_M_copyStore 3 none)) B.pre
  have hw : ∀ z9 ∈ tb, z9.before ([.ref m0] : List Value).toArray s = true := fun z9 h => hts z9 (List.mem_cons_of_mem _ h)
  have hown : s.vm.findClass "VotedTripleModel" = some m.cls := findClass_of_methodNamed B.named
  have hlocks := B.notSynchronized
  subst hsz
  replace hD := hD0.self (sz := s.heap.size)
  generalize hAe : va_A [(m0, .inr (6, oM ga uM cn sn cm us wt oc ou ow)), (ga 9, .inl (gc 9, 96, .inl a9)), (ga 11, .inl (gc 11, 3, .inl a11)), (ga 12, .inl (gc 12, 3, .inl a12)), (ga 21, .inl (gc 21, 3, .inl a21)), (ga 22, .inl (gc 22, 3, .inl a22)), (ga 23, .inl (gc 23, 3, .inl a23))] s.heap.size = A at hD ⊢
  have hA : ∀ q : Nat, s.heap.size ≤ q → A q := fun q h => by rw [← hAe]; exact Or.inr h
  have hS : va_S A s.heap s.heap [] := va_S.rf
  replace hl := lv_entry ([.ref m0]) (n := 3) (Nat.le_of_ble_eq_true rfl)
  rw [lg_entry_eq]
  generalize (lg_sl ([.ref m0]) ++ List.replicate (3 - (lg_sl ([.ref m0])).length) Slot.unset).toArray = ls at hl ⊢
  replace hl : lv_has ls 3 [(0, .ref m0)] := hl
  generalize hSP : s_M_copyStore a9 a11 a12 a21 a22 a23 = SP
  have cut0_24_3 : ∀ (a9 : Nat → Int32) (ls : Array Slot) (H : Heap) (locs : List Loc), ¬ a21 0 = (-1) → SP = s_M_copyStore_cut0_24_3 a9 →  lv_has ls 3 [(0, .ref m0), (1, .int 0), (2, .int 3)] → va_P (dC, dI) classes [(m0, .inr (6, oM ga uM cn sn cm us wt oc ou ow)), (ga 9, .inl (gc 9, 96, .inl a9)), (ga 11, .inl (gc 11, 3, .inl a11)), (ga 12, .inl (gc 12, 3, .inl a12)), (ga 21, .inl (gc 21, 3, .inl a21)), (ga 22, .inl (gc 22, 3, .inl a22)), (ga 23, .inl (gc 23, 3, .inl a23))] H → va_D A [(m0, .inr (6, oM ga uM cn sn cm us wt oc ou ow)), (ga 9, .inl (gc 9, 96, .inl a9)), (ga 11, .inl (gc 11, 3, .inl a11)), (ga 12, .inl (gc 12, 3, .inl a12)), (ga 21, .inl (gc 21, 3, .inl a21)), (ga 22, .inl (gc 22, 3, .inl a22)), (ga 23, .inl (gc 23, 3, .inl a23))] → va_S A s.heap H locs → W p l e (headSpec (tbw y_M_copyStore b_M_copyStore 3 none) ({ frames := 2, cells := 0, slots := 0, locals := 46 })).room s m ([.ref m0] : List Value).toArray below meth c H locs 0 0 (MQ below (va_Qv (fun (u9 : (Nat → Int32)) => match u9 with | a9n => (True) ∧ (a9n) = SP) (fun (u9 : (Nat → Int32)) t => match u9 with | a9n => va_P (dC, dI) classes [(m0, .inr (6, oM ga uM cn sn cm us wt oc ou ow)), (ga 9, .inl (gc 9, 96, .inl a9n)), (ga 11, .inl (gc 11, 3, .inl a11)), (ga 12, .inl (gc 12, 3, .inl a12)), (ga 21, .inl (gc 21, 3, .inl a21)), (ga 22, .inl (gc 22, 3, .inl a22)), (ga 23, .inl (gc 23, 3, .inl a23))] t.heap ∧ va_K (dC, dI) classes [(gc 9, .int), (gc 11, .int), (gc 12, .int), (gc 21, .int), (gc 22, .int), (gc 23, .boolean)] t ∧ va_D A [(m0, .inr (6, oM ga uM cn sn cm us wt oc ou ow)), (ga 9, .inl (gc 9, 96, .inl a9n)), (ga 11, .inl (gc 11, 3, .inl a11)), (ga 12, .inl (gc 12, 3, .inl a12)), (ga 21, .inl (gc 21, 3, .inl a21)), (ga 22, .inl (gc 22, 3, .inl a22)), (ga 23, .inl (gc 23, 3, .inl a23))]) A) ([.ref m0] : List Value).toArray s 0 0 A) (F0 m 24 ls []) := by
    intro a9 ls H locs hne hSq0 hl hP hD hS
    refine lv_iload_n hx hb d_M_copyStore_24 rfl (lv_at hl 2 rfl) ?_
    refine lv_iconst (v := 3) hx hb d_M_copyStore_25 (by decide) ?_
    refine lv_icmp_ge (tgt := 85) hx hb d_M_copyStore_26 rfl (fun hc1 => ?_) (fun hc1 => by first | exact absurd (by decide) hc1 | exact absurd hc1 (by decide))
    have hP9 := hP.sub (ws' := [(m0, .inr (6, oM ga uM cn sn cm us wt oc ou ow)), (ga 9, .inl (gc 9, 96, .inl a9)), (ga 11, .inl (gc 11, 3, .inl a11)), (ga 12, .inl (gc 12, 3, .inl a12)), (ga 21, .inl (gc 21, 3, .inl a21)), (ga 22, .inl (gc 22, 3, .inl a22)), (ga 23, .inl (gc 23, 3, .inl a23))]) [0, 1, 2, 3, 4, 5, 6] rfl
    have hD9 := hD.sub (ws' := [(m0, .inr (6, oM ga uM cn sn cm us wt oc ou ow)), (ga 9, .inl (gc 9, 96, .inl a9)), (ga 11, .inl (gc 11, 3, .inl a11)), (ga 12, .inl (gc 12, 3, .inl a12)), (ga 21, .inl (gc 21, 3, .inl a21)), (ga 22, .inl (gc 22, 3, .inl a22)), (ga 23, .inl (gc 23, 3, .inl a23))]) [0, 1, 2, 3, 4, 5, 6] (by decide) rfl
    have hK9 := hK.sub (tys' := [(gc 9, .int), (gc 11, .int), (gc 12, .int), (gc 21, .int), (gc 22, .int), (gc 23, .boolean)]) [0, 1, 2, 3, 4, 5] rfl
    refine W.widen (k := 0) (n := 0) (Nat.le_of_ble_eq_true rfl) (Nat.le_of_ble_eq_true rfl) ?_
    exact W.vret hx hb hr (fun t ht hW => ⟨⟨(a9), rfl, ⟨trivial, (by rw [hSq0, s_M_copyStore_cut0_24_3]; all_goals rfl)⟩, by rw [ht]; exact hP9, va_K.moved hW.alike hK9, hD9⟩, hS.F ht⟩) hS.2.2 d_M_copyStore_85
  have cut0_24_2 : ∀ (a9 : Nat → Int32) (ls : Array Slot) (H : Heap) (locs : List Loc), ¬ a21 0 = (-1) → SP = s_M_copyStore_cut0_24_2 a11 a12 a21 a22 a9 →  lv_has ls 3 [(0, .ref m0), (1, .int 0), (2, .int 2)] → va_P (dC, dI) classes [(m0, .inr (6, oM ga uM cn sn cm us wt oc ou ow)), (ga 9, .inl (gc 9, 96, .inl a9)), (ga 11, .inl (gc 11, 3, .inl a11)), (ga 12, .inl (gc 12, 3, .inl a12)), (ga 21, .inl (gc 21, 3, .inl a21)), (ga 22, .inl (gc 22, 3, .inl a22)), (ga 23, .inl (gc 23, 3, .inl a23))] H → va_D A [(m0, .inr (6, oM ga uM cn sn cm us wt oc ou ow)), (ga 9, .inl (gc 9, 96, .inl a9)), (ga 11, .inl (gc 11, 3, .inl a11)), (ga 12, .inl (gc 12, 3, .inl a12)), (ga 21, .inl (gc 21, 3, .inl a21)), (ga 22, .inl (gc 22, 3, .inl a22)), (ga 23, .inl (gc 23, 3, .inl a23))] → va_S A s.heap H locs → W p l e (headSpec (tbw y_M_copyStore b_M_copyStore 3 none) ({ frames := 2, cells := 0, slots := 0, locals := 46 })).room s m ([.ref m0] : List Value).toArray below meth c H locs 0 0 (MQ below (va_Qv (fun (u9 : (Nat → Int32)) => match u9 with | a9n => (True) ∧ (a9n) = SP) (fun (u9 : (Nat → Int32)) t => match u9 with | a9n => va_P (dC, dI) classes [(m0, .inr (6, oM ga uM cn sn cm us wt oc ou ow)), (ga 9, .inl (gc 9, 96, .inl a9n)), (ga 11, .inl (gc 11, 3, .inl a11)), (ga 12, .inl (gc 12, 3, .inl a12)), (ga 21, .inl (gc 21, 3, .inl a21)), (ga 22, .inl (gc 22, 3, .inl a22)), (ga 23, .inl (gc 23, 3, .inl a23))] t.heap ∧ va_K (dC, dI) classes [(gc 9, .int), (gc 11, .int), (gc 12, .int), (gc 21, .int), (gc 22, .int), (gc 23, .boolean)] t ∧ va_D A [(m0, .inr (6, oM ga uM cn sn cm us wt oc ou ow)), (ga 9, .inl (gc 9, 96, .inl a9n)), (ga 11, .inl (gc 11, 3, .inl a11)), (ga 12, .inl (gc 12, 3, .inl a12)), (ga 21, .inl (gc 21, 3, .inl a21)), (ga 22, .inl (gc 22, 3, .inl a22)), (ga 23, .inl (gc 23, 3, .inl a23))]) A) ([.ref m0] : List Value).toArray s 0 0 A) (F0 m 24 ls []) := by
    intro a9 ls H locs hne hSq0 hl hP hD hS
    refine lv_iload_n hx hb d_M_copyStore_24 rfl (lv_at hl 2 rfl) ?_
    refine lv_iconst (v := 3) hx hb d_M_copyStore_25 (by decide) ?_
    refine lv_icmp_ge (tgt := 85) hx hb d_M_copyStore_26 rfl (fun hc2 => by first | exact absurd hc2 (by decide) | exact absurd (by decide) hc2) (fun hc2 => ?_)
    refine lv_aload_n hx hb d_M_copyStore_29 rfl (lv_at hl 0 rfl) ?_
    refine va_get (D := (dC, dI)) (ci := 6) (v := .ref (ga 11)) (C := "VotedTripleModel") (T := F_M) (N := 37) hx hb hw in_M hown hK hP 0 rfl rfl 11 (by decide) (hw _ k_735) (fun _ h9 => h9) rfl d_M_copyStore_30 ?_
    refine lv_iload_n hx hb d_M_copyStore_33 rfl (lv_at hl 2 rfl) ?_
    refine va_iald hx hb hK hP 2 1 rfl rfl (by unfold vp_in; decide) d_M_copyStore_34 ?_
    refine W.eq (g2 := F0 m 35 ls [.int (a11 2)]) rfl ?_
    refine lv_iconst (v := 1) hx hb d_M_copyStore_35 (by decide) ?_
    refine lv_icmp_ne (tgt := 79) hx hb d_M_copyStore_36 rfl (fun hc3 => ?_) (fun hc3 => ?_)
    · --  ¬ (a11 2) = 1
      refine lv_iinc (k := 2) (v := 3) hx hb d_M_copyStore_79 hl rfl rfl (by decide) rfl (fun ls hl => ?_)
      replace hl : lv_has ls 3 [(2, .int 3), (0, .ref m0), (1, .int 0)] := hl
      refine lv_goto (tgt := 24) hx hb d_M_copyStore_82 rfl ?_
      have hSq : SP = s_M_copyStore_cut0_24_3 a9 := by rw [hSq0, s_M_copyStore_cut0_24_2]; try (rw [if_neg hc3]); all_goals rfl
      replace hl := lv_sub hl (l' := [(0, .ref m0), (1, .int 0), (2, .int 3)]) [1, 2, 0] rfl
      replace hP := hP.sub (ws' := [(m0, .inr (6, oM ga uM cn sn cm us wt oc ou ow)), (ga 9, .inl (gc 9, 96, .inl a9)), (ga 11, .inl (gc 11, 3, .inl a11)), (ga 12, .inl (gc 12, 3, .inl a12)), (ga 21, .inl (gc 21, 3, .inl a21)), (ga 22, .inl (gc 22, 3, .inl a22)), (ga 23, .inl (gc 23, 3, .inl a23))]) [0, 1, 2, 3, 4, 5, 6] rfl
      replace hD := hD.sub (ws' := [(m0, .inr (6, oM ga uM cn sn cm us wt oc ou ow)), (ga 9, .inl (gc 9, 96, .inl a9)), (ga 11, .inl (gc 11, 3, .inl a11)), (ga 12, .inl (gc 12, 3, .inl a12)), (ga 21, .inl (gc 21, 3, .inl a21)), (ga 22, .inl (gc 22, 3, .inl a22)), (ga 23, .inl (gc 23, 3, .inl a23))]) [0, 1, 2, 3, 4, 5, 6] (by decide) rfl
      exact cut0_24_3 a9 _ _ _ (by repeat' first | with_reducible assumption | with_reducible exact is16_0 | with_reducible exact is16_m _ | with_reducible exact set16' _ | with_reducible apply rgI_upd | with_reducible apply c3_upd | with_reducible apply o3_upd | exact Or.inl rfl | exact ⟨0, by with_reducible assumption, rfl⟩ | omega | assumption) hSq hl hP hD hS
    · --  (a11 2) = 1
      refine lv_aload_n hx hb d_M_copyStore_39 rfl (lv_at hl 0 rfl) ?_
      refine va_get (D := (dC, dI)) (ci := 6) (v := .ref (ga 21)) (C := "VotedTripleModel") (T := F_M) (N := 37) hx hb hw in_M hown hK hP 0 rfl rfl 21 (by decide) (hw _ k_745) (fun _ h9 => h9) rfl d_M_copyStore_40 ?_
      refine lv_iload_n hx hb d_M_copyStore_43 rfl (lv_at hl 1 rfl) ?_
      refine va_iald hx hb hK hP 4 3 rfl rfl (by unfold vp_in; decide) d_M_copyStore_44 ?_
      refine W.eq (g2 := F0 m 45 ls [.int (a21 0)]) rfl ?_
      refine lv_aload_n hx hb d_M_copyStore_45 rfl (lv_at hl 0 rfl) ?_
      refine va_get (D := (dC, dI)) (ci := 6) (v := .ref (ga 12)) (C := "VotedTripleModel") (T := F_M) (N := 37) hx hb hw in_M hown hK hP 0 rfl rfl 12 (by decide) (hw _ k_736) (fun _ h9 => h9) rfl d_M_copyStore_46 ?_
      refine lv_iload_n hx hb d_M_copyStore_49 rfl (lv_at hl 2 rfl) ?_
      refine va_iald hx hb hK hP 3 2 rfl rfl (by unfold vp_in; decide) d_M_copyStore_50 ?_
      refine W.eq (g2 := F0 m 51 ls [.int (a12 2), .int (a21 0)]) rfl ?_
      refine lv_icmp_ge (tgt := 79) hx hb d_M_copyStore_51 rfl (fun hc4 => ?_) (fun hc4 => ?_)
      · --  (a12 2) ≤ (a21 0)
        refine lv_iinc (k := 2) (v := 3) hx hb d_M_copyStore_79 hl rfl rfl (by decide) rfl (fun ls hl => ?_)
        replace hl : lv_has ls 3 [(2, .int 3), (0, .ref m0), (1, .int 0)] := hl
        refine lv_goto (tgt := 24) hx hb d_M_copyStore_82 rfl ?_
        have hSq : SP = s_M_copyStore_cut0_24_3 a9 := by rw [hSq0, s_M_copyStore_cut0_24_2]; try (rw [if_pos hc3]); try (rw [if_pos hc4]); all_goals rfl
        replace hl := lv_sub hl (l' := [(0, .ref m0), (1, .int 0), (2, .int 3)]) [1, 2, 0] rfl
        replace hP := hP.sub (ws' := [(m0, .inr (6, oM ga uM cn sn cm us wt oc ou ow)), (ga 9, .inl (gc 9, 96, .inl a9)), (ga 11, .inl (gc 11, 3, .inl a11)), (ga 12, .inl (gc 12, 3, .inl a12)), (ga 21, .inl (gc 21, 3, .inl a21)), (ga 22, .inl (gc 22, 3, .inl a22)), (ga 23, .inl (gc 23, 3, .inl a23))]) [0, 1, 2, 3, 4, 5, 6] rfl
        replace hD := hD.sub (ws' := [(m0, .inr (6, oM ga uM cn sn cm us wt oc ou ow)), (ga 9, .inl (gc 9, 96, .inl a9)), (ga 11, .inl (gc 11, 3, .inl a11)), (ga 12, .inl (gc 12, 3, .inl a12)), (ga 21, .inl (gc 21, 3, .inl a21)), (ga 22, .inl (gc 22, 3, .inl a22)), (ga 23, .inl (gc 23, 3, .inl a23))]) [0, 1, 2, 3, 4, 5, 6] (by decide) rfl
        exact cut0_24_3 a9 _ _ _ (by repeat' first | with_reducible assumption | with_reducible exact is16_0 | with_reducible exact is16_m _ | with_reducible exact set16' _ | with_reducible apply rgI_upd | with_reducible apply c3_upd | with_reducible apply o3_upd | exact Or.inl rfl | exact ⟨0, by with_reducible assumption, rfl⟩ | omega | assumption) hSq hl hP hD hS
      · --  ¬ (a12 2) ≤ (a21 0)
        refine lv_aload_n hx hb d_M_copyStore_54 rfl (lv_at hl 0 rfl) ?_
        refine va_get (D := (dC, dI)) (ci := 6) (v := .ref (ga 9)) (C := "VotedTripleModel") (T := F_M) (N := 37) hx hb hw in_M hown hK hP 0 rfl rfl 9 (by decide) (hw _ k_733) (fun _ h9 => h9) rfl d_M_copyStore_55 ?_
        refine lv_bipush (v := 32) hx hb d_M_copyStore_58 (by decide) ?_
        refine lv_iload_n hx hb d_M_copyStore_60 rfl (lv_at hl 2 rfl) ?_
        refine lv_imul hx hb d_M_copyStore_61 ?_
        refine lv_aload_n hx hb d_M_copyStore_62 rfl (lv_at hl 0 rfl) ?_
        refine va_get (D := (dC, dI)) (ci := 6) (v := .ref (ga 21)) (C := "VotedTripleModel") (T := F_M) (N := 37) hx hb hw in_M hown hK hP 0 rfl rfl 21 (by decide) (hw _ k_745) (fun _ h9 => h9) rfl d_M_copyStore_63 ?_
        refine lv_iload_n hx hb d_M_copyStore_66 rfl (lv_at hl 1 rfl) ?_
        refine va_iald hx hb hK hP 4 3 rfl rfl (by unfold vp_in; decide) d_M_copyStore_67 ?_
        refine W.eq (g2 := F0 m 68 ls [.int (a21 0), .int ((32 : Int32) * (2 : Int32)), .ref (ga 9)]) rfl ?_
        refine lv_iadd hx hb d_M_copyStore_68 ?_
        refine lv_aload_n hx hb d_M_copyStore_69 rfl (lv_at hl 0 rfl) ?_
        refine va_get (D := (dC, dI)) (ci := 6) (v := .ref (ga 22)) (C := "VotedTripleModel") (T := F_M) (N := 37) hx hb hw in_M hown hK hP 0 rfl rfl 22 (by decide) (hw _ k_746) (fun _ h9 => h9) rfl d_M_copyStore_70 ?_
        refine lv_iload_n hx hb d_M_copyStore_73 rfl (lv_at hl 1 rfl) ?_
        refine va_iald hx hb hK hP 5 4 rfl rfl (by unfold vp_in; decide) d_M_copyStore_74 ?_
        refine W.eq (g2 := F0 m 75 ls [.int (a22 0), .int (((32 : Int32) * (2 : Int32)) + (a21 0)), .ref (ga 9)]) rfl ?_
        refine vp_callSi (va_runS (As := [.int (a22 0)]) (rest := [.int (((32 : Int32) * (2 : Int32)) + (a21 0)), .ref (ga 9)]) ⟨hx, hb, hml, hown, hw⟩ (c_M_encode l dC dI (a22 0)) (va_cwS 1 hw (gdS (k_863) (k_861) (k_862) (k_8)) rfl rfl rfl (by decide +kernel) ⟨Nat.le_of_ble_eq_true rfl, Nat.le_of_ble_eq_true rfl⟩) ⟨fun _ _ _ _ q => q, fun _ _ _ => ⟨rfl, trivial⟩⟩ rfl rfl hl.1 rfl (lv_room (Nat.le_of_ble_eq_true rfl)) d_M_copyStore_75 ⟨Nat.le_of_ble_eq_true rfl, Nat.le_of_ble_eq_true rfl⟩).run (fun r5 hr6 => ?_)
        obtain ⟨hr6, hr6E⟩ := hr6
        refine va_iast hx hb hK hP hD hS 1 0 rfl rfl (ix32 (mi := 2) (mk := 2) rfl (by decide) (opt_in (h21 0 (by decide)) hne (by decide))) d_M_copyStore_78 (fun H locs hP hD hS => ?_)
        replace hP : va_P (dC, dI) classes [(m0, .inr (6, oM ga uM cn sn cm us wt oc ou ow)), (ga 9, .inl (gc 9, 96, .inl (upd a9 (Int32.toNatClampNeg (((32 : Int32) * (2 : Int32)) + (a21 0))) r5))), (ga 11, .inl (gc 11, 3, .inl a11)), (ga 12, .inl (gc 12, 3, .inl a12)), (ga 21, .inl (gc 21, 3, .inl a21)), (ga 22, .inl (gc 22, 3, .inl a22)), (ga 23, .inl (gc 23, 3, .inl a23))] H := hP
        replace hD : va_D A [(m0, .inr (6, oM ga uM cn sn cm us wt oc ou ow)), (ga 9, .inl (gc 9, 96, .inl (upd a9 (Int32.toNatClampNeg (((32 : Int32) * (2 : Int32)) + (a21 0))) r5))), (ga 11, .inl (gc 11, 3, .inl a11)), (ga 12, .inl (gc 12, 3, .inl a12)), (ga 21, .inl (gc 21, 3, .inl a21)), (ga 22, .inl (gc 22, 3, .inl a22)), (ga 23, .inl (gc 23, 3, .inl a23))] := hD
        refine lv_iinc (k := 2) (v := 3) hx hb d_M_copyStore_79 hl rfl rfl (by decide) rfl (fun ls hl => ?_)
        replace hl : lv_has ls 3 [(2, .int 3), (0, .ref m0), (1, .int 0)] := hl
        refine lv_goto (tgt := 24) hx hb d_M_copyStore_82 rfl ?_
        have hSq : SP = s_M_copyStore_cut0_24_3 (upd a9 (Int32.toNatClampNeg (((32 : Int32) * (2 : Int32)) + (a21 0))) r5) := by rw [hSq0, s_M_copyStore_cut0_24_2]; try (rw [if_pos hc3]); try (rw [if_neg hc4]); try (rw [← hr6E, bnd_eq]); all_goals rfl
        replace hl := lv_sub hl (l' := [(0, .ref m0), (1, .int 0), (2, .int 3)]) [1, 2, 0] rfl
        replace hP := hP.sub (ws' := [(m0, .inr (6, oM ga uM cn sn cm us wt oc ou ow)), (ga 9, .inl (gc 9, 96, .inl (upd a9 (Int32.toNatClampNeg (((32 : Int32) * (2 : Int32)) + (a21 0))) r5))), (ga 11, .inl (gc 11, 3, .inl a11)), (ga 12, .inl (gc 12, 3, .inl a12)), (ga 21, .inl (gc 21, 3, .inl a21)), (ga 22, .inl (gc 22, 3, .inl a22)), (ga 23, .inl (gc 23, 3, .inl a23))]) [0, 1, 2, 3, 4, 5, 6] rfl
        replace hD := hD.sub (ws' := [(m0, .inr (6, oM ga uM cn sn cm us wt oc ou ow)), (ga 9, .inl (gc 9, 96, .inl (upd a9 (Int32.toNatClampNeg (((32 : Int32) * (2 : Int32)) + (a21 0))) r5))), (ga 11, .inl (gc 11, 3, .inl a11)), (ga 12, .inl (gc 12, 3, .inl a12)), (ga 21, .inl (gc 21, 3, .inl a21)), (ga 22, .inl (gc 22, 3, .inl a22)), (ga 23, .inl (gc 23, 3, .inl a23))]) [0, 1, 2, 3, 4, 5, 6] (by decide) rfl
        exact cut0_24_3 (upd a9 (Int32.toNatClampNeg (((32 : Int32) * (2 : Int32)) + (a21 0))) r5) _ _ _ (by repeat' first | with_reducible assumption | with_reducible exact is16_0 | with_reducible exact is16_m _ | with_reducible exact set16' _ | with_reducible apply rgI_upd | with_reducible apply c3_upd | with_reducible apply o3_upd | exact Or.inl rfl | exact ⟨0, by with_reducible assumption, rfl⟩ | omega | assumption) hSq hl hP hD hS
  have cut0_24_1 : ∀ (a9 : Nat → Int32) (ls : Array Slot) (H : Heap) (locs : List Loc), ¬ a21 0 = (-1) → SP = s_M_copyStore_cut0_24_1 a11 a12 a21 a22 a9 →  lv_has ls 3 [(0, .ref m0), (1, .int 0), (2, .int 1)] → va_P (dC, dI) classes [(m0, .inr (6, oM ga uM cn sn cm us wt oc ou ow)), (ga 9, .inl (gc 9, 96, .inl a9)), (ga 11, .inl (gc 11, 3, .inl a11)), (ga 12, .inl (gc 12, 3, .inl a12)), (ga 21, .inl (gc 21, 3, .inl a21)), (ga 22, .inl (gc 22, 3, .inl a22)), (ga 23, .inl (gc 23, 3, .inl a23))] H → va_D A [(m0, .inr (6, oM ga uM cn sn cm us wt oc ou ow)), (ga 9, .inl (gc 9, 96, .inl a9)), (ga 11, .inl (gc 11, 3, .inl a11)), (ga 12, .inl (gc 12, 3, .inl a12)), (ga 21, .inl (gc 21, 3, .inl a21)), (ga 22, .inl (gc 22, 3, .inl a22)), (ga 23, .inl (gc 23, 3, .inl a23))] → va_S A s.heap H locs → W p l e (headSpec (tbw y_M_copyStore b_M_copyStore 3 none) ({ frames := 2, cells := 0, slots := 0, locals := 46 })).room s m ([.ref m0] : List Value).toArray below meth c H locs 0 0 (MQ below (va_Qv (fun (u9 : (Nat → Int32)) => match u9 with | a9n => (True) ∧ (a9n) = SP) (fun (u9 : (Nat → Int32)) t => match u9 with | a9n => va_P (dC, dI) classes [(m0, .inr (6, oM ga uM cn sn cm us wt oc ou ow)), (ga 9, .inl (gc 9, 96, .inl a9n)), (ga 11, .inl (gc 11, 3, .inl a11)), (ga 12, .inl (gc 12, 3, .inl a12)), (ga 21, .inl (gc 21, 3, .inl a21)), (ga 22, .inl (gc 22, 3, .inl a22)), (ga 23, .inl (gc 23, 3, .inl a23))] t.heap ∧ va_K (dC, dI) classes [(gc 9, .int), (gc 11, .int), (gc 12, .int), (gc 21, .int), (gc 22, .int), (gc 23, .boolean)] t ∧ va_D A [(m0, .inr (6, oM ga uM cn sn cm us wt oc ou ow)), (ga 9, .inl (gc 9, 96, .inl a9n)), (ga 11, .inl (gc 11, 3, .inl a11)), (ga 12, .inl (gc 12, 3, .inl a12)), (ga 21, .inl (gc 21, 3, .inl a21)), (ga 22, .inl (gc 22, 3, .inl a22)), (ga 23, .inl (gc 23, 3, .inl a23))]) A) ([.ref m0] : List Value).toArray s 0 0 A) (F0 m 24 ls []) := by
    intro a9 ls H locs hne hSq0 hl hP hD hS
    clear cut0_24_3
    refine lv_iload_n hx hb d_M_copyStore_24 rfl (lv_at hl 2 rfl) ?_
    refine lv_iconst (v := 3) hx hb d_M_copyStore_25 (by decide) ?_
    refine lv_icmp_ge (tgt := 85) hx hb d_M_copyStore_26 rfl (fun hc7 => by first | exact absurd hc7 (by decide) | exact absurd (by decide) hc7) (fun hc7 => ?_)
    refine lv_aload_n hx hb d_M_copyStore_29 rfl (lv_at hl 0 rfl) ?_
    refine va_get (D := (dC, dI)) (ci := 6) (v := .ref (ga 11)) (C := "VotedTripleModel") (T := F_M) (N := 37) hx hb hw in_M hown hK hP 0 rfl rfl 11 (by decide) (hw _ k_735) (fun _ h9 => h9) rfl d_M_copyStore_30 ?_
    refine lv_iload_n hx hb d_M_copyStore_33 rfl (lv_at hl 2 rfl) ?_
    refine va_iald hx hb hK hP 2 1 rfl rfl (by unfold vp_in; decide) d_M_copyStore_34 ?_
    refine W.eq (g2 := F0 m 35 ls [.int (a11 1)]) rfl ?_
    refine lv_iconst (v := 1) hx hb d_M_copyStore_35 (by decide) ?_
    refine lv_icmp_ne (tgt := 79) hx hb d_M_copyStore_36 rfl (fun hc8 => ?_) (fun hc8 => ?_)
    · --  ¬ (a11 1) = 1
      refine lv_iinc (k := 2) (v := 2) hx hb d_M_copyStore_79 hl rfl rfl (by decide) rfl (fun ls hl => ?_)
      replace hl : lv_has ls 3 [(2, .int 2), (0, .ref m0), (1, .int 0)] := hl
      refine lv_goto (tgt := 24) hx hb d_M_copyStore_82 rfl ?_
      have hSq : SP = s_M_copyStore_cut0_24_2 a11 a12 a21 a22 a9 := by rw [hSq0, s_M_copyStore_cut0_24_1]; try (rw [if_neg hc8]); all_goals rfl
      replace hl := lv_sub hl (l' := [(0, .ref m0), (1, .int 0), (2, .int 2)]) [1, 2, 0] rfl
      replace hP := hP.sub (ws' := [(m0, .inr (6, oM ga uM cn sn cm us wt oc ou ow)), (ga 9, .inl (gc 9, 96, .inl a9)), (ga 11, .inl (gc 11, 3, .inl a11)), (ga 12, .inl (gc 12, 3, .inl a12)), (ga 21, .inl (gc 21, 3, .inl a21)), (ga 22, .inl (gc 22, 3, .inl a22)), (ga 23, .inl (gc 23, 3, .inl a23))]) [0, 1, 2, 3, 4, 5, 6] rfl
      replace hD := hD.sub (ws' := [(m0, .inr (6, oM ga uM cn sn cm us wt oc ou ow)), (ga 9, .inl (gc 9, 96, .inl a9)), (ga 11, .inl (gc 11, 3, .inl a11)), (ga 12, .inl (gc 12, 3, .inl a12)), (ga 21, .inl (gc 21, 3, .inl a21)), (ga 22, .inl (gc 22, 3, .inl a22)), (ga 23, .inl (gc 23, 3, .inl a23))]) [0, 1, 2, 3, 4, 5, 6] (by decide) rfl
      exact cut0_24_2 a9 _ _ _ (by repeat' first | with_reducible assumption | with_reducible exact is16_0 | with_reducible exact is16_m _ | with_reducible exact set16' _ | with_reducible apply rgI_upd | with_reducible apply c3_upd | with_reducible apply o3_upd | exact Or.inl rfl | exact ⟨0, by with_reducible assumption, rfl⟩ | omega | assumption) hSq hl hP hD hS
    · --  (a11 1) = 1
      refine lv_aload_n hx hb d_M_copyStore_39 rfl (lv_at hl 0 rfl) ?_
      refine va_get (D := (dC, dI)) (ci := 6) (v := .ref (ga 21)) (C := "VotedTripleModel") (T := F_M) (N := 37) hx hb hw in_M hown hK hP 0 rfl rfl 21 (by decide) (hw _ k_745) (fun _ h9 => h9) rfl d_M_copyStore_40 ?_
      refine lv_iload_n hx hb d_M_copyStore_43 rfl (lv_at hl 1 rfl) ?_
      refine va_iald hx hb hK hP 4 3 rfl rfl (by unfold vp_in; decide) d_M_copyStore_44 ?_
      refine W.eq (g2 := F0 m 45 ls [.int (a21 0)]) rfl ?_
      refine lv_aload_n hx hb d_M_copyStore_45 rfl (lv_at hl 0 rfl) ?_
      refine va_get (D := (dC, dI)) (ci := 6) (v := .ref (ga 12)) (C := "VotedTripleModel") (T := F_M) (N := 37) hx hb hw in_M hown hK hP 0 rfl rfl 12 (by decide) (hw _ k_736) (fun _ h9 => h9) rfl d_M_copyStore_46 ?_
      refine lv_iload_n hx hb d_M_copyStore_49 rfl (lv_at hl 2 rfl) ?_
      refine va_iald hx hb hK hP 3 2 rfl rfl (by unfold vp_in; decide) d_M_copyStore_50 ?_
      refine W.eq (g2 := F0 m 51 ls [.int (a12 1), .int (a21 0)]) rfl ?_
      refine lv_icmp_ge (tgt := 79) hx hb d_M_copyStore_51 rfl (fun hc9 => ?_) (fun hc9 => ?_)
      · --  (a12 1) ≤ (a21 0)
        refine lv_iinc (k := 2) (v := 2) hx hb d_M_copyStore_79 hl rfl rfl (by decide) rfl (fun ls hl => ?_)
        replace hl : lv_has ls 3 [(2, .int 2), (0, .ref m0), (1, .int 0)] := hl
        refine lv_goto (tgt := 24) hx hb d_M_copyStore_82 rfl ?_
        have hSq : SP = s_M_copyStore_cut0_24_2 a11 a12 a21 a22 a9 := by rw [hSq0, s_M_copyStore_cut0_24_1]; try (rw [if_pos hc8]); try (rw [if_pos hc9]); all_goals rfl
        replace hl := lv_sub hl (l' := [(0, .ref m0), (1, .int 0), (2, .int 2)]) [1, 2, 0] rfl
        replace hP := hP.sub (ws' := [(m0, .inr (6, oM ga uM cn sn cm us wt oc ou ow)), (ga 9, .inl (gc 9, 96, .inl a9)), (ga 11, .inl (gc 11, 3, .inl a11)), (ga 12, .inl (gc 12, 3, .inl a12)), (ga 21, .inl (gc 21, 3, .inl a21)), (ga 22, .inl (gc 22, 3, .inl a22)), (ga 23, .inl (gc 23, 3, .inl a23))]) [0, 1, 2, 3, 4, 5, 6] rfl
        replace hD := hD.sub (ws' := [(m0, .inr (6, oM ga uM cn sn cm us wt oc ou ow)), (ga 9, .inl (gc 9, 96, .inl a9)), (ga 11, .inl (gc 11, 3, .inl a11)), (ga 12, .inl (gc 12, 3, .inl a12)), (ga 21, .inl (gc 21, 3, .inl a21)), (ga 22, .inl (gc 22, 3, .inl a22)), (ga 23, .inl (gc 23, 3, .inl a23))]) [0, 1, 2, 3, 4, 5, 6] (by decide) rfl
        exact cut0_24_2 a9 _ _ _ (by repeat' first | with_reducible assumption | with_reducible exact is16_0 | with_reducible exact is16_m _ | with_reducible exact set16' _ | with_reducible apply rgI_upd | with_reducible apply c3_upd | with_reducible apply o3_upd | exact Or.inl rfl | exact ⟨0, by with_reducible assumption, rfl⟩ | omega | assumption) hSq hl hP hD hS
      · --  ¬ (a12 1) ≤ (a21 0)
        refine lv_aload_n hx hb d_M_copyStore_54 rfl (lv_at hl 0 rfl) ?_
        refine va_get (D := (dC, dI)) (ci := 6) (v := .ref (ga 9)) (C := "VotedTripleModel") (T := F_M) (N := 37) hx hb hw in_M hown hK hP 0 rfl rfl 9 (by decide) (hw _ k_733) (fun _ h9 => h9) rfl d_M_copyStore_55 ?_
        refine lv_bipush (v := 32) hx hb d_M_copyStore_58 (by decide) ?_
        refine lv_iload_n hx hb d_M_copyStore_60 rfl (lv_at hl 2 rfl) ?_
        refine lv_imul hx hb d_M_copyStore_61 ?_
        refine lv_aload_n hx hb d_M_copyStore_62 rfl (lv_at hl 0 rfl) ?_
        refine va_get (D := (dC, dI)) (ci := 6) (v := .ref (ga 21)) (C := "VotedTripleModel") (T := F_M) (N := 37) hx hb hw in_M hown hK hP 0 rfl rfl 21 (by decide) (hw _ k_745) (fun _ h9 => h9) rfl d_M_copyStore_63 ?_
        refine lv_iload_n hx hb d_M_copyStore_66 rfl (lv_at hl 1 rfl) ?_
        refine va_iald hx hb hK hP 4 3 rfl rfl (by unfold vp_in; decide) d_M_copyStore_67 ?_
        refine W.eq (g2 := F0 m 68 ls [.int (a21 0), .int ((32 : Int32) * (1 : Int32)), .ref (ga 9)]) rfl ?_
        refine lv_iadd hx hb d_M_copyStore_68 ?_
        refine lv_aload_n hx hb d_M_copyStore_69 rfl (lv_at hl 0 rfl) ?_
        refine va_get (D := (dC, dI)) (ci := 6) (v := .ref (ga 22)) (C := "VotedTripleModel") (T := F_M) (N := 37) hx hb hw in_M hown hK hP 0 rfl rfl 22 (by decide) (hw _ k_746) (fun _ h9 => h9) rfl d_M_copyStore_70 ?_
        refine lv_iload_n hx hb d_M_copyStore_73 rfl (lv_at hl 1 rfl) ?_
        refine va_iald hx hb hK hP 5 4 rfl rfl (by unfold vp_in; decide) d_M_copyStore_74 ?_
        refine W.eq (g2 := F0 m 75 ls [.int (a22 0), .int (((32 : Int32) * (1 : Int32)) + (a21 0)), .ref (ga 9)]) rfl ?_
        refine vp_callSi (va_runS (As := [.int (a22 0)]) (rest := [.int (((32 : Int32) * (1 : Int32)) + (a21 0)), .ref (ga 9)]) ⟨hx, hb, hml, hown, hw⟩ (c_M_encode l dC dI (a22 0)) (va_cwS 1 hw (gdS (k_863) (k_861) (k_862) (k_8)) rfl rfl rfl (by decide +kernel) ⟨Nat.le_of_ble_eq_true rfl, Nat.le_of_ble_eq_true rfl⟩) ⟨fun _ _ _ _ q => q, fun _ _ _ => ⟨rfl, trivial⟩⟩ rfl rfl hl.1 rfl (lv_room (Nat.le_of_ble_eq_true rfl)) d_M_copyStore_75 ⟨Nat.le_of_ble_eq_true rfl, Nat.le_of_ble_eq_true rfl⟩).run (fun r10 hr11 => ?_)
        obtain ⟨hr11, hr11E⟩ := hr11
        refine va_iast hx hb hK hP hD hS 1 0 rfl rfl (ix32 (mi := 1) (mk := 1) rfl (by decide) (opt_in (h21 0 (by decide)) hne (by decide))) d_M_copyStore_78 (fun H locs hP hD hS => ?_)
        replace hP : va_P (dC, dI) classes [(m0, .inr (6, oM ga uM cn sn cm us wt oc ou ow)), (ga 9, .inl (gc 9, 96, .inl (upd a9 (Int32.toNatClampNeg (((32 : Int32) * (1 : Int32)) + (a21 0))) r10))), (ga 11, .inl (gc 11, 3, .inl a11)), (ga 12, .inl (gc 12, 3, .inl a12)), (ga 21, .inl (gc 21, 3, .inl a21)), (ga 22, .inl (gc 22, 3, .inl a22)), (ga 23, .inl (gc 23, 3, .inl a23))] H := hP
        replace hD : va_D A [(m0, .inr (6, oM ga uM cn sn cm us wt oc ou ow)), (ga 9, .inl (gc 9, 96, .inl (upd a9 (Int32.toNatClampNeg (((32 : Int32) * (1 : Int32)) + (a21 0))) r10))), (ga 11, .inl (gc 11, 3, .inl a11)), (ga 12, .inl (gc 12, 3, .inl a12)), (ga 21, .inl (gc 21, 3, .inl a21)), (ga 22, .inl (gc 22, 3, .inl a22)), (ga 23, .inl (gc 23, 3, .inl a23))] := hD
        refine lv_iinc (k := 2) (v := 2) hx hb d_M_copyStore_79 hl rfl rfl (by decide) rfl (fun ls hl => ?_)
        replace hl : lv_has ls 3 [(2, .int 2), (0, .ref m0), (1, .int 0)] := hl
        refine lv_goto (tgt := 24) hx hb d_M_copyStore_82 rfl ?_
        have hSq : SP = s_M_copyStore_cut0_24_2 a11 a12 a21 a22 (upd a9 (Int32.toNatClampNeg (((32 : Int32) * (1 : Int32)) + (a21 0))) r10) := by rw [hSq0, s_M_copyStore_cut0_24_1]; try (rw [if_pos hc8]); try (rw [if_neg hc9]); try (rw [← hr11E, bnd_eq]); all_goals rfl
        replace hl := lv_sub hl (l' := [(0, .ref m0), (1, .int 0), (2, .int 2)]) [1, 2, 0] rfl
        replace hP := hP.sub (ws' := [(m0, .inr (6, oM ga uM cn sn cm us wt oc ou ow)), (ga 9, .inl (gc 9, 96, .inl (upd a9 (Int32.toNatClampNeg (((32 : Int32) * (1 : Int32)) + (a21 0))) r10))), (ga 11, .inl (gc 11, 3, .inl a11)), (ga 12, .inl (gc 12, 3, .inl a12)), (ga 21, .inl (gc 21, 3, .inl a21)), (ga 22, .inl (gc 22, 3, .inl a22)), (ga 23, .inl (gc 23, 3, .inl a23))]) [0, 1, 2, 3, 4, 5, 6] rfl
        replace hD := hD.sub (ws' := [(m0, .inr (6, oM ga uM cn sn cm us wt oc ou ow)), (ga 9, .inl (gc 9, 96, .inl (upd a9 (Int32.toNatClampNeg (((32 : Int32) * (1 : Int32)) + (a21 0))) r10))), (ga 11, .inl (gc 11, 3, .inl a11)), (ga 12, .inl (gc 12, 3, .inl a12)), (ga 21, .inl (gc 21, 3, .inl a21)), (ga 22, .inl (gc 22, 3, .inl a22)), (ga 23, .inl (gc 23, 3, .inl a23))]) [0, 1, 2, 3, 4, 5, 6] (by decide) rfl
        exact cut0_24_2 (upd a9 (Int32.toNatClampNeg (((32 : Int32) * (1 : Int32)) + (a21 0))) r10) _ _ _ (by repeat' first | with_reducible assumption | with_reducible exact is16_0 | with_reducible exact is16_m _ | with_reducible exact set16' _ | with_reducible apply rgI_upd | with_reducible apply c3_upd | with_reducible apply o3_upd | exact Or.inl rfl | exact ⟨0, by with_reducible assumption, rfl⟩ | omega | assumption) hSq hl hP hD hS
  have cut0_24_0 : ∀ (a9 : Nat → Int32) (ls : Array Slot) (H : Heap) (locs : List Loc), ¬ a21 0 = (-1) → SP = s_M_copyStore_cut0_24_0 a11 a12 a21 a22 a9 →  lv_has ls 3 [(0, .ref m0), (1, .int 0), (2, .int 0)] → va_P (dC, dI) classes [(m0, .inr (6, oM ga uM cn sn cm us wt oc ou ow)), (ga 9, .inl (gc 9, 96, .inl a9)), (ga 11, .inl (gc 11, 3, .inl a11)), (ga 12, .inl (gc 12, 3, .inl a12)), (ga 21, .inl (gc 21, 3, .inl a21)), (ga 22, .inl (gc 22, 3, .inl a22)), (ga 23, .inl (gc 23, 3, .inl a23))] H → va_D A [(m0, .inr (6, oM ga uM cn sn cm us wt oc ou ow)), (ga 9, .inl (gc 9, 96, .inl a9)), (ga 11, .inl (gc 11, 3, .inl a11)), (ga 12, .inl (gc 12, 3, .inl a12)), (ga 21, .inl (gc 21, 3, .inl a21)), (ga 22, .inl (gc 22, 3, .inl a22)), (ga 23, .inl (gc 23, 3, .inl a23))] → va_S A s.heap H locs → W p l e (headSpec (tbw y_M_copyStore b_M_copyStore 3 none) ({ frames := 2, cells := 0, slots := 0, locals := 46 })).room s m ([.ref m0] : List Value).toArray below meth c H locs 0 0 (MQ below (va_Qv (fun (u9 : (Nat → Int32)) => match u9 with | a9n => (True) ∧ (a9n) = SP) (fun (u9 : (Nat → Int32)) t => match u9 with | a9n => va_P (dC, dI) classes [(m0, .inr (6, oM ga uM cn sn cm us wt oc ou ow)), (ga 9, .inl (gc 9, 96, .inl a9n)), (ga 11, .inl (gc 11, 3, .inl a11)), (ga 12, .inl (gc 12, 3, .inl a12)), (ga 21, .inl (gc 21, 3, .inl a21)), (ga 22, .inl (gc 22, 3, .inl a22)), (ga 23, .inl (gc 23, 3, .inl a23))] t.heap ∧ va_K (dC, dI) classes [(gc 9, .int), (gc 11, .int), (gc 12, .int), (gc 21, .int), (gc 22, .int), (gc 23, .boolean)] t ∧ va_D A [(m0, .inr (6, oM ga uM cn sn cm us wt oc ou ow)), (ga 9, .inl (gc 9, 96, .inl a9n)), (ga 11, .inl (gc 11, 3, .inl a11)), (ga 12, .inl (gc 12, 3, .inl a12)), (ga 21, .inl (gc 21, 3, .inl a21)), (ga 22, .inl (gc 22, 3, .inl a22)), (ga 23, .inl (gc 23, 3, .inl a23))]) A) ([.ref m0] : List Value).toArray s 0 0 A) (F0 m 24 ls []) := by
    intro a9 ls H locs hne hSq0 hl hP hD hS
    clear cut0_24_3 cut0_24_2
    refine lv_iload_n hx hb d_M_copyStore_24 rfl (lv_at hl 2 rfl) ?_
    refine lv_iconst (v := 3) hx hb d_M_copyStore_25 (by decide) ?_
    refine lv_icmp_ge (tgt := 85) hx hb d_M_copyStore_26 rfl (fun hc12 => by first | exact absurd hc12 (by decide) | exact absurd (by decide) hc12) (fun hc12 => ?_)
    refine lv_aload_n hx hb d_M_copyStore_29 rfl (lv_at hl 0 rfl) ?_
    refine va_get (D := (dC, dI)) (ci := 6) (v := .ref (ga 11)) (C := "VotedTripleModel") (T := F_M) (N := 37) hx hb hw in_M hown hK hP 0 rfl rfl 11 (by decide) (hw _ k_735) (fun _ h9 => h9) rfl d_M_copyStore_30 ?_
    refine lv_iload_n hx hb d_M_copyStore_33 rfl (lv_at hl 2 rfl) ?_
    refine va_iald hx hb hK hP 2 1 rfl rfl (by unfold vp_in; decide) d_M_copyStore_34 ?_
    refine W.eq (g2 := F0 m 35 ls [.int (a11 0)]) rfl ?_
    refine lv_iconst (v := 1) hx hb d_M_copyStore_35 (by decide) ?_
    refine lv_icmp_ne (tgt := 79) hx hb d_M_copyStore_36 rfl (fun hc13 => ?_) (fun hc13 => ?_)
    · --  ¬ (a11 0) = 1
      refine lv_iinc (k := 2) (v := 1) hx hb d_M_copyStore_79 hl rfl rfl (by decide) rfl (fun ls hl => ?_)
      replace hl : lv_has ls 3 [(2, .int 1), (0, .ref m0), (1, .int 0)] := hl
      refine lv_goto (tgt := 24) hx hb d_M_copyStore_82 rfl ?_
      have hSq : SP = s_M_copyStore_cut0_24_1 a11 a12 a21 a22 a9 := by rw [hSq0, s_M_copyStore_cut0_24_0]; try (rw [if_neg hc13]); all_goals rfl
      replace hl := lv_sub hl (l' := [(0, .ref m0), (1, .int 0), (2, .int 1)]) [1, 2, 0] rfl
      replace hP := hP.sub (ws' := [(m0, .inr (6, oM ga uM cn sn cm us wt oc ou ow)), (ga 9, .inl (gc 9, 96, .inl a9)), (ga 11, .inl (gc 11, 3, .inl a11)), (ga 12, .inl (gc 12, 3, .inl a12)), (ga 21, .inl (gc 21, 3, .inl a21)), (ga 22, .inl (gc 22, 3, .inl a22)), (ga 23, .inl (gc 23, 3, .inl a23))]) [0, 1, 2, 3, 4, 5, 6] rfl
      replace hD := hD.sub (ws' := [(m0, .inr (6, oM ga uM cn sn cm us wt oc ou ow)), (ga 9, .inl (gc 9, 96, .inl a9)), (ga 11, .inl (gc 11, 3, .inl a11)), (ga 12, .inl (gc 12, 3, .inl a12)), (ga 21, .inl (gc 21, 3, .inl a21)), (ga 22, .inl (gc 22, 3, .inl a22)), (ga 23, .inl (gc 23, 3, .inl a23))]) [0, 1, 2, 3, 4, 5, 6] (by decide) rfl
      exact cut0_24_1 a9 _ _ _ (by repeat' first | with_reducible assumption | with_reducible exact is16_0 | with_reducible exact is16_m _ | with_reducible exact set16' _ | with_reducible apply rgI_upd | with_reducible apply c3_upd | with_reducible apply o3_upd | exact Or.inl rfl | exact ⟨0, by with_reducible assumption, rfl⟩ | omega | assumption) hSq hl hP hD hS
    · --  (a11 0) = 1
      refine lv_aload_n hx hb d_M_copyStore_39 rfl (lv_at hl 0 rfl) ?_
      refine va_get (D := (dC, dI)) (ci := 6) (v := .ref (ga 21)) (C := "VotedTripleModel") (T := F_M) (N := 37) hx hb hw in_M hown hK hP 0 rfl rfl 21 (by decide) (hw _ k_745) (fun _ h9 => h9) rfl d_M_copyStore_40 ?_
      refine lv_iload_n hx hb d_M_copyStore_43 rfl (lv_at hl 1 rfl) ?_
      refine va_iald hx hb hK hP 4 3 rfl rfl (by unfold vp_in; decide) d_M_copyStore_44 ?_
      refine W.eq (g2 := F0 m 45 ls [.int (a21 0)]) rfl ?_
      refine lv_aload_n hx hb d_M_copyStore_45 rfl (lv_at hl 0 rfl) ?_
      refine va_get (D := (dC, dI)) (ci := 6) (v := .ref (ga 12)) (C := "VotedTripleModel") (T := F_M) (N := 37) hx hb hw in_M hown hK hP 0 rfl rfl 12 (by decide) (hw _ k_736) (fun _ h9 => h9) rfl d_M_copyStore_46 ?_
      refine lv_iload_n hx hb d_M_copyStore_49 rfl (lv_at hl 2 rfl) ?_
      refine va_iald hx hb hK hP 3 2 rfl rfl (by unfold vp_in; decide) d_M_copyStore_50 ?_
      refine W.eq (g2 := F0 m 51 ls [.int (a12 0), .int (a21 0)]) rfl ?_
      refine lv_icmp_ge (tgt := 79) hx hb d_M_copyStore_51 rfl (fun hc14 => ?_) (fun hc14 => ?_)
      · --  (a12 0) ≤ (a21 0)
        refine lv_iinc (k := 2) (v := 1) hx hb d_M_copyStore_79 hl rfl rfl (by decide) rfl (fun ls hl => ?_)
        replace hl : lv_has ls 3 [(2, .int 1), (0, .ref m0), (1, .int 0)] := hl
        refine lv_goto (tgt := 24) hx hb d_M_copyStore_82 rfl ?_
        have hSq : SP = s_M_copyStore_cut0_24_1 a11 a12 a21 a22 a9 := by rw [hSq0, s_M_copyStore_cut0_24_0]; try (rw [if_pos hc13]); try (rw [if_pos hc14]); all_goals rfl
        replace hl := lv_sub hl (l' := [(0, .ref m0), (1, .int 0), (2, .int 1)]) [1, 2, 0] rfl
        replace hP := hP.sub (ws' := [(m0, .inr (6, oM ga uM cn sn cm us wt oc ou ow)), (ga 9, .inl (gc 9, 96, .inl a9)), (ga 11, .inl (gc 11, 3, .inl a11)), (ga 12, .inl (gc 12, 3, .inl a12)), (ga 21, .inl (gc 21, 3, .inl a21)), (ga 22, .inl (gc 22, 3, .inl a22)), (ga 23, .inl (gc 23, 3, .inl a23))]) [0, 1, 2, 3, 4, 5, 6] rfl
        replace hD := hD.sub (ws' := [(m0, .inr (6, oM ga uM cn sn cm us wt oc ou ow)), (ga 9, .inl (gc 9, 96, .inl a9)), (ga 11, .inl (gc 11, 3, .inl a11)), (ga 12, .inl (gc 12, 3, .inl a12)), (ga 21, .inl (gc 21, 3, .inl a21)), (ga 22, .inl (gc 22, 3, .inl a22)), (ga 23, .inl (gc 23, 3, .inl a23))]) [0, 1, 2, 3, 4, 5, 6] (by decide) rfl
        exact cut0_24_1 a9 _ _ _ (by repeat' first | with_reducible assumption | with_reducible exact is16_0 | with_reducible exact is16_m _ | with_reducible exact set16' _ | with_reducible apply rgI_upd | with_reducible apply c3_upd | with_reducible apply o3_upd | exact Or.inl rfl | exact ⟨0, by with_reducible assumption, rfl⟩ | omega | assumption) hSq hl hP hD hS
      · --  ¬ (a12 0) ≤ (a21 0)
        refine lv_aload_n hx hb d_M_copyStore_54 rfl (lv_at hl 0 rfl) ?_
        refine va_get (D := (dC, dI)) (ci := 6) (v := .ref (ga 9)) (C := "VotedTripleModel") (T := F_M) (N := 37) hx hb hw in_M hown hK hP 0 rfl rfl 9 (by decide) (hw _ k_733) (fun _ h9 => h9) rfl d_M_copyStore_55 ?_
        refine lv_bipush (v := 32) hx hb d_M_copyStore_58 (by decide) ?_
        refine lv_iload_n hx hb d_M_copyStore_60 rfl (lv_at hl 2 rfl) ?_
        refine lv_imul hx hb d_M_copyStore_61 ?_
        refine lv_aload_n hx hb d_M_copyStore_62 rfl (lv_at hl 0 rfl) ?_
        refine va_get (D := (dC, dI)) (ci := 6) (v := .ref (ga 21)) (C := "VotedTripleModel") (T := F_M) (N := 37) hx hb hw in_M hown hK hP 0 rfl rfl 21 (by decide) (hw _ k_745) (fun _ h9 => h9) rfl d_M_copyStore_63 ?_
        refine lv_iload_n hx hb d_M_copyStore_66 rfl (lv_at hl 1 rfl) ?_
        refine va_iald hx hb hK hP 4 3 rfl rfl (by unfold vp_in; decide) d_M_copyStore_67 ?_
        refine W.eq (g2 := F0 m 68 ls [.int (a21 0), .int ((32 : Int32) * (0 : Int32)), .ref (ga 9)]) rfl ?_
        refine lv_iadd hx hb d_M_copyStore_68 ?_
        refine lv_aload_n hx hb d_M_copyStore_69 rfl (lv_at hl 0 rfl) ?_
        refine va_get (D := (dC, dI)) (ci := 6) (v := .ref (ga 22)) (C := "VotedTripleModel") (T := F_M) (N := 37) hx hb hw in_M hown hK hP 0 rfl rfl 22 (by decide) (hw _ k_746) (fun _ h9 => h9) rfl d_M_copyStore_70 ?_
        refine lv_iload_n hx hb d_M_copyStore_73 rfl (lv_at hl 1 rfl) ?_
        refine va_iald hx hb hK hP 5 4 rfl rfl (by unfold vp_in; decide) d_M_copyStore_74 ?_
        refine W.eq (g2 := F0 m 75 ls [.int (a22 0), .int (((32 : Int32) * (0 : Int32)) + (a21 0)), .ref (ga 9)]) rfl ?_
        refine vp_callSi (va_runS (As := [.int (a22 0)]) (rest := [.int (((32 : Int32) * (0 : Int32)) + (a21 0)), .ref (ga 9)]) ⟨hx, hb, hml, hown, hw⟩ (c_M_encode l dC dI (a22 0)) (va_cwS 1 hw (gdS (k_863) (k_861) (k_862) (k_8)) rfl rfl rfl (by decide +kernel) ⟨Nat.le_of_ble_eq_true rfl, Nat.le_of_ble_eq_true rfl⟩) ⟨fun _ _ _ _ q => q, fun _ _ _ => ⟨rfl, trivial⟩⟩ rfl rfl hl.1 rfl (lv_room (Nat.le_of_ble_eq_true rfl)) d_M_copyStore_75 ⟨Nat.le_of_ble_eq_true rfl, Nat.le_of_ble_eq_true rfl⟩).run (fun r15 hr16 => ?_)
        obtain ⟨hr16, hr16E⟩ := hr16
        refine va_iast hx hb hK hP hD hS 1 0 rfl rfl (ix32 (mi := 0) (mk := 0) rfl (by decide) (opt_in (h21 0 (by decide)) hne (by decide))) d_M_copyStore_78 (fun H locs hP hD hS => ?_)
        replace hP : va_P (dC, dI) classes [(m0, .inr (6, oM ga uM cn sn cm us wt oc ou ow)), (ga 9, .inl (gc 9, 96, .inl (upd a9 (Int32.toNatClampNeg (((32 : Int32) * (0 : Int32)) + (a21 0))) r15))), (ga 11, .inl (gc 11, 3, .inl a11)), (ga 12, .inl (gc 12, 3, .inl a12)), (ga 21, .inl (gc 21, 3, .inl a21)), (ga 22, .inl (gc 22, 3, .inl a22)), (ga 23, .inl (gc 23, 3, .inl a23))] H := hP
        replace hD : va_D A [(m0, .inr (6, oM ga uM cn sn cm us wt oc ou ow)), (ga 9, .inl (gc 9, 96, .inl (upd a9 (Int32.toNatClampNeg (((32 : Int32) * (0 : Int32)) + (a21 0))) r15))), (ga 11, .inl (gc 11, 3, .inl a11)), (ga 12, .inl (gc 12, 3, .inl a12)), (ga 21, .inl (gc 21, 3, .inl a21)), (ga 22, .inl (gc 22, 3, .inl a22)), (ga 23, .inl (gc 23, 3, .inl a23))] := hD
        refine lv_iinc (k := 2) (v := 1) hx hb d_M_copyStore_79 hl rfl rfl (by decide) rfl (fun ls hl => ?_)
        replace hl : lv_has ls 3 [(2, .int 1), (0, .ref m0), (1, .int 0)] := hl
        refine lv_goto (tgt := 24) hx hb d_M_copyStore_82 rfl ?_
        have hSq : SP = s_M_copyStore_cut0_24_1 a11 a12 a21 a22 (upd a9 (Int32.toNatClampNeg (((32 : Int32) * (0 : Int32)) + (a21 0))) r15) := by rw [hSq0, s_M_copyStore_cut0_24_0]; try (rw [if_pos hc13]); try (rw [if_neg hc14]); try (rw [← hr16E, bnd_eq]); all_goals rfl
        replace hl := lv_sub hl (l' := [(0, .ref m0), (1, .int 0), (2, .int 1)]) [1, 2, 0] rfl
        replace hP := hP.sub (ws' := [(m0, .inr (6, oM ga uM cn sn cm us wt oc ou ow)), (ga 9, .inl (gc 9, 96, .inl (upd a9 (Int32.toNatClampNeg (((32 : Int32) * (0 : Int32)) + (a21 0))) r15))), (ga 11, .inl (gc 11, 3, .inl a11)), (ga 12, .inl (gc 12, 3, .inl a12)), (ga 21, .inl (gc 21, 3, .inl a21)), (ga 22, .inl (gc 22, 3, .inl a22)), (ga 23, .inl (gc 23, 3, .inl a23))]) [0, 1, 2, 3, 4, 5, 6] rfl
        replace hD := hD.sub (ws' := [(m0, .inr (6, oM ga uM cn sn cm us wt oc ou ow)), (ga 9, .inl (gc 9, 96, .inl (upd a9 (Int32.toNatClampNeg (((32 : Int32) * (0 : Int32)) + (a21 0))) r15))), (ga 11, .inl (gc 11, 3, .inl a11)), (ga 12, .inl (gc 12, 3, .inl a12)), (ga 21, .inl (gc 21, 3, .inl a21)), (ga 22, .inl (gc 22, 3, .inl a22)), (ga 23, .inl (gc 23, 3, .inl a23))]) [0, 1, 2, 3, 4, 5, 6] (by decide) rfl
        exact cut0_24_1 (upd a9 (Int32.toNatClampNeg (((32 : Int32) * (0 : Int32)) + (a21 0))) r15) _ _ _ (by repeat' first | with_reducible assumption | with_reducible exact is16_0 | with_reducible exact is16_m _ | with_reducible exact set16' _ | with_reducible apply rgI_upd | with_reducible apply c3_upd | with_reducible apply o3_upd | exact Or.inl rfl | exact ⟨0, by with_reducible assumption, rfl⟩ | omega | assumption) hSq hl hP hD hS
  have cut1_24_3 : ∀ (a9 : Nat → Int32) (ls : Array Slot) (H : Heap) (locs : List Loc), ¬ a21 1 = (-1) → SP = s_M_copyStore_cut1_24_3 a9 →  lv_has ls 3 [(0, .ref m0), (1, .int 1), (2, .int 3)] → va_P (dC, dI) classes [(m0, .inr (6, oM ga uM cn sn cm us wt oc ou ow)), (ga 9, .inl (gc 9, 96, .inl a9)), (ga 11, .inl (gc 11, 3, .inl a11)), (ga 12, .inl (gc 12, 3, .inl a12)), (ga 21, .inl (gc 21, 3, .inl a21)), (ga 22, .inl (gc 22, 3, .inl a22)), (ga 23, .inl (gc 23, 3, .inl a23))] H → va_D A [(m0, .inr (6, oM ga uM cn sn cm us wt oc ou ow)), (ga 9, .inl (gc 9, 96, .inl a9)), (ga 11, .inl (gc 11, 3, .inl a11)), (ga 12, .inl (gc 12, 3, .inl a12)), (ga 21, .inl (gc 21, 3, .inl a21)), (ga 22, .inl (gc 22, 3, .inl a22)), (ga 23, .inl (gc 23, 3, .inl a23))] → va_S A s.heap H locs → W p l e (headSpec (tbw y_M_copyStore b_M_copyStore 3 none) ({ frames := 2, cells := 0, slots := 0, locals := 46 })).room s m ([.ref m0] : List Value).toArray below meth c H locs 0 0 (MQ below (va_Qv (fun (u9 : (Nat → Int32)) => match u9 with | a9n => (True) ∧ (a9n) = SP) (fun (u9 : (Nat → Int32)) t => match u9 with | a9n => va_P (dC, dI) classes [(m0, .inr (6, oM ga uM cn sn cm us wt oc ou ow)), (ga 9, .inl (gc 9, 96, .inl a9n)), (ga 11, .inl (gc 11, 3, .inl a11)), (ga 12, .inl (gc 12, 3, .inl a12)), (ga 21, .inl (gc 21, 3, .inl a21)), (ga 22, .inl (gc 22, 3, .inl a22)), (ga 23, .inl (gc 23, 3, .inl a23))] t.heap ∧ va_K (dC, dI) classes [(gc 9, .int), (gc 11, .int), (gc 12, .int), (gc 21, .int), (gc 22, .int), (gc 23, .boolean)] t ∧ va_D A [(m0, .inr (6, oM ga uM cn sn cm us wt oc ou ow)), (ga 9, .inl (gc 9, 96, .inl a9n)), (ga 11, .inl (gc 11, 3, .inl a11)), (ga 12, .inl (gc 12, 3, .inl a12)), (ga 21, .inl (gc 21, 3, .inl a21)), (ga 22, .inl (gc 22, 3, .inl a22)), (ga 23, .inl (gc 23, 3, .inl a23))]) A) ([.ref m0] : List Value).toArray s 0 0 A) (F0 m 24 ls []) := by
    intro a9 ls H locs hne hSq0 hl hP hD hS
    clear cut0_24_3 cut0_24_2 cut0_24_1 cut0_24_0
    refine lv_iload_n hx hb d_M_copyStore_24 rfl (lv_at hl 2 rfl) ?_
    refine lv_iconst (v := 3) hx hb d_M_copyStore_25 (by decide) ?_
    refine lv_icmp_ge (tgt := 85) hx hb d_M_copyStore_26 rfl (fun hc17 => ?_) (fun hc17 => by first | exact absurd (by decide) hc17 | exact absurd hc17 (by decide))
    have hP9 := hP.sub (ws' := [(m0, .inr (6, oM ga uM cn sn cm us wt oc ou ow)), (ga 9, .inl (gc 9, 96, .inl a9)), (ga 11, .inl (gc 11, 3, .inl a11)), (ga 12, .inl (gc 12, 3, .inl a12)), (ga 21, .inl (gc 21, 3, .inl a21)), (ga 22, .inl (gc 22, 3, .inl a22)), (ga 23, .inl (gc 23, 3, .inl a23))]) [0, 1, 2, 3, 4, 5, 6] rfl
    have hD9 := hD.sub (ws' := [(m0, .inr (6, oM ga uM cn sn cm us wt oc ou ow)), (ga 9, .inl (gc 9, 96, .inl a9)), (ga 11, .inl (gc 11, 3, .inl a11)), (ga 12, .inl (gc 12, 3, .inl a12)), (ga 21, .inl (gc 21, 3, .inl a21)), (ga 22, .inl (gc 22, 3, .inl a22)), (ga 23, .inl (gc 23, 3, .inl a23))]) [0, 1, 2, 3, 4, 5, 6] (by decide) rfl
    have hK9 := hK.sub (tys' := [(gc 9, .int), (gc 11, .int), (gc 12, .int), (gc 21, .int), (gc 22, .int), (gc 23, .boolean)]) [0, 1, 2, 3, 4, 5] rfl
    refine W.widen (k := 0) (n := 0) (Nat.le_of_ble_eq_true rfl) (Nat.le_of_ble_eq_true rfl) ?_
    exact W.vret hx hb hr (fun t ht hW => ⟨⟨(a9), rfl, ⟨trivial, (by rw [hSq0, s_M_copyStore_cut1_24_3]; all_goals rfl)⟩, by rw [ht]; exact hP9, va_K.moved hW.alike hK9, hD9⟩, hS.F ht⟩) hS.2.2 d_M_copyStore_85
  have cut1_24_2 : ∀ (a9 : Nat → Int32) (ls : Array Slot) (H : Heap) (locs : List Loc), ¬ a21 1 = (-1) → SP = s_M_copyStore_cut1_24_2 a11 a12 a21 a22 a9 →  lv_has ls 3 [(0, .ref m0), (1, .int 1), (2, .int 2)] → va_P (dC, dI) classes [(m0, .inr (6, oM ga uM cn sn cm us wt oc ou ow)), (ga 9, .inl (gc 9, 96, .inl a9)), (ga 11, .inl (gc 11, 3, .inl a11)), (ga 12, .inl (gc 12, 3, .inl a12)), (ga 21, .inl (gc 21, 3, .inl a21)), (ga 22, .inl (gc 22, 3, .inl a22)), (ga 23, .inl (gc 23, 3, .inl a23))] H → va_D A [(m0, .inr (6, oM ga uM cn sn cm us wt oc ou ow)), (ga 9, .inl (gc 9, 96, .inl a9)), (ga 11, .inl (gc 11, 3, .inl a11)), (ga 12, .inl (gc 12, 3, .inl a12)), (ga 21, .inl (gc 21, 3, .inl a21)), (ga 22, .inl (gc 22, 3, .inl a22)), (ga 23, .inl (gc 23, 3, .inl a23))] → va_S A s.heap H locs → W p l e (headSpec (tbw y_M_copyStore b_M_copyStore 3 none) ({ frames := 2, cells := 0, slots := 0, locals := 46 })).room s m ([.ref m0] : List Value).toArray below meth c H locs 0 0 (MQ below (va_Qv (fun (u9 : (Nat → Int32)) => match u9 with | a9n => (True) ∧ (a9n) = SP) (fun (u9 : (Nat → Int32)) t => match u9 with | a9n => va_P (dC, dI) classes [(m0, .inr (6, oM ga uM cn sn cm us wt oc ou ow)), (ga 9, .inl (gc 9, 96, .inl a9n)), (ga 11, .inl (gc 11, 3, .inl a11)), (ga 12, .inl (gc 12, 3, .inl a12)), (ga 21, .inl (gc 21, 3, .inl a21)), (ga 22, .inl (gc 22, 3, .inl a22)), (ga 23, .inl (gc 23, 3, .inl a23))] t.heap ∧ va_K (dC, dI) classes [(gc 9, .int), (gc 11, .int), (gc 12, .int), (gc 21, .int), (gc 22, .int), (gc 23, .boolean)] t ∧ va_D A [(m0, .inr (6, oM ga uM cn sn cm us wt oc ou ow)), (ga 9, .inl (gc 9, 96, .inl a9n)), (ga 11, .inl (gc 11, 3, .inl a11)), (ga 12, .inl (gc 12, 3, .inl a12)), (ga 21, .inl (gc 21, 3, .inl a21)), (ga 22, .inl (gc 22, 3, .inl a22)), (ga 23, .inl (gc 23, 3, .inl a23))]) A) ([.ref m0] : List Value).toArray s 0 0 A) (F0 m 24 ls []) := by
    intro a9 ls H locs hne hSq0 hl hP hD hS
    clear cut0_24_3 cut0_24_2 cut0_24_1 cut0_24_0
    refine lv_iload_n hx hb d_M_copyStore_24 rfl (lv_at hl 2 rfl) ?_
    refine lv_iconst (v := 3) hx hb d_M_copyStore_25 (by decide) ?_
    refine lv_icmp_ge (tgt := 85) hx hb d_M_copyStore_26 rfl (fun hc18 => by first | exact absurd hc18 (by decide) | exact absurd (by decide) hc18) (fun hc18 => ?_)
    refine lv_aload_n hx hb d_M_copyStore_29 rfl (lv_at hl 0 rfl) ?_
    refine va_get (D := (dC, dI)) (ci := 6) (v := .ref (ga 11)) (C := "VotedTripleModel") (T := F_M) (N := 37) hx hb hw in_M hown hK hP 0 rfl rfl 11 (by decide) (hw _ k_735) (fun _ h9 => h9) rfl d_M_copyStore_30 ?_
    refine lv_iload_n hx hb d_M_copyStore_33 rfl (lv_at hl 2 rfl) ?_
    refine va_iald hx hb hK hP 2 1 rfl rfl (by unfold vp_in; decide) d_M_copyStore_34 ?_
    refine W.eq (g2 := F0 m 35 ls [.int (a11 2)]) rfl ?_
    refine lv_iconst (v := 1) hx hb d_M_copyStore_35 (by decide) ?_
    refine lv_icmp_ne (tgt := 79) hx hb d_M_copyStore_36 rfl (fun hc19 => ?_) (fun hc19 => ?_)
    · --  ¬ (a11 2) = 1
      refine lv_iinc (k := 2) (v := 3) hx hb d_M_copyStore_79 hl rfl rfl (by decide) rfl (fun ls hl => ?_)
      replace hl : lv_has ls 3 [(2, .int 3), (0, .ref m0), (1, .int 1)] := hl
      refine lv_goto (tgt := 24) hx hb d_M_copyStore_82 rfl ?_
      have hSq : SP = s_M_copyStore_cut1_24_3 a9 := by rw [hSq0, s_M_copyStore_cut1_24_2]; try (rw [if_neg hc19]); all_goals rfl
      replace hl := lv_sub hl (l' := [(0, .ref m0), (1, .int 1), (2, .int 3)]) [1, 2, 0] rfl
      replace hP := hP.sub (ws' := [(m0, .inr (6, oM ga uM cn sn cm us wt oc ou ow)), (ga 9, .inl (gc 9, 96, .inl a9)), (ga 11, .inl (gc 11, 3, .inl a11)), (ga 12, .inl (gc 12, 3, .inl a12)), (ga 21, .inl (gc 21, 3, .inl a21)), (ga 22, .inl (gc 22, 3, .inl a22)), (ga 23, .inl (gc 23, 3, .inl a23))]) [0, 1, 2, 3, 4, 5, 6] rfl
      replace hD := hD.sub (ws' := [(m0, .inr (6, oM ga uM cn sn cm us wt oc ou ow)), (ga 9, .inl (gc 9, 96, .inl a9)), (ga 11, .inl (gc 11, 3, .inl a11)), (ga 12, .inl (gc 12, 3, .inl a12)), (ga 21, .inl (gc 21, 3, .inl a21)), (ga 22, .inl (gc 22, 3, .inl a22)), (ga 23, .inl (gc 23, 3, .inl a23))]) [0, 1, 2, 3, 4, 5, 6] (by decide) rfl
      exact cut1_24_3 a9 _ _ _ (by repeat' first | with_reducible assumption | with_reducible exact is16_0 | with_reducible exact is16_m _ | with_reducible exact set16' _ | with_reducible apply rgI_upd | with_reducible apply c3_upd | with_reducible apply o3_upd | exact Or.inl rfl | exact ⟨0, by with_reducible assumption, rfl⟩ | omega | assumption) hSq hl hP hD hS
    · --  (a11 2) = 1
      refine lv_aload_n hx hb d_M_copyStore_39 rfl (lv_at hl 0 rfl) ?_
      refine va_get (D := (dC, dI)) (ci := 6) (v := .ref (ga 21)) (C := "VotedTripleModel") (T := F_M) (N := 37) hx hb hw in_M hown hK hP 0 rfl rfl 21 (by decide) (hw _ k_745) (fun _ h9 => h9) rfl d_M_copyStore_40 ?_
      refine lv_iload_n hx hb d_M_copyStore_43 rfl (lv_at hl 1 rfl) ?_
      refine va_iald hx hb hK hP 4 3 rfl rfl (by unfold vp_in; decide) d_M_copyStore_44 ?_
      refine W.eq (g2 := F0 m 45 ls [.int (a21 1)]) rfl ?_
      refine lv_aload_n hx hb d_M_copyStore_45 rfl (lv_at hl 0 rfl) ?_
      refine va_get (D := (dC, dI)) (ci := 6) (v := .ref (ga 12)) (C := "VotedTripleModel") (T := F_M) (N := 37) hx hb hw in_M hown hK hP 0 rfl rfl 12 (by decide) (hw _ k_736) (fun _ h9 => h9) rfl d_M_copyStore_46 ?_
      refine lv_iload_n hx hb d_M_copyStore_49 rfl (lv_at hl 2 rfl) ?_
      refine va_iald hx hb hK hP 3 2 rfl rfl (by unfold vp_in; decide) d_M_copyStore_50 ?_
      refine W.eq (g2 := F0 m 51 ls [.int (a12 2), .int (a21 1)]) rfl ?_
      refine lv_icmp_ge (tgt := 79) hx hb d_M_copyStore_51 rfl (fun hc20 => ?_) (fun hc20 => ?_)
      · --  (a12 2) ≤ (a21 1)
        refine lv_iinc (k := 2) (v := 3) hx hb d_M_copyStore_79 hl rfl rfl (by decide) rfl (fun ls hl => ?_)
        replace hl : lv_has ls 3 [(2, .int 3), (0, .ref m0), (1, .int 1)] := hl
        refine lv_goto (tgt := 24) hx hb d_M_copyStore_82 rfl ?_
        have hSq : SP = s_M_copyStore_cut1_24_3 a9 := by rw [hSq0, s_M_copyStore_cut1_24_2]; try (rw [if_pos hc19]); try (rw [if_pos hc20]); all_goals rfl
        replace hl := lv_sub hl (l' := [(0, .ref m0), (1, .int 1), (2, .int 3)]) [1, 2, 0] rfl
        replace hP := hP.sub (ws' := [(m0, .inr (6, oM ga uM cn sn cm us wt oc ou ow)), (ga 9, .inl (gc 9, 96, .inl a9)), (ga 11, .inl (gc 11, 3, .inl a11)), (ga 12, .inl (gc 12, 3, .inl a12)), (ga 21, .inl (gc 21, 3, .inl a21)), (ga 22, .inl (gc 22, 3, .inl a22)), (ga 23, .inl (gc 23, 3, .inl a23))]) [0, 1, 2, 3, 4, 5, 6] rfl
        replace hD := hD.sub (ws' := [(m0, .inr (6, oM ga uM cn sn cm us wt oc ou ow)), (ga 9, .inl (gc 9, 96, .inl a9)), (ga 11, .inl (gc 11, 3, .inl a11)), (ga 12, .inl (gc 12, 3, .inl a12)), (ga 21, .inl (gc 21, 3, .inl a21)), (ga 22, .inl (gc 22, 3, .inl a22)), (ga 23, .inl (gc 23, 3, .inl a23))]) [0, 1, 2, 3, 4, 5, 6] (by decide) rfl
        exact cut1_24_3 a9 _ _ _ (by repeat' first | with_reducible assumption | with_reducible exact is16_0 | with_reducible exact is16_m _ | with_reducible exact set16' _ | with_reducible apply rgI_upd | with_reducible apply c3_upd | with_reducible apply o3_upd | exact Or.inl rfl | exact ⟨0, by with_reducible assumption, rfl⟩ | omega | assumption) hSq hl hP hD hS
      · --  ¬ (a12 2) ≤ (a21 1)
        refine lv_aload_n hx hb d_M_copyStore_54 rfl (lv_at hl 0 rfl) ?_
        refine va_get (D := (dC, dI)) (ci := 6) (v := .ref (ga 9)) (C := "VotedTripleModel") (T := F_M) (N := 37) hx hb hw in_M hown hK hP 0 rfl rfl 9 (by decide) (hw _ k_733) (fun _ h9 => h9) rfl d_M_copyStore_55 ?_
        refine lv_bipush (v := 32) hx hb d_M_copyStore_58 (by decide) ?_
        refine lv_iload_n hx hb d_M_copyStore_60 rfl (lv_at hl 2 rfl) ?_
        refine lv_imul hx hb d_M_copyStore_61 ?_
        refine lv_aload_n hx hb d_M_copyStore_62 rfl (lv_at hl 0 rfl) ?_
        refine va_get (D := (dC, dI)) (ci := 6) (v := .ref (ga 21)) (C := "VotedTripleModel") (T := F_M) (N := 37) hx hb hw in_M hown hK hP 0 rfl rfl 21 (by decide) (hw _ k_745) (fun _ h9 => h9) rfl d_M_copyStore_63 ?_
        refine lv_iload_n hx hb d_M_copyStore_66 rfl (lv_at hl 1 rfl) ?_
        refine va_iald hx hb hK hP 4 3 rfl rfl (by unfold vp_in; decide) d_M_copyStore_67 ?_
        refine W.eq (g2 := F0 m 68 ls [.int (a21 1), .int ((32 : Int32) * (2 : Int32)), .ref (ga 9)]) rfl ?_
        refine lv_iadd hx hb d_M_copyStore_68 ?_
        refine lv_aload_n hx hb d_M_copyStore_69 rfl (lv_at hl 0 rfl) ?_
        refine va_get (D := (dC, dI)) (ci := 6) (v := .ref (ga 22)) (C := "VotedTripleModel") (T := F_M) (N := 37) hx hb hw in_M hown hK hP 0 rfl rfl 22 (by decide) (hw _ k_746) (fun _ h9 => h9) rfl d_M_copyStore_70 ?_
        refine lv_iload_n hx hb d_M_copyStore_73 rfl (lv_at hl 1 rfl) ?_
        refine va_iald hx hb hK hP 5 4 rfl rfl (by unfold vp_in; decide) d_M_copyStore_74 ?_
        refine W.eq (g2 := F0 m 75 ls [.int (a22 1), .int (((32 : Int32) * (2 : Int32)) + (a21 1)), .ref (ga 9)]) rfl ?_
        refine vp_callSi (va_runS (As := [.int (a22 1)]) (rest := [.int (((32 : Int32) * (2 : Int32)) + (a21 1)), .ref (ga 9)]) ⟨hx, hb, hml, hown, hw⟩ (c_M_encode l dC dI (a22 1)) (va_cwS 1 hw (gdS (k_863) (k_861) (k_862) (k_8)) rfl rfl rfl (by decide +kernel) ⟨Nat.le_of_ble_eq_true rfl, Nat.le_of_ble_eq_true rfl⟩) ⟨fun _ _ _ _ q => q, fun _ _ _ => ⟨rfl, trivial⟩⟩ rfl rfl hl.1 rfl (lv_room (Nat.le_of_ble_eq_true rfl)) d_M_copyStore_75 ⟨Nat.le_of_ble_eq_true rfl, Nat.le_of_ble_eq_true rfl⟩).run (fun r21 hr22 => ?_)
        obtain ⟨hr22, hr22E⟩ := hr22
        refine va_iast hx hb hK hP hD hS 1 0 rfl rfl (ix32 (mi := 2) (mk := 2) rfl (by decide) (opt_in (h21 1 (by decide)) hne (by decide))) d_M_copyStore_78 (fun H locs hP hD hS => ?_)
        replace hP : va_P (dC, dI) classes [(m0, .inr (6, oM ga uM cn sn cm us wt oc ou ow)), (ga 9, .inl (gc 9, 96, .inl (upd a9 (Int32.toNatClampNeg (((32 : Int32) * (2 : Int32)) + (a21 1))) r21))), (ga 11, .inl (gc 11, 3, .inl a11)), (ga 12, .inl (gc 12, 3, .inl a12)), (ga 21, .inl (gc 21, 3, .inl a21)), (ga 22, .inl (gc 22, 3, .inl a22)), (ga 23, .inl (gc 23, 3, .inl a23))] H := hP
        replace hD : va_D A [(m0, .inr (6, oM ga uM cn sn cm us wt oc ou ow)), (ga 9, .inl (gc 9, 96, .inl (upd a9 (Int32.toNatClampNeg (((32 : Int32) * (2 : Int32)) + (a21 1))) r21))), (ga 11, .inl (gc 11, 3, .inl a11)), (ga 12, .inl (gc 12, 3, .inl a12)), (ga 21, .inl (gc 21, 3, .inl a21)), (ga 22, .inl (gc 22, 3, .inl a22)), (ga 23, .inl (gc 23, 3, .inl a23))] := hD
        refine lv_iinc (k := 2) (v := 3) hx hb d_M_copyStore_79 hl rfl rfl (by decide) rfl (fun ls hl => ?_)
        replace hl : lv_has ls 3 [(2, .int 3), (0, .ref m0), (1, .int 1)] := hl
        refine lv_goto (tgt := 24) hx hb d_M_copyStore_82 rfl ?_
        have hSq : SP = s_M_copyStore_cut1_24_3 (upd a9 (Int32.toNatClampNeg (((32 : Int32) * (2 : Int32)) + (a21 1))) r21) := by rw [hSq0, s_M_copyStore_cut1_24_2]; try (rw [if_pos hc19]); try (rw [if_neg hc20]); try (rw [← hr22E, bnd_eq]); all_goals rfl
        replace hl := lv_sub hl (l' := [(0, .ref m0), (1, .int 1), (2, .int 3)]) [1, 2, 0] rfl
        replace hP := hP.sub (ws' := [(m0, .inr (6, oM ga uM cn sn cm us wt oc ou ow)), (ga 9, .inl (gc 9, 96, .inl (upd a9 (Int32.toNatClampNeg (((32 : Int32) * (2 : Int32)) + (a21 1))) r21))), (ga 11, .inl (gc 11, 3, .inl a11)), (ga 12, .inl (gc 12, 3, .inl a12)), (ga 21, .inl (gc 21, 3, .inl a21)), (ga 22, .inl (gc 22, 3, .inl a22)), (ga 23, .inl (gc 23, 3, .inl a23))]) [0, 1, 2, 3, 4, 5, 6] rfl
        replace hD := hD.sub (ws' := [(m0, .inr (6, oM ga uM cn sn cm us wt oc ou ow)), (ga 9, .inl (gc 9, 96, .inl (upd a9 (Int32.toNatClampNeg (((32 : Int32) * (2 : Int32)) + (a21 1))) r21))), (ga 11, .inl (gc 11, 3, .inl a11)), (ga 12, .inl (gc 12, 3, .inl a12)), (ga 21, .inl (gc 21, 3, .inl a21)), (ga 22, .inl (gc 22, 3, .inl a22)), (ga 23, .inl (gc 23, 3, .inl a23))]) [0, 1, 2, 3, 4, 5, 6] (by decide) rfl
        exact cut1_24_3 (upd a9 (Int32.toNatClampNeg (((32 : Int32) * (2 : Int32)) + (a21 1))) r21) _ _ _ (by repeat' first | with_reducible assumption | with_reducible exact is16_0 | with_reducible exact is16_m _ | with_reducible exact set16' _ | with_reducible apply rgI_upd | with_reducible apply c3_upd | with_reducible apply o3_upd | exact Or.inl rfl | exact ⟨0, by with_reducible assumption, rfl⟩ | omega | assumption) hSq hl hP hD hS
  have cut1_24_1 : ∀ (a9 : Nat → Int32) (ls : Array Slot) (H : Heap) (locs : List Loc), ¬ a21 1 = (-1) → SP = s_M_copyStore_cut1_24_1 a11 a12 a21 a22 a9 →  lv_has ls 3 [(0, .ref m0), (1, .int 1), (2, .int 1)] → va_P (dC, dI) classes [(m0, .inr (6, oM ga uM cn sn cm us wt oc ou ow)), (ga 9, .inl (gc 9, 96, .inl a9)), (ga 11, .inl (gc 11, 3, .inl a11)), (ga 12, .inl (gc 12, 3, .inl a12)), (ga 21, .inl (gc 21, 3, .inl a21)), (ga 22, .inl (gc 22, 3, .inl a22)), (ga 23, .inl (gc 23, 3, .inl a23))] H → va_D A [(m0, .inr (6, oM ga uM cn sn cm us wt oc ou ow)), (ga 9, .inl (gc 9, 96, .inl a9)), (ga 11, .inl (gc 11, 3, .inl a11)), (ga 12, .inl (gc 12, 3, .inl a12)), (ga 21, .inl (gc 21, 3, .inl a21)), (ga 22, .inl (gc 22, 3, .inl a22)), (ga 23, .inl (gc 23, 3, .inl a23))] → va_S A s.heap H locs → W p l e (headSpec (tbw y_M_copyStore b_M_copyStore 3 none) ({ frames := 2, cells := 0, slots := 0, locals := 46 })).room s m ([.ref m0] : List Value).toArray below meth c H locs 0 0 (MQ below (va_Qv (fun (u9 : (Nat → Int32)) => match u9 with | a9n => (True) ∧ (a9n) = SP) (fun (u9 : (Nat → Int32)) t => match u9 with | a9n => va_P (dC, dI) classes [(m0, .inr (6, oM ga uM cn sn cm us wt oc ou ow)), (ga 9, .inl (gc 9, 96, .inl a9n)), (ga 11, .inl (gc 11, 3, .inl a11)), (ga 12, .inl (gc 12, 3, .inl a12)), (ga 21, .inl (gc 21, 3, .inl a21)), (ga 22, .inl (gc 22, 3, .inl a22)), (ga 23, .inl (gc 23, 3, .inl a23))] t.heap ∧ va_K (dC, dI) classes [(gc 9, .int), (gc 11, .int), (gc 12, .int), (gc 21, .int), (gc 22, .int), (gc 23, .boolean)] t ∧ va_D A [(m0, .inr (6, oM ga uM cn sn cm us wt oc ou ow)), (ga 9, .inl (gc 9, 96, .inl a9n)), (ga 11, .inl (gc 11, 3, .inl a11)), (ga 12, .inl (gc 12, 3, .inl a12)), (ga 21, .inl (gc 21, 3, .inl a21)), (ga 22, .inl (gc 22, 3, .inl a22)), (ga 23, .inl (gc 23, 3, .inl a23))]) A) ([.ref m0] : List Value).toArray s 0 0 A) (F0 m 24 ls []) := by
    intro a9 ls H locs hne hSq0 hl hP hD hS
    clear cut0_24_3 cut0_24_2 cut0_24_1 cut0_24_0 cut1_24_3
    refine lv_iload_n hx hb d_M_copyStore_24 rfl (lv_at hl 2 rfl) ?_
    refine lv_iconst (v := 3) hx hb d_M_copyStore_25 (by decide) ?_
    refine lv_icmp_ge (tgt := 85) hx hb d_M_copyStore_26 rfl (fun hc23 => by first | exact absurd hc23 (by decide) | exact absurd (by decide) hc23) (fun hc23 => ?_)
    refine lv_aload_n hx hb d_M_copyStore_29 rfl (lv_at hl 0 rfl) ?_
    refine va_get (D := (dC, dI)) (ci := 6) (v := .ref (ga 11)) (C := "VotedTripleModel") (T := F_M) (N := 37) hx hb hw in_M hown hK hP 0 rfl rfl 11 (by decide) (hw _ k_735) (fun _ h9 => h9) rfl d_M_copyStore_30 ?_
    refine lv_iload_n hx hb d_M_copyStore_33 rfl (lv_at hl 2 rfl) ?_
    refine va_iald hx hb hK hP 2 1 rfl rfl (by unfold vp_in; decide) d_M_copyStore_34 ?_
    refine W.eq (g2 := F0 m 35 ls [.int (a11 1)]) rfl ?_
    refine lv_iconst (v := 1) hx hb d_M_copyStore_35 (by decide) ?_
    refine lv_icmp_ne (tgt := 79) hx hb d_M_copyStore_36 rfl (fun hc24 => ?_) (fun hc24 => ?_)
    · --  ¬ (a11 1) = 1
      refine lv_iinc (k := 2) (v := 2) hx hb d_M_copyStore_79 hl rfl rfl (by decide) rfl (fun ls hl => ?_)
      replace hl : lv_has ls 3 [(2, .int 2), (0, .ref m0), (1, .int 1)] := hl
      refine lv_goto (tgt := 24) hx hb d_M_copyStore_82 rfl ?_
      have hSq : SP = s_M_copyStore_cut1_24_2 a11 a12 a21 a22 a9 := by rw [hSq0, s_M_copyStore_cut1_24_1]; try (rw [if_neg hc24]); all_goals rfl
      replace hl := lv_sub hl (l' := [(0, .ref m0), (1, .int 1), (2, .int 2)]) [1, 2, 0] rfl
      replace hP := hP.sub (ws' := [(m0, .inr (6, oM ga uM cn sn cm us wt oc ou ow)), (ga 9, .inl (gc 9, 96, .inl a9)), (ga 11, .inl (gc 11, 3, .inl a11)), (ga 12, .inl (gc 12, 3, .inl a12)), (ga 21, .inl (gc 21, 3, .inl a21)), (ga 22, .inl (gc 22, 3, .inl a22)), (ga 23, .inl (gc 23, 3, .inl a23))]) [0, 1, 2, 3, 4, 5, 6] rfl
      replace hD := hD.sub (ws' := [(m0, .inr (6, oM ga uM cn sn cm us wt oc ou ow)), (ga 9, .inl (gc 9, 96, .inl a9)), (ga 11, .inl (gc 11, 3, .inl a11)), (ga 12, .inl (gc 12, 3, .inl a12)), (ga 21, .inl (gc 21, 3, .inl a21)), (ga 22, .inl (gc 22, 3, .inl a22)), (ga 23, .inl (gc 23, 3, .inl a23))]) [0, 1, 2, 3, 4, 5, 6] (by decide) rfl
      exact cut1_24_2 a9 _ _ _ (by repeat' first | with_reducible assumption | with_reducible exact is16_0 | with_reducible exact is16_m _ | with_reducible exact set16' _ | with_reducible apply rgI_upd | with_reducible apply c3_upd | with_reducible apply o3_upd | exact Or.inl rfl | exact ⟨0, by with_reducible assumption, rfl⟩ | omega | assumption) hSq hl hP hD hS
    · --  (a11 1) = 1
      refine lv_aload_n hx hb d_M_copyStore_39 rfl (lv_at hl 0 rfl) ?_
      refine va_get (D := (dC, dI)) (ci := 6) (v := .ref (ga 21)) (C := "VotedTripleModel") (T := F_M) (N := 37) hx hb hw in_M hown hK hP 0 rfl rfl 21 (by decide) (hw _ k_745) (fun _ h9 => h9) rfl d_M_copyStore_40 ?_
      refine lv_iload_n hx hb d_M_copyStore_43 rfl (lv_at hl 1 rfl) ?_
      refine va_iald hx hb hK hP 4 3 rfl rfl (by unfold vp_in; decide) d_M_copyStore_44 ?_
      refine W.eq (g2 := F0 m 45 ls [.int (a21 1)]) rfl ?_
      refine lv_aload_n hx hb d_M_copyStore_45 rfl (lv_at hl 0 rfl) ?_
      refine va_get (D := (dC, dI)) (ci := 6) (v := .ref (ga 12)) (C := "VotedTripleModel") (T := F_M) (N := 37) hx hb hw in_M hown hK hP 0 rfl rfl 12 (by decide) (hw _ k_736) (fun _ h9 => h9) rfl d_M_copyStore_46 ?_
      refine lv_iload_n hx hb d_M_copyStore_49 rfl (lv_at hl 2 rfl) ?_
      refine va_iald hx hb hK hP 3 2 rfl rfl (by unfold vp_in; decide) d_M_copyStore_50 ?_
      refine W.eq (g2 := F0 m 51 ls [.int (a12 1), .int (a21 1)]) rfl ?_
      refine lv_icmp_ge (tgt := 79) hx hb d_M_copyStore_51 rfl (fun hc25 => ?_) (fun hc25 => ?_)
      · --  (a12 1) ≤ (a21 1)
        refine lv_iinc (k := 2) (v := 2) hx hb d_M_copyStore_79 hl rfl rfl (by decide) rfl (fun ls hl => ?_)
        replace hl : lv_has ls 3 [(2, .int 2), (0, .ref m0), (1, .int 1)] := hl
        refine lv_goto (tgt := 24) hx hb d_M_copyStore_82 rfl ?_
        have hSq : SP = s_M_copyStore_cut1_24_2 a11 a12 a21 a22 a9 := by rw [hSq0, s_M_copyStore_cut1_24_1]; try (rw [if_pos hc24]); try (rw [if_pos hc25]); all_goals rfl
        replace hl := lv_sub hl (l' := [(0, .ref m0), (1, .int 1), (2, .int 2)]) [1, 2, 0] rfl
        replace hP := hP.sub (ws' := [(m0, .inr (6, oM ga uM cn sn cm us wt oc ou ow)), (ga 9, .inl (gc 9, 96, .inl a9)), (ga 11, .inl (gc 11, 3, .inl a11)), (ga 12, .inl (gc 12, 3, .inl a12)), (ga 21, .inl (gc 21, 3, .inl a21)), (ga 22, .inl (gc 22, 3, .inl a22)), (ga 23, .inl (gc 23, 3, .inl a23))]) [0, 1, 2, 3, 4, 5, 6] rfl
        replace hD := hD.sub (ws' := [(m0, .inr (6, oM ga uM cn sn cm us wt oc ou ow)), (ga 9, .inl (gc 9, 96, .inl a9)), (ga 11, .inl (gc 11, 3, .inl a11)), (ga 12, .inl (gc 12, 3, .inl a12)), (ga 21, .inl (gc 21, 3, .inl a21)), (ga 22, .inl (gc 22, 3, .inl a22)), (ga 23, .inl (gc 23, 3, .inl a23))]) [0, 1, 2, 3, 4, 5, 6] (by decide) rfl
        exact cut1_24_2 a9 _ _ _ (by repeat' first | with_reducible assumption | with_reducible exact is16_0 | with_reducible exact is16_m _ | with_reducible exact set16' _ | with_reducible apply rgI_upd | with_reducible apply c3_upd | with_reducible apply o3_upd | exact Or.inl rfl | exact ⟨0, by with_reducible assumption, rfl⟩ | omega | assumption) hSq hl hP hD hS
      · --  ¬ (a12 1) ≤ (a21 1)
        refine lv_aload_n hx hb d_M_copyStore_54 rfl (lv_at hl 0 rfl) ?_
        refine va_get (D := (dC, dI)) (ci := 6) (v := .ref (ga 9)) (C := "VotedTripleModel") (T := F_M) (N := 37) hx hb hw in_M hown hK hP 0 rfl rfl 9 (by decide) (hw _ k_733) (fun _ h9 => h9) rfl d_M_copyStore_55 ?_
        refine lv_bipush (v := 32) hx hb d_M_copyStore_58 (by decide) ?_
        refine lv_iload_n hx hb d_M_copyStore_60 rfl (lv_at hl 2 rfl) ?_
        refine lv_imul hx hb d_M_copyStore_61 ?_
        refine lv_aload_n hx hb d_M_copyStore_62 rfl (lv_at hl 0 rfl) ?_
        refine va_get (D := (dC, dI)) (ci := 6) (v := .ref (ga 21)) (C := "VotedTripleModel") (T := F_M) (N := 37) hx hb hw in_M hown hK hP 0 rfl rfl 21 (by decide) (hw _ k_745) (fun _ h9 => h9) rfl d_M_copyStore_63 ?_
        refine lv_iload_n hx hb d_M_copyStore_66 rfl (lv_at hl 1 rfl) ?_
        refine va_iald hx hb hK hP 4 3 rfl rfl (by unfold vp_in; decide) d_M_copyStore_67 ?_
        refine W.eq (g2 := F0 m 68 ls [.int (a21 1), .int ((32 : Int32) * (1 : Int32)), .ref (ga 9)]) rfl ?_
        refine lv_iadd hx hb d_M_copyStore_68 ?_
        refine lv_aload_n hx hb d_M_copyStore_69 rfl (lv_at hl 0 rfl) ?_
        refine va_get (D := (dC, dI)) (ci := 6) (v := .ref (ga 22)) (C := "VotedTripleModel") (T := F_M) (N := 37) hx hb hw in_M hown hK hP 0 rfl rfl 22 (by decide) (hw _ k_746) (fun _ h9 => h9) rfl d_M_copyStore_70 ?_
        refine lv_iload_n hx hb d_M_copyStore_73 rfl (lv_at hl 1 rfl) ?_
        refine va_iald hx hb hK hP 5 4 rfl rfl (by unfold vp_in; decide) d_M_copyStore_74 ?_
        refine W.eq (g2 := F0 m 75 ls [.int (a22 1), .int (((32 : Int32) * (1 : Int32)) + (a21 1)), .ref (ga 9)]) rfl ?_
        refine vp_callSi (va_runS (As := [.int (a22 1)]) (rest := [.int (((32 : Int32) * (1 : Int32)) + (a21 1)), .ref (ga 9)]) ⟨hx, hb, hml, hown, hw⟩ (c_M_encode l dC dI (a22 1)) (va_cwS 1 hw (gdS (k_863) (k_861) (k_862) (k_8)) rfl rfl rfl (by decide +kernel) ⟨Nat.le_of_ble_eq_true rfl, Nat.le_of_ble_eq_true rfl⟩) ⟨fun _ _ _ _ q => q, fun _ _ _ => ⟨rfl, trivial⟩⟩ rfl rfl hl.1 rfl (lv_room (Nat.le_of_ble_eq_true rfl)) d_M_copyStore_75 ⟨Nat.le_of_ble_eq_true rfl, Nat.le_of_ble_eq_true rfl⟩).run (fun r26 hr27 => ?_)
        obtain ⟨hr27, hr27E⟩ := hr27
        refine va_iast hx hb hK hP hD hS 1 0 rfl rfl (ix32 (mi := 1) (mk := 1) rfl (by decide) (opt_in (h21 1 (by decide)) hne (by decide))) d_M_copyStore_78 (fun H locs hP hD hS => ?_)
        replace hP : va_P (dC, dI) classes [(m0, .inr (6, oM ga uM cn sn cm us wt oc ou ow)), (ga 9, .inl (gc 9, 96, .inl (upd a9 (Int32.toNatClampNeg (((32 : Int32) * (1 : Int32)) + (a21 1))) r26))), (ga 11, .inl (gc 11, 3, .inl a11)), (ga 12, .inl (gc 12, 3, .inl a12)), (ga 21, .inl (gc 21, 3, .inl a21)), (ga 22, .inl (gc 22, 3, .inl a22)), (ga 23, .inl (gc 23, 3, .inl a23))] H := hP
        replace hD : va_D A [(m0, .inr (6, oM ga uM cn sn cm us wt oc ou ow)), (ga 9, .inl (gc 9, 96, .inl (upd a9 (Int32.toNatClampNeg (((32 : Int32) * (1 : Int32)) + (a21 1))) r26))), (ga 11, .inl (gc 11, 3, .inl a11)), (ga 12, .inl (gc 12, 3, .inl a12)), (ga 21, .inl (gc 21, 3, .inl a21)), (ga 22, .inl (gc 22, 3, .inl a22)), (ga 23, .inl (gc 23, 3, .inl a23))] := hD
        refine lv_iinc (k := 2) (v := 2) hx hb d_M_copyStore_79 hl rfl rfl (by decide) rfl (fun ls hl => ?_)
        replace hl : lv_has ls 3 [(2, .int 2), (0, .ref m0), (1, .int 1)] := hl
        refine lv_goto (tgt := 24) hx hb d_M_copyStore_82 rfl ?_
        have hSq : SP = s_M_copyStore_cut1_24_2 a11 a12 a21 a22 (upd a9 (Int32.toNatClampNeg (((32 : Int32) * (1 : Int32)) + (a21 1))) r26) := by rw [hSq0, s_M_copyStore_cut1_24_1]; try (rw [if_pos hc24]); try (rw [if_neg hc25]); try (rw [← hr27E, bnd_eq]); all_goals rfl
        replace hl := lv_sub hl (l' := [(0, .ref m0), (1, .int 1), (2, .int 2)]) [1, 2, 0] rfl
        replace hP := hP.sub (ws' := [(m0, .inr (6, oM ga uM cn sn cm us wt oc ou ow)), (ga 9, .inl (gc 9, 96, .inl (upd a9 (Int32.toNatClampNeg (((32 : Int32) * (1 : Int32)) + (a21 1))) r26))), (ga 11, .inl (gc 11, 3, .inl a11)), (ga 12, .inl (gc 12, 3, .inl a12)), (ga 21, .inl (gc 21, 3, .inl a21)), (ga 22, .inl (gc 22, 3, .inl a22)), (ga 23, .inl (gc 23, 3, .inl a23))]) [0, 1, 2, 3, 4, 5, 6] rfl
        replace hD := hD.sub (ws' := [(m0, .inr (6, oM ga uM cn sn cm us wt oc ou ow)), (ga 9, .inl (gc 9, 96, .inl (upd a9 (Int32.toNatClampNeg (((32 : Int32) * (1 : Int32)) + (a21 1))) r26))), (ga 11, .inl (gc 11, 3, .inl a11)), (ga 12, .inl (gc 12, 3, .inl a12)), (ga 21, .inl (gc 21, 3, .inl a21)), (ga 22, .inl (gc 22, 3, .inl a22)), (ga 23, .inl (gc 23, 3, .inl a23))]) [0, 1, 2, 3, 4, 5, 6] (by decide) rfl
        exact cut1_24_2 (upd a9 (Int32.toNatClampNeg (((32 : Int32) * (1 : Int32)) + (a21 1))) r26) _ _ _ (by repeat' first | with_reducible assumption | with_reducible exact is16_0 | with_reducible exact is16_m _ | with_reducible exact set16' _ | with_reducible apply rgI_upd | with_reducible apply c3_upd | with_reducible apply o3_upd | exact Or.inl rfl | exact ⟨0, by with_reducible assumption, rfl⟩ | omega | assumption) hSq hl hP hD hS
  have cut1_24_0 : ∀ (a9 : Nat → Int32) (ls : Array Slot) (H : Heap) (locs : List Loc), ¬ a21 1 = (-1) → SP = s_M_copyStore_cut1_24_0 a11 a12 a21 a22 a9 →  lv_has ls 3 [(0, .ref m0), (1, .int 1), (2, .int 0)] → va_P (dC, dI) classes [(m0, .inr (6, oM ga uM cn sn cm us wt oc ou ow)), (ga 9, .inl (gc 9, 96, .inl a9)), (ga 11, .inl (gc 11, 3, .inl a11)), (ga 12, .inl (gc 12, 3, .inl a12)), (ga 21, .inl (gc 21, 3, .inl a21)), (ga 22, .inl (gc 22, 3, .inl a22)), (ga 23, .inl (gc 23, 3, .inl a23))] H → va_D A [(m0, .inr (6, oM ga uM cn sn cm us wt oc ou ow)), (ga 9, .inl (gc 9, 96, .inl a9)), (ga 11, .inl (gc 11, 3, .inl a11)), (ga 12, .inl (gc 12, 3, .inl a12)), (ga 21, .inl (gc 21, 3, .inl a21)), (ga 22, .inl (gc 22, 3, .inl a22)), (ga 23, .inl (gc 23, 3, .inl a23))] → va_S A s.heap H locs → W p l e (headSpec (tbw y_M_copyStore b_M_copyStore 3 none) ({ frames := 2, cells := 0, slots := 0, locals := 46 })).room s m ([.ref m0] : List Value).toArray below meth c H locs 0 0 (MQ below (va_Qv (fun (u9 : (Nat → Int32)) => match u9 with | a9n => (True) ∧ (a9n) = SP) (fun (u9 : (Nat → Int32)) t => match u9 with | a9n => va_P (dC, dI) classes [(m0, .inr (6, oM ga uM cn sn cm us wt oc ou ow)), (ga 9, .inl (gc 9, 96, .inl a9n)), (ga 11, .inl (gc 11, 3, .inl a11)), (ga 12, .inl (gc 12, 3, .inl a12)), (ga 21, .inl (gc 21, 3, .inl a21)), (ga 22, .inl (gc 22, 3, .inl a22)), (ga 23, .inl (gc 23, 3, .inl a23))] t.heap ∧ va_K (dC, dI) classes [(gc 9, .int), (gc 11, .int), (gc 12, .int), (gc 21, .int), (gc 22, .int), (gc 23, .boolean)] t ∧ va_D A [(m0, .inr (6, oM ga uM cn sn cm us wt oc ou ow)), (ga 9, .inl (gc 9, 96, .inl a9n)), (ga 11, .inl (gc 11, 3, .inl a11)), (ga 12, .inl (gc 12, 3, .inl a12)), (ga 21, .inl (gc 21, 3, .inl a21)), (ga 22, .inl (gc 22, 3, .inl a22)), (ga 23, .inl (gc 23, 3, .inl a23))]) A) ([.ref m0] : List Value).toArray s 0 0 A) (F0 m 24 ls []) := by
    intro a9 ls H locs hne hSq0 hl hP hD hS
    clear cut0_24_3 cut0_24_2 cut0_24_1 cut0_24_0 cut1_24_3 cut1_24_2
    refine lv_iload_n hx hb d_M_copyStore_24 rfl (lv_at hl 2 rfl) ?_
    refine lv_iconst (v := 3) hx hb d_M_copyStore_25 (by decide) ?_
    refine lv_icmp_ge (tgt := 85) hx hb d_M_copyStore_26 rfl (fun hc28 => by first | exact absurd hc28 (by decide) | exact absurd (by decide) hc28) (fun hc28 => ?_)
    refine lv_aload_n hx hb d_M_copyStore_29 rfl (lv_at hl 0 rfl) ?_
    refine va_get (D := (dC, dI)) (ci := 6) (v := .ref (ga 11)) (C := "VotedTripleModel") (T := F_M) (N := 37) hx hb hw in_M hown hK hP 0 rfl rfl 11 (by decide) (hw _ k_735) (fun _ h9 => h9) rfl d_M_copyStore_30 ?_
    refine lv_iload_n hx hb d_M_copyStore_33 rfl (lv_at hl 2 rfl) ?_
    refine va_iald hx hb hK hP 2 1 rfl rfl (by unfold vp_in; decide) d_M_copyStore_34 ?_
    refine W.eq (g2 := F0 m 35 ls [.int (a11 0)]) rfl ?_
    refine lv_iconst (v := 1) hx hb d_M_copyStore_35 (by decide) ?_
    refine lv_icmp_ne (tgt := 79) hx hb d_M_copyStore_36 rfl (fun hc29 => ?_) (fun hc29 => ?_)
    · --  ¬ (a11 0) = 1
      refine lv_iinc (k := 2) (v := 1) hx hb d_M_copyStore_79 hl rfl rfl (by decide) rfl (fun ls hl => ?_)
      replace hl : lv_has ls 3 [(2, .int 1), (0, .ref m0), (1, .int 1)] := hl
      refine lv_goto (tgt := 24) hx hb d_M_copyStore_82 rfl ?_
      have hSq : SP = s_M_copyStore_cut1_24_1 a11 a12 a21 a22 a9 := by rw [hSq0, s_M_copyStore_cut1_24_0]; try (rw [if_neg hc29]); all_goals rfl
      replace hl := lv_sub hl (l' := [(0, .ref m0), (1, .int 1), (2, .int 1)]) [1, 2, 0] rfl
      replace hP := hP.sub (ws' := [(m0, .inr (6, oM ga uM cn sn cm us wt oc ou ow)), (ga 9, .inl (gc 9, 96, .inl a9)), (ga 11, .inl (gc 11, 3, .inl a11)), (ga 12, .inl (gc 12, 3, .inl a12)), (ga 21, .inl (gc 21, 3, .inl a21)), (ga 22, .inl (gc 22, 3, .inl a22)), (ga 23, .inl (gc 23, 3, .inl a23))]) [0, 1, 2, 3, 4, 5, 6] rfl
      replace hD := hD.sub (ws' := [(m0, .inr (6, oM ga uM cn sn cm us wt oc ou ow)), (ga 9, .inl (gc 9, 96, .inl a9)), (ga 11, .inl (gc 11, 3, .inl a11)), (ga 12, .inl (gc 12, 3, .inl a12)), (ga 21, .inl (gc 21, 3, .inl a21)), (ga 22, .inl (gc 22, 3, .inl a22)), (ga 23, .inl (gc 23, 3, .inl a23))]) [0, 1, 2, 3, 4, 5, 6] (by decide) rfl
      exact cut1_24_1 a9 _ _ _ (by repeat' first | with_reducible assumption | with_reducible exact is16_0 | with_reducible exact is16_m _ | with_reducible exact set16' _ | with_reducible apply rgI_upd | with_reducible apply c3_upd | with_reducible apply o3_upd | exact Or.inl rfl | exact ⟨0, by with_reducible assumption, rfl⟩ | omega | assumption) hSq hl hP hD hS
    · --  (a11 0) = 1
      refine lv_aload_n hx hb d_M_copyStore_39 rfl (lv_at hl 0 rfl) ?_
      refine va_get (D := (dC, dI)) (ci := 6) (v := .ref (ga 21)) (C := "VotedTripleModel") (T := F_M) (N := 37) hx hb hw in_M hown hK hP 0 rfl rfl 21 (by decide) (hw _ k_745) (fun _ h9 => h9) rfl d_M_copyStore_40 ?_
      refine lv_iload_n hx hb d_M_copyStore_43 rfl (lv_at hl 1 rfl) ?_
      refine va_iald hx hb hK hP 4 3 rfl rfl (by unfold vp_in; decide) d_M_copyStore_44 ?_
      refine W.eq (g2 := F0 m 45 ls [.int (a21 1)]) rfl ?_
      refine lv_aload_n hx hb d_M_copyStore_45 rfl (lv_at hl 0 rfl) ?_
      refine va_get (D := (dC, dI)) (ci := 6) (v := .ref (ga 12)) (C := "VotedTripleModel") (T := F_M) (N := 37) hx hb hw in_M hown hK hP 0 rfl rfl 12 (by decide) (hw _ k_736) (fun _ h9 => h9) rfl d_M_copyStore_46 ?_
      refine lv_iload_n hx hb d_M_copyStore_49 rfl (lv_at hl 2 rfl) ?_
      refine va_iald hx hb hK hP 3 2 rfl rfl (by unfold vp_in; decide) d_M_copyStore_50 ?_
      refine W.eq (g2 := F0 m 51 ls [.int (a12 0), .int (a21 1)]) rfl ?_
      refine lv_icmp_ge (tgt := 79) hx hb d_M_copyStore_51 rfl (fun hc30 => ?_) (fun hc30 => ?_)
      · --  (a12 0) ≤ (a21 1)
        refine lv_iinc (k := 2) (v := 1) hx hb d_M_copyStore_79 hl rfl rfl (by decide) rfl (fun ls hl => ?_)
        replace hl : lv_has ls 3 [(2, .int 1), (0, .ref m0), (1, .int 1)] := hl
        refine lv_goto (tgt := 24) hx hb d_M_copyStore_82 rfl ?_
        have hSq : SP = s_M_copyStore_cut1_24_1 a11 a12 a21 a22 a9 := by rw [hSq0, s_M_copyStore_cut1_24_0]; try (rw [if_pos hc29]); try (rw [if_pos hc30]); all_goals rfl
        replace hl := lv_sub hl (l' := [(0, .ref m0), (1, .int 1), (2, .int 1)]) [1, 2, 0] rfl
        replace hP := hP.sub (ws' := [(m0, .inr (6, oM ga uM cn sn cm us wt oc ou ow)), (ga 9, .inl (gc 9, 96, .inl a9)), (ga 11, .inl (gc 11, 3, .inl a11)), (ga 12, .inl (gc 12, 3, .inl a12)), (ga 21, .inl (gc 21, 3, .inl a21)), (ga 22, .inl (gc 22, 3, .inl a22)), (ga 23, .inl (gc 23, 3, .inl a23))]) [0, 1, 2, 3, 4, 5, 6] rfl
        replace hD := hD.sub (ws' := [(m0, .inr (6, oM ga uM cn sn cm us wt oc ou ow)), (ga 9, .inl (gc 9, 96, .inl a9)), (ga 11, .inl (gc 11, 3, .inl a11)), (ga 12, .inl (gc 12, 3, .inl a12)), (ga 21, .inl (gc 21, 3, .inl a21)), (ga 22, .inl (gc 22, 3, .inl a22)), (ga 23, .inl (gc 23, 3, .inl a23))]) [0, 1, 2, 3, 4, 5, 6] (by decide) rfl
        exact cut1_24_1 a9 _ _ _ (by repeat' first | with_reducible assumption | with_reducible exact is16_0 | with_reducible exact is16_m _ | with_reducible exact set16' _ | with_reducible apply rgI_upd | with_reducible apply c3_upd | with_reducible apply o3_upd | exact Or.inl rfl | exact ⟨0, by with_reducible assumption, rfl⟩ | omega | assumption) hSq hl hP hD hS
      · --  ¬ (a12 0) ≤ (a21 1)
        refine lv_aload_n hx hb d_M_copyStore_54 rfl (lv_at hl 0 rfl) ?_
        refine va_get (D := (dC, dI)) (ci := 6) (v := .ref (ga 9)) (C := "VotedTripleModel") (T := F_M) (N := 37) hx hb hw in_M hown hK hP 0 rfl rfl 9 (by decide) (hw _ k_733) (fun _ h9 => h9) rfl d_M_copyStore_55 ?_
        refine lv_bipush (v := 32) hx hb d_M_copyStore_58 (by decide) ?_
        refine lv_iload_n hx hb d_M_copyStore_60 rfl (lv_at hl 2 rfl) ?_
        refine lv_imul hx hb d_M_copyStore_61 ?_
        refine lv_aload_n hx hb d_M_copyStore_62 rfl (lv_at hl 0 rfl) ?_
        refine va_get (D := (dC, dI)) (ci := 6) (v := .ref (ga 21)) (C := "VotedTripleModel") (T := F_M) (N := 37) hx hb hw in_M hown hK hP 0 rfl rfl 21 (by decide) (hw _ k_745) (fun _ h9 => h9) rfl d_M_copyStore_63 ?_
        refine lv_iload_n hx hb d_M_copyStore_66 rfl (lv_at hl 1 rfl) ?_
        refine va_iald hx hb hK hP 4 3 rfl rfl (by unfold vp_in; decide) d_M_copyStore_67 ?_
        refine W.eq (g2 := F0 m 68 ls [.int (a21 1), .int ((32 : Int32) * (0 : Int32)), .ref (ga 9)]) rfl ?_
        refine lv_iadd hx hb d_M_copyStore_68 ?_
        refine lv_aload_n hx hb d_M_copyStore_69 rfl (lv_at hl 0 rfl) ?_
        refine va_get (D := (dC, dI)) (ci := 6) (v := .ref (ga 22)) (C := "VotedTripleModel") (T := F_M) (N := 37) hx hb hw in_M hown hK hP 0 rfl rfl 22 (by decide) (hw _ k_746) (fun _ h9 => h9) rfl d_M_copyStore_70 ?_
        refine lv_iload_n hx hb d_M_copyStore_73 rfl (lv_at hl 1 rfl) ?_
        refine va_iald hx hb hK hP 5 4 rfl rfl (by unfold vp_in; decide) d_M_copyStore_74 ?_
        refine W.eq (g2 := F0 m 75 ls [.int (a22 1), .int (((32 : Int32) * (0 : Int32)) + (a21 1)), .ref (ga 9)]) rfl ?_
        refine vp_callSi (va_runS (As := [.int (a22 1)]) (rest := [.int (((32 : Int32) * (0 : Int32)) + (a21 1)), .ref (ga 9)]) ⟨hx, hb, hml, hown, hw⟩ (c_M_encode l dC dI (a22 1)) (va_cwS 1 hw (gdS (k_863) (k_861) (k_862) (k_8)) rfl rfl rfl (by decide +kernel) ⟨Nat.le_of_ble_eq_true rfl, Nat.le_of_ble_eq_true rfl⟩) ⟨fun _ _ _ _ q => q, fun _ _ _ => ⟨rfl, trivial⟩⟩ rfl rfl hl.1 rfl (lv_room (Nat.le_of_ble_eq_true rfl)) d_M_copyStore_75 ⟨Nat.le_of_ble_eq_true rfl, Nat.le_of_ble_eq_true rfl⟩).run (fun r31 hr32 => ?_)
        obtain ⟨hr32, hr32E⟩ := hr32
        refine va_iast hx hb hK hP hD hS 1 0 rfl rfl (ix32 (mi := 0) (mk := 0) rfl (by decide) (opt_in (h21 1 (by decide)) hne (by decide))) d_M_copyStore_78 (fun H locs hP hD hS => ?_)
        replace hP : va_P (dC, dI) classes [(m0, .inr (6, oM ga uM cn sn cm us wt oc ou ow)), (ga 9, .inl (gc 9, 96, .inl (upd a9 (Int32.toNatClampNeg (((32 : Int32) * (0 : Int32)) + (a21 1))) r31))), (ga 11, .inl (gc 11, 3, .inl a11)), (ga 12, .inl (gc 12, 3, .inl a12)), (ga 21, .inl (gc 21, 3, .inl a21)), (ga 22, .inl (gc 22, 3, .inl a22)), (ga 23, .inl (gc 23, 3, .inl a23))] H := hP
        replace hD : va_D A [(m0, .inr (6, oM ga uM cn sn cm us wt oc ou ow)), (ga 9, .inl (gc 9, 96, .inl (upd a9 (Int32.toNatClampNeg (((32 : Int32) * (0 : Int32)) + (a21 1))) r31))), (ga 11, .inl (gc 11, 3, .inl a11)), (ga 12, .inl (gc 12, 3, .inl a12)), (ga 21, .inl (gc 21, 3, .inl a21)), (ga 22, .inl (gc 22, 3, .inl a22)), (ga 23, .inl (gc 23, 3, .inl a23))] := hD
        refine lv_iinc (k := 2) (v := 1) hx hb d_M_copyStore_79 hl rfl rfl (by decide) rfl (fun ls hl => ?_)
        replace hl : lv_has ls 3 [(2, .int 1), (0, .ref m0), (1, .int 1)] := hl
        refine lv_goto (tgt := 24) hx hb d_M_copyStore_82 rfl ?_
        have hSq : SP = s_M_copyStore_cut1_24_1 a11 a12 a21 a22 (upd a9 (Int32.toNatClampNeg (((32 : Int32) * (0 : Int32)) + (a21 1))) r31) := by rw [hSq0, s_M_copyStore_cut1_24_0]; try (rw [if_pos hc29]); try (rw [if_neg hc30]); try (rw [← hr32E, bnd_eq]); all_goals rfl
        replace hl := lv_sub hl (l' := [(0, .ref m0), (1, .int 1), (2, .int 1)]) [1, 2, 0] rfl
        replace hP := hP.sub (ws' := [(m0, .inr (6, oM ga uM cn sn cm us wt oc ou ow)), (ga 9, .inl (gc 9, 96, .inl (upd a9 (Int32.toNatClampNeg (((32 : Int32) * (0 : Int32)) + (a21 1))) r31))), (ga 11, .inl (gc 11, 3, .inl a11)), (ga 12, .inl (gc 12, 3, .inl a12)), (ga 21, .inl (gc 21, 3, .inl a21)), (ga 22, .inl (gc 22, 3, .inl a22)), (ga 23, .inl (gc 23, 3, .inl a23))]) [0, 1, 2, 3, 4, 5, 6] rfl
        replace hD := hD.sub (ws' := [(m0, .inr (6, oM ga uM cn sn cm us wt oc ou ow)), (ga 9, .inl (gc 9, 96, .inl (upd a9 (Int32.toNatClampNeg (((32 : Int32) * (0 : Int32)) + (a21 1))) r31))), (ga 11, .inl (gc 11, 3, .inl a11)), (ga 12, .inl (gc 12, 3, .inl a12)), (ga 21, .inl (gc 21, 3, .inl a21)), (ga 22, .inl (gc 22, 3, .inl a22)), (ga 23, .inl (gc 23, 3, .inl a23))]) [0, 1, 2, 3, 4, 5, 6] (by decide) rfl
        exact cut1_24_1 (upd a9 (Int32.toNatClampNeg (((32 : Int32) * (0 : Int32)) + (a21 1))) r31) _ _ _ (by repeat' first | with_reducible assumption | with_reducible exact is16_0 | with_reducible exact is16_m _ | with_reducible exact set16' _ | with_reducible apply rgI_upd | with_reducible apply c3_upd | with_reducible apply o3_upd | exact Or.inl rfl | exact ⟨0, by with_reducible assumption, rfl⟩ | omega | assumption) hSq hl hP hD hS
  have cut2_24_3 : ∀ (a9 : Nat → Int32) (ls : Array Slot) (H : Heap) (locs : List Loc), ¬ a21 2 = (-1) → SP = s_M_copyStore_cut2_24_3 a9 →  lv_has ls 3 [(0, .ref m0), (1, .int 2), (2, .int 3)] → va_P (dC, dI) classes [(m0, .inr (6, oM ga uM cn sn cm us wt oc ou ow)), (ga 9, .inl (gc 9, 96, .inl a9)), (ga 11, .inl (gc 11, 3, .inl a11)), (ga 12, .inl (gc 12, 3, .inl a12)), (ga 21, .inl (gc 21, 3, .inl a21)), (ga 22, .inl (gc 22, 3, .inl a22)), (ga 23, .inl (gc 23, 3, .inl a23))] H → va_D A [(m0, .inr (6, oM ga uM cn sn cm us wt oc ou ow)), (ga 9, .inl (gc 9, 96, .inl a9)), (ga 11, .inl (gc 11, 3, .inl a11)), (ga 12, .inl (gc 12, 3, .inl a12)), (ga 21, .inl (gc 21, 3, .inl a21)), (ga 22, .inl (gc 22, 3, .inl a22)), (ga 23, .inl (gc 23, 3, .inl a23))] → va_S A s.heap H locs → W p l e (headSpec (tbw y_M_copyStore b_M_copyStore 3 none) ({ frames := 2, cells := 0, slots := 0, locals := 46 })).room s m ([.ref m0] : List Value).toArray below meth c H locs 0 0 (MQ below (va_Qv (fun (u9 : (Nat → Int32)) => match u9 with | a9n => (True) ∧ (a9n) = SP) (fun (u9 : (Nat → Int32)) t => match u9 with | a9n => va_P (dC, dI) classes [(m0, .inr (6, oM ga uM cn sn cm us wt oc ou ow)), (ga 9, .inl (gc 9, 96, .inl a9n)), (ga 11, .inl (gc 11, 3, .inl a11)), (ga 12, .inl (gc 12, 3, .inl a12)), (ga 21, .inl (gc 21, 3, .inl a21)), (ga 22, .inl (gc 22, 3, .inl a22)), (ga 23, .inl (gc 23, 3, .inl a23))] t.heap ∧ va_K (dC, dI) classes [(gc 9, .int), (gc 11, .int), (gc 12, .int), (gc 21, .int), (gc 22, .int), (gc 23, .boolean)] t ∧ va_D A [(m0, .inr (6, oM ga uM cn sn cm us wt oc ou ow)), (ga 9, .inl (gc 9, 96, .inl a9n)), (ga 11, .inl (gc 11, 3, .inl a11)), (ga 12, .inl (gc 12, 3, .inl a12)), (ga 21, .inl (gc 21, 3, .inl a21)), (ga 22, .inl (gc 22, 3, .inl a22)), (ga 23, .inl (gc 23, 3, .inl a23))]) A) ([.ref m0] : List Value).toArray s 0 0 A) (F0 m 24 ls []) := by
    intro a9 ls H locs hne hSq0 hl hP hD hS
    clear cut0_24_3 cut0_24_2 cut0_24_1 cut0_24_0 cut1_24_3 cut1_24_2 cut1_24_1 cut1_24_0
    refine lv_iload_n hx hb d_M_copyStore_24 rfl (lv_at hl 2 rfl) ?_
    refine lv_iconst (v := 3) hx hb d_M_copyStore_25 (by decide) ?_
    refine lv_icmp_ge (tgt := 85) hx hb d_M_copyStore_26 rfl (fun hc33 => ?_) (fun hc33 => by first | exact absurd (by decide) hc33 | exact absurd hc33 (by decide))
    have hP9 := hP.sub (ws' := [(m0, .inr (6, oM ga uM cn sn cm us wt oc ou ow)), (ga 9, .inl (gc 9, 96, .inl a9)), (ga 11, .inl (gc 11, 3, .inl a11)), (ga 12, .inl (gc 12, 3, .inl a12)), (ga 21, .inl (gc 21, 3, .inl a21)), (ga 22, .inl (gc 22, 3, .inl a22)), (ga 23, .inl (gc 23, 3, .inl a23))]) [0, 1, 2, 3, 4, 5, 6] rfl
    have hD9 := hD.sub (ws' := [(m0, .inr (6, oM ga uM cn sn cm us wt oc ou ow)), (ga 9, .inl (gc 9, 96, .inl a9)), (ga 11, .inl (gc 11, 3, .inl a11)), (ga 12, .inl (gc 12, 3, .inl a12)), (ga 21, .inl (gc 21, 3, .inl a21)), (ga 22, .inl (gc 22, 3, .inl a22)), (ga 23, .inl (gc 23, 3, .inl a23))]) [0, 1, 2, 3, 4, 5, 6] (by decide) rfl
    have hK9 := hK.sub (tys' := [(gc 9, .int), (gc 11, .int), (gc 12, .int), (gc 21, .int), (gc 22, .int), (gc 23, .boolean)]) [0, 1, 2, 3, 4, 5] rfl
    refine W.widen (k := 0) (n := 0) (Nat.le_of_ble_eq_true rfl) (Nat.le_of_ble_eq_true rfl) ?_
    exact W.vret hx hb hr (fun t ht hW => ⟨⟨(a9), rfl, ⟨trivial, (by rw [hSq0, s_M_copyStore_cut2_24_3]; all_goals rfl)⟩, by rw [ht]; exact hP9, va_K.moved hW.alike hK9, hD9⟩, hS.F ht⟩) hS.2.2 d_M_copyStore_85
  have cut2_24_2 : ∀ (a9 : Nat → Int32) (ls : Array Slot) (H : Heap) (locs : List Loc), ¬ a21 2 = (-1) → SP = s_M_copyStore_cut2_24_2 a11 a12 a21 a22 a9 →  lv_has ls 3 [(0, .ref m0), (1, .int 2), (2, .int 2)] → va_P (dC, dI) classes [(m0, .inr (6, oM ga uM cn sn cm us wt oc ou ow)), (ga 9, .inl (gc 9, 96, .inl a9)), (ga 11, .inl (gc 11, 3, .inl a11)), (ga 12, .inl (gc 12, 3, .inl a12)), (ga 21, .inl (gc 21, 3, .inl a21)), (ga 22, .inl (gc 22, 3, .inl a22)), (ga 23, .inl (gc 23, 3, .inl a23))] H → va_D A [(m0, .inr (6, oM ga uM cn sn cm us wt oc ou ow)), (ga 9, .inl (gc 9, 96, .inl a9)), (ga 11, .inl (gc 11, 3, .inl a11)), (ga 12, .inl (gc 12, 3, .inl a12)), (ga 21, .inl (gc 21, 3, .inl a21)), (ga 22, .inl (gc 22, 3, .inl a22)), (ga 23, .inl (gc 23, 3, .inl a23))] → va_S A s.heap H locs → W p l e (headSpec (tbw y_M_copyStore b_M_copyStore 3 none) ({ frames := 2, cells := 0, slots := 0, locals := 46 })).room s m ([.ref m0] : List Value).toArray below meth c H locs 0 0 (MQ below (va_Qv (fun (u9 : (Nat → Int32)) => match u9 with | a9n => (True) ∧ (a9n) = SP) (fun (u9 : (Nat → Int32)) t => match u9 with | a9n => va_P (dC, dI) classes [(m0, .inr (6, oM ga uM cn sn cm us wt oc ou ow)), (ga 9, .inl (gc 9, 96, .inl a9n)), (ga 11, .inl (gc 11, 3, .inl a11)), (ga 12, .inl (gc 12, 3, .inl a12)), (ga 21, .inl (gc 21, 3, .inl a21)), (ga 22, .inl (gc 22, 3, .inl a22)), (ga 23, .inl (gc 23, 3, .inl a23))] t.heap ∧ va_K (dC, dI) classes [(gc 9, .int), (gc 11, .int), (gc 12, .int), (gc 21, .int), (gc 22, .int), (gc 23, .boolean)] t ∧ va_D A [(m0, .inr (6, oM ga uM cn sn cm us wt oc ou ow)), (ga 9, .inl (gc 9, 96, .inl a9n)), (ga 11, .inl (gc 11, 3, .inl a11)), (ga 12, .inl (gc 12, 3, .inl a12)), (ga 21, .inl (gc 21, 3, .inl a21)), (ga 22, .inl (gc 22, 3, .inl a22)), (ga 23, .inl (gc 23, 3, .inl a23))]) A) ([.ref m0] : List Value).toArray s 0 0 A) (F0 m 24 ls []) := by
    intro a9 ls H locs hne hSq0 hl hP hD hS
    clear cut0_24_3 cut0_24_2 cut0_24_1 cut0_24_0 cut1_24_3 cut1_24_2 cut1_24_1 cut1_24_0
    refine lv_iload_n hx hb d_M_copyStore_24 rfl (lv_at hl 2 rfl) ?_
    refine lv_iconst (v := 3) hx hb d_M_copyStore_25 (by decide) ?_
    refine lv_icmp_ge (tgt := 85) hx hb d_M_copyStore_26 rfl (fun hc34 => by first | exact absurd hc34 (by decide) | exact absurd (by decide) hc34) (fun hc34 => ?_)
    refine lv_aload_n hx hb d_M_copyStore_29 rfl (lv_at hl 0 rfl) ?_
    refine va_get (D := (dC, dI)) (ci := 6) (v := .ref (ga 11)) (C := "VotedTripleModel") (T := F_M) (N := 37) hx hb hw in_M hown hK hP 0 rfl rfl 11 (by decide) (hw _ k_735) (fun _ h9 => h9) rfl d_M_copyStore_30 ?_
    refine lv_iload_n hx hb d_M_copyStore_33 rfl (lv_at hl 2 rfl) ?_
    refine va_iald hx hb hK hP 2 1 rfl rfl (by unfold vp_in; decide) d_M_copyStore_34 ?_
    refine W.eq (g2 := F0 m 35 ls [.int (a11 2)]) rfl ?_
    refine lv_iconst (v := 1) hx hb d_M_copyStore_35 (by decide) ?_
    refine lv_icmp_ne (tgt := 79) hx hb d_M_copyStore_36 rfl (fun hc35 => ?_) (fun hc35 => ?_)
    · --  ¬ (a11 2) = 1
      refine lv_iinc (k := 2) (v := 3) hx hb d_M_copyStore_79 hl rfl rfl (by decide) rfl (fun ls hl => ?_)
      replace hl : lv_has ls 3 [(2, .int 3), (0, .ref m0), (1, .int 2)] := hl
      refine lv_goto (tgt := 24) hx hb d_M_copyStore_82 rfl ?_
      have hSq : SP = s_M_copyStore_cut2_24_3 a9 := by rw [hSq0, s_M_copyStore_cut2_24_2]; try (rw [if_neg hc35]); all_goals rfl
      replace hl := lv_sub hl (l' := [(0, .ref m0), (1, .int 2), (2, .int 3)]) [1, 2, 0] rfl
      replace hP := hP.sub (ws' := [(m0, .inr (6, oM ga uM cn sn cm us wt oc ou ow)), (ga 9, .inl (gc 9, 96, .inl a9)), (ga 11, .inl (gc 11, 3, .inl a11)), (ga 12, .inl (gc 12, 3, .inl a12)), (ga 21, .inl (gc 21, 3, .inl a21)), (ga 22, .inl (gc 22, 3, .inl a22)), (ga 23, .inl (gc 23, 3, .inl a23))]) [0, 1, 2, 3, 4, 5, 6] rfl
      replace hD := hD.sub (ws' := [(m0, .inr (6, oM ga uM cn sn cm us wt oc ou ow)), (ga 9, .inl (gc 9, 96, .inl a9)), (ga 11, .inl (gc 11, 3, .inl a11)), (ga 12, .inl (gc 12, 3, .inl a12)), (ga 21, .inl (gc 21, 3, .inl a21)), (ga 22, .inl (gc 22, 3, .inl a22)), (ga 23, .inl (gc 23, 3, .inl a23))]) [0, 1, 2, 3, 4, 5, 6] (by decide) rfl
      exact cut2_24_3 a9 _ _ _ (by repeat' first | with_reducible assumption | with_reducible exact is16_0 | with_reducible exact is16_m _ | with_reducible exact set16' _ | with_reducible apply rgI_upd | with_reducible apply c3_upd | with_reducible apply o3_upd | exact Or.inl rfl | exact ⟨0, by with_reducible assumption, rfl⟩ | omega | assumption) hSq hl hP hD hS
    · --  (a11 2) = 1
      refine lv_aload_n hx hb d_M_copyStore_39 rfl (lv_at hl 0 rfl) ?_
      refine va_get (D := (dC, dI)) (ci := 6) (v := .ref (ga 21)) (C := "VotedTripleModel") (T := F_M) (N := 37) hx hb hw in_M hown hK hP 0 rfl rfl 21 (by decide) (hw _ k_745) (fun _ h9 => h9) rfl d_M_copyStore_40 ?_
      refine lv_iload_n hx hb d_M_copyStore_43 rfl (lv_at hl 1 rfl) ?_
      refine va_iald hx hb hK hP 4 3 rfl rfl (by unfold vp_in; decide) d_M_copyStore_44 ?_
      refine W.eq (g2 := F0 m 45 ls [.int (a21 2)]) rfl ?_
      refine lv_aload_n hx hb d_M_copyStore_45 rfl (lv_at hl 0 rfl) ?_
      refine va_get (D := (dC, dI)) (ci := 6) (v := .ref (ga 12)) (C := "VotedTripleModel") (T := F_M) (N := 37) hx hb hw in_M hown hK hP 0 rfl rfl 12 (by decide) (hw _ k_736) (fun _ h9 => h9) rfl d_M_copyStore_46 ?_
      refine lv_iload_n hx hb d_M_copyStore_49 rfl (lv_at hl 2 rfl) ?_
      refine va_iald hx hb hK hP 3 2 rfl rfl (by unfold vp_in; decide) d_M_copyStore_50 ?_
      refine W.eq (g2 := F0 m 51 ls [.int (a12 2), .int (a21 2)]) rfl ?_
      refine lv_icmp_ge (tgt := 79) hx hb d_M_copyStore_51 rfl (fun hc36 => ?_) (fun hc36 => ?_)
      · --  (a12 2) ≤ (a21 2)
        refine lv_iinc (k := 2) (v := 3) hx hb d_M_copyStore_79 hl rfl rfl (by decide) rfl (fun ls hl => ?_)
        replace hl : lv_has ls 3 [(2, .int 3), (0, .ref m0), (1, .int 2)] := hl
        refine lv_goto (tgt := 24) hx hb d_M_copyStore_82 rfl ?_
        have hSq : SP = s_M_copyStore_cut2_24_3 a9 := by rw [hSq0, s_M_copyStore_cut2_24_2]; try (rw [if_pos hc35]); try (rw [if_pos hc36]); all_goals rfl
        replace hl := lv_sub hl (l' := [(0, .ref m0), (1, .int 2), (2, .int 3)]) [1, 2, 0] rfl
        replace hP := hP.sub (ws' := [(m0, .inr (6, oM ga uM cn sn cm us wt oc ou ow)), (ga 9, .inl (gc 9, 96, .inl a9)), (ga 11, .inl (gc 11, 3, .inl a11)), (ga 12, .inl (gc 12, 3, .inl a12)), (ga 21, .inl (gc 21, 3, .inl a21)), (ga 22, .inl (gc 22, 3, .inl a22)), (ga 23, .inl (gc 23, 3, .inl a23))]) [0, 1, 2, 3, 4, 5, 6] rfl
        replace hD := hD.sub (ws' := [(m0, .inr (6, oM ga uM cn sn cm us wt oc ou ow)), (ga 9, .inl (gc 9, 96, .inl a9)), (ga 11, .inl (gc 11, 3, .inl a11)), (ga 12, .inl (gc 12, 3, .inl a12)), (ga 21, .inl (gc 21, 3, .inl a21)), (ga 22, .inl (gc 22, 3, .inl a22)), (ga 23, .inl (gc 23, 3, .inl a23))]) [0, 1, 2, 3, 4, 5, 6] (by decide) rfl
        exact cut2_24_3 a9 _ _ _ (by repeat' first | with_reducible assumption | with_reducible exact is16_0 | with_reducible exact is16_m _ | with_reducible exact set16' _ | with_reducible apply rgI_upd | with_reducible apply c3_upd | with_reducible apply o3_upd | exact Or.inl rfl | exact ⟨0, by with_reducible assumption, rfl⟩ | omega | assumption) hSq hl hP hD hS
      · --  ¬ (a12 2) ≤ (a21 2)
        refine lv_aload_n hx hb d_M_copyStore_54 rfl (lv_at hl 0 rfl) ?_
        refine va_get (D := (dC, dI)) (ci := 6) (v := .ref (ga 9)) (C := "VotedTripleModel") (T := F_M) (N := 37) hx hb hw in_M hown hK hP 0 rfl rfl 9 (by decide) (hw _ k_733) (fun _ h9 => h9) rfl d_M_copyStore_55 ?_
        refine lv_bipush (v := 32) hx hb d_M_copyStore_58 (by decide) ?_
        refine lv_iload_n hx hb d_M_copyStore_60 rfl (lv_at hl 2 rfl) ?_
        refine lv_imul hx hb d_M_copyStore_61 ?_
        refine lv_aload_n hx hb d_M_copyStore_62 rfl (lv_at hl 0 rfl) ?_
        refine va_get (D := (dC, dI)) (ci := 6) (v := .ref (ga 21)) (C := "VotedTripleModel") (T := F_M) (N := 37) hx hb hw in_M hown hK hP 0 rfl rfl 21 (by decide) (hw _ k_745) (fun _ h9 => h9) rfl d_M_copyStore_63 ?_
        refine lv_iload_n hx hb d_M_copyStore_66 rfl (lv_at hl 1 rfl) ?_
        refine va_iald hx hb hK hP 4 3 rfl rfl (by unfold vp_in; decide) d_M_copyStore_67 ?_
        refine W.eq (g2 := F0 m 68 ls [.int (a21 2), .int ((32 : Int32) * (2 : Int32)), .ref (ga 9)]) rfl ?_
        refine lv_iadd hx hb d_M_copyStore_68 ?_
        refine lv_aload_n hx hb d_M_copyStore_69 rfl (lv_at hl 0 rfl) ?_
        refine va_get (D := (dC, dI)) (ci := 6) (v := .ref (ga 22)) (C := "VotedTripleModel") (T := F_M) (N := 37) hx hb hw in_M hown hK hP 0 rfl rfl 22 (by decide) (hw _ k_746) (fun _ h9 => h9) rfl d_M_copyStore_70 ?_
        refine lv_iload_n hx hb d_M_copyStore_73 rfl (lv_at hl 1 rfl) ?_
        refine va_iald hx hb hK hP 5 4 rfl rfl (by unfold vp_in; decide) d_M_copyStore_74 ?_
        refine W.eq (g2 := F0 m 75 ls [.int (a22 2), .int (((32 : Int32) * (2 : Int32)) + (a21 2)), .ref (ga 9)]) rfl ?_
        refine vp_callSi (va_runS (As := [.int (a22 2)]) (rest := [.int (((32 : Int32) * (2 : Int32)) + (a21 2)), .ref (ga 9)]) ⟨hx, hb, hml, hown, hw⟩ (c_M_encode l dC dI (a22 2)) (va_cwS 1 hw (gdS (k_863) (k_861) (k_862) (k_8)) rfl rfl rfl (by decide +kernel) ⟨Nat.le_of_ble_eq_true rfl, Nat.le_of_ble_eq_true rfl⟩) ⟨fun _ _ _ _ q => q, fun _ _ _ => ⟨rfl, trivial⟩⟩ rfl rfl hl.1 rfl (lv_room (Nat.le_of_ble_eq_true rfl)) d_M_copyStore_75 ⟨Nat.le_of_ble_eq_true rfl, Nat.le_of_ble_eq_true rfl⟩).run (fun r37 hr38 => ?_)
        obtain ⟨hr38, hr38E⟩ := hr38
        refine va_iast hx hb hK hP hD hS 1 0 rfl rfl (ix32 (mi := 2) (mk := 2) rfl (by decide) (opt_in (h21 2 (by decide)) hne (by decide))) d_M_copyStore_78 (fun H locs hP hD hS => ?_)
        replace hP : va_P (dC, dI) classes [(m0, .inr (6, oM ga uM cn sn cm us wt oc ou ow)), (ga 9, .inl (gc 9, 96, .inl (upd a9 (Int32.toNatClampNeg (((32 : Int32) * (2 : Int32)) + (a21 2))) r37))), (ga 11, .inl (gc 11, 3, .inl a11)), (ga 12, .inl (gc 12, 3, .inl a12)), (ga 21, .inl (gc 21, 3, .inl a21)), (ga 22, .inl (gc 22, 3, .inl a22)), (ga 23, .inl (gc 23, 3, .inl a23))] H := hP
        replace hD : va_D A [(m0, .inr (6, oM ga uM cn sn cm us wt oc ou ow)), (ga 9, .inl (gc 9, 96, .inl (upd a9 (Int32.toNatClampNeg (((32 : Int32) * (2 : Int32)) + (a21 2))) r37))), (ga 11, .inl (gc 11, 3, .inl a11)), (ga 12, .inl (gc 12, 3, .inl a12)), (ga 21, .inl (gc 21, 3, .inl a21)), (ga 22, .inl (gc 22, 3, .inl a22)), (ga 23, .inl (gc 23, 3, .inl a23))] := hD
        refine lv_iinc (k := 2) (v := 3) hx hb d_M_copyStore_79 hl rfl rfl (by decide) rfl (fun ls hl => ?_)
        replace hl : lv_has ls 3 [(2, .int 3), (0, .ref m0), (1, .int 2)] := hl
        refine lv_goto (tgt := 24) hx hb d_M_copyStore_82 rfl ?_
        have hSq : SP = s_M_copyStore_cut2_24_3 (upd a9 (Int32.toNatClampNeg (((32 : Int32) * (2 : Int32)) + (a21 2))) r37) := by rw [hSq0, s_M_copyStore_cut2_24_2]; try (rw [if_pos hc35]); try (rw [if_neg hc36]); try (rw [← hr38E, bnd_eq]); all_goals rfl
        replace hl := lv_sub hl (l' := [(0, .ref m0), (1, .int 2), (2, .int 3)]) [1, 2, 0] rfl
        replace hP := hP.sub (ws' := [(m0, .inr (6, oM ga uM cn sn cm us wt oc ou ow)), (ga 9, .inl (gc 9, 96, .inl (upd a9 (Int32.toNatClampNeg (((32 : Int32) * (2 : Int32)) + (a21 2))) r37))), (ga 11, .inl (gc 11, 3, .inl a11)), (ga 12, .inl (gc 12, 3, .inl a12)), (ga 21, .inl (gc 21, 3, .inl a21)), (ga 22, .inl (gc 22, 3, .inl a22)), (ga 23, .inl (gc 23, 3, .inl a23))]) [0, 1, 2, 3, 4, 5, 6] rfl
        replace hD := hD.sub (ws' := [(m0, .inr (6, oM ga uM cn sn cm us wt oc ou ow)), (ga 9, .inl (gc 9, 96, .inl (upd a9 (Int32.toNatClampNeg (((32 : Int32) * (2 : Int32)) + (a21 2))) r37))), (ga 11, .inl (gc 11, 3, .inl a11)), (ga 12, .inl (gc 12, 3, .inl a12)), (ga 21, .inl (gc 21, 3, .inl a21)), (ga 22, .inl (gc 22, 3, .inl a22)), (ga 23, .inl (gc 23, 3, .inl a23))]) [0, 1, 2, 3, 4, 5, 6] (by decide) rfl
        exact cut2_24_3 (upd a9 (Int32.toNatClampNeg (((32 : Int32) * (2 : Int32)) + (a21 2))) r37) _ _ _ (by repeat' first | with_reducible assumption | with_reducible exact is16_0 | with_reducible exact is16_m _ | with_reducible exact set16' _ | with_reducible apply rgI_upd | with_reducible apply c3_upd | with_reducible apply o3_upd | exact Or.inl rfl | exact ⟨0, by with_reducible assumption, rfl⟩ | omega | assumption) hSq hl hP hD hS
  have cut2_24_1 : ∀ (a9 : Nat → Int32) (ls : Array Slot) (H : Heap) (locs : List Loc), ¬ a21 2 = (-1) → SP = s_M_copyStore_cut2_24_1 a11 a12 a21 a22 a9 →  lv_has ls 3 [(0, .ref m0), (1, .int 2), (2, .int 1)] → va_P (dC, dI) classes [(m0, .inr (6, oM ga uM cn sn cm us wt oc ou ow)), (ga 9, .inl (gc 9, 96, .inl a9)), (ga 11, .inl (gc 11, 3, .inl a11)), (ga 12, .inl (gc 12, 3, .inl a12)), (ga 21, .inl (gc 21, 3, .inl a21)), (ga 22, .inl (gc 22, 3, .inl a22)), (ga 23, .inl (gc 23, 3, .inl a23))] H → va_D A [(m0, .inr (6, oM ga uM cn sn cm us wt oc ou ow)), (ga 9, .inl (gc 9, 96, .inl a9)), (ga 11, .inl (gc 11, 3, .inl a11)), (ga 12, .inl (gc 12, 3, .inl a12)), (ga 21, .inl (gc 21, 3, .inl a21)), (ga 22, .inl (gc 22, 3, .inl a22)), (ga 23, .inl (gc 23, 3, .inl a23))] → va_S A s.heap H locs → W p l e (headSpec (tbw y_M_copyStore b_M_copyStore 3 none) ({ frames := 2, cells := 0, slots := 0, locals := 46 })).room s m ([.ref m0] : List Value).toArray below meth c H locs 0 0 (MQ below (va_Qv (fun (u9 : (Nat → Int32)) => match u9 with | a9n => (True) ∧ (a9n) = SP) (fun (u9 : (Nat → Int32)) t => match u9 with | a9n => va_P (dC, dI) classes [(m0, .inr (6, oM ga uM cn sn cm us wt oc ou ow)), (ga 9, .inl (gc 9, 96, .inl a9n)), (ga 11, .inl (gc 11, 3, .inl a11)), (ga 12, .inl (gc 12, 3, .inl a12)), (ga 21, .inl (gc 21, 3, .inl a21)), (ga 22, .inl (gc 22, 3, .inl a22)), (ga 23, .inl (gc 23, 3, .inl a23))] t.heap ∧ va_K (dC, dI) classes [(gc 9, .int), (gc 11, .int), (gc 12, .int), (gc 21, .int), (gc 22, .int), (gc 23, .boolean)] t ∧ va_D A [(m0, .inr (6, oM ga uM cn sn cm us wt oc ou ow)), (ga 9, .inl (gc 9, 96, .inl a9n)), (ga 11, .inl (gc 11, 3, .inl a11)), (ga 12, .inl (gc 12, 3, .inl a12)), (ga 21, .inl (gc 21, 3, .inl a21)), (ga 22, .inl (gc 22, 3, .inl a22)), (ga 23, .inl (gc 23, 3, .inl a23))]) A) ([.ref m0] : List Value).toArray s 0 0 A) (F0 m 24 ls []) := by
    intro a9 ls H locs hne hSq0 hl hP hD hS
    clear cut0_24_3 cut0_24_2 cut0_24_1 cut0_24_0 cut1_24_3 cut1_24_2 cut1_24_1 cut1_24_0 cut2_24_3
    refine lv_iload_n hx hb d_M_copyStore_24 rfl (lv_at hl 2 rfl) ?_
    refine lv_iconst (v := 3) hx hb d_M_copyStore_25 (by decide) ?_
    refine lv_icmp_ge (tgt := 85) hx hb d_M_copyStore_26 rfl (fun hc39 => by first | exact absurd hc39 (by decide) | exact absurd (by decide) hc39) (fun hc39 => ?_)
    refine lv_aload_n hx hb d_M_copyStore_29 rfl (lv_at hl 0 rfl) ?_
    refine va_get (D := (dC, dI)) (ci := 6) (v := .ref (ga 11)) (C := "VotedTripleModel") (T := F_M) (N := 37) hx hb hw in_M hown hK hP 0 rfl rfl 11 (by decide) (hw _ k_735) (fun _ h9 => h9) rfl d_M_copyStore_30 ?_
    refine lv_iload_n hx hb d_M_copyStore_33 rfl (lv_at hl 2 rfl) ?_
    refine va_iald hx hb hK hP 2 1 rfl rfl (by unfold vp_in; decide) d_M_copyStore_34 ?_
    refine W.eq (g2 := F0 m 35 ls [.int (a11 1)]) rfl ?_
    refine lv_iconst (v := 1) hx hb d_M_copyStore_35 (by decide) ?_
    refine lv_icmp_ne (tgt := 79) hx hb d_M_copyStore_36 rfl (fun hc40 => ?_) (fun hc40 => ?_)
    · --  ¬ (a11 1) = 1
      refine lv_iinc (k := 2) (v := 2) hx hb d_M_copyStore_79 hl rfl rfl (by decide) rfl (fun ls hl => ?_)
      replace hl : lv_has ls 3 [(2, .int 2), (0, .ref m0), (1, .int 2)] := hl
      refine lv_goto (tgt := 24) hx hb d_M_copyStore_82 rfl ?_
      have hSq : SP = s_M_copyStore_cut2_24_2 a11 a12 a21 a22 a9 := by rw [hSq0, s_M_copyStore_cut2_24_1]; try (rw [if_neg hc40]); all_goals rfl
      replace hl := lv_sub hl (l' := [(0, .ref m0), (1, .int 2), (2, .int 2)]) [1, 2, 0] rfl
      replace hP := hP.sub (ws' := [(m0, .inr (6, oM ga uM cn sn cm us wt oc ou ow)), (ga 9, .inl (gc 9, 96, .inl a9)), (ga 11, .inl (gc 11, 3, .inl a11)), (ga 12, .inl (gc 12, 3, .inl a12)), (ga 21, .inl (gc 21, 3, .inl a21)), (ga 22, .inl (gc 22, 3, .inl a22)), (ga 23, .inl (gc 23, 3, .inl a23))]) [0, 1, 2, 3, 4, 5, 6] rfl
      replace hD := hD.sub (ws' := [(m0, .inr (6, oM ga uM cn sn cm us wt oc ou ow)), (ga 9, .inl (gc 9, 96, .inl a9)), (ga 11, .inl (gc 11, 3, .inl a11)), (ga 12, .inl (gc 12, 3, .inl a12)), (ga 21, .inl (gc 21, 3, .inl a21)), (ga 22, .inl (gc 22, 3, .inl a22)), (ga 23, .inl (gc 23, 3, .inl a23))]) [0, 1, 2, 3, 4, 5, 6] (by decide) rfl
      exact cut2_24_2 a9 _ _ _ (by repeat' first | with_reducible assumption | with_reducible exact is16_0 | with_reducible exact is16_m _ | with_reducible exact set16' _ | with_reducible apply rgI_upd | with_reducible apply c3_upd | with_reducible apply o3_upd | exact Or.inl rfl | exact ⟨0, by with_reducible assumption, rfl⟩ | omega | assumption) hSq hl hP hD hS
    · --  (a11 1) = 1
      refine lv_aload_n hx hb d_M_copyStore_39 rfl (lv_at hl 0 rfl) ?_
      refine va_get (D := (dC, dI)) (ci := 6) (v := .ref (ga 21)) (C := "VotedTripleModel") (T := F_M) (N := 37) hx hb hw in_M hown hK hP 0 rfl rfl 21 (by decide) (hw _ k_745) (fun _ h9 => h9) rfl d_M_copyStore_40 ?_
      refine lv_iload_n hx hb d_M_copyStore_43 rfl (lv_at hl 1 rfl) ?_
      refine va_iald hx hb hK hP 4 3 rfl rfl (by unfold vp_in; decide) d_M_copyStore_44 ?_
      refine W.eq (g2 := F0 m 45 ls [.int (a21 2)]) rfl ?_
      refine lv_aload_n hx hb d_M_copyStore_45 rfl (lv_at hl 0 rfl) ?_
      refine va_get (D := (dC, dI)) (ci := 6) (v := .ref (ga 12)) (C := "VotedTripleModel") (T := F_M) (N := 37) hx hb hw in_M hown hK hP 0 rfl rfl 12 (by decide) (hw _ k_736) (fun _ h9 => h9) rfl d_M_copyStore_46 ?_
      refine lv_iload_n hx hb d_M_copyStore_49 rfl (lv_at hl 2 rfl) ?_
      refine va_iald hx hb hK hP 3 2 rfl rfl (by unfold vp_in; decide) d_M_copyStore_50 ?_
      refine W.eq (g2 := F0 m 51 ls [.int (a12 1), .int (a21 2)]) rfl ?_
      refine lv_icmp_ge (tgt := 79) hx hb d_M_copyStore_51 rfl (fun hc41 => ?_) (fun hc41 => ?_)
      · --  (a12 1) ≤ (a21 2)
        refine lv_iinc (k := 2) (v := 2) hx hb d_M_copyStore_79 hl rfl rfl (by decide) rfl (fun ls hl => ?_)
        replace hl : lv_has ls 3 [(2, .int 2), (0, .ref m0), (1, .int 2)] := hl
        refine lv_goto (tgt := 24) hx hb d_M_copyStore_82 rfl ?_
        have hSq : SP = s_M_copyStore_cut2_24_2 a11 a12 a21 a22 a9 := by rw [hSq0, s_M_copyStore_cut2_24_1]; try (rw [if_pos hc40]); try (rw [if_pos hc41]); all_goals rfl
        replace hl := lv_sub hl (l' := [(0, .ref m0), (1, .int 2), (2, .int 2)]) [1, 2, 0] rfl
        replace hP := hP.sub (ws' := [(m0, .inr (6, oM ga uM cn sn cm us wt oc ou ow)), (ga 9, .inl (gc 9, 96, .inl a9)), (ga 11, .inl (gc 11, 3, .inl a11)), (ga 12, .inl (gc 12, 3, .inl a12)), (ga 21, .inl (gc 21, 3, .inl a21)), (ga 22, .inl (gc 22, 3, .inl a22)), (ga 23, .inl (gc 23, 3, .inl a23))]) [0, 1, 2, 3, 4, 5, 6] rfl
        replace hD := hD.sub (ws' := [(m0, .inr (6, oM ga uM cn sn cm us wt oc ou ow)), (ga 9, .inl (gc 9, 96, .inl a9)), (ga 11, .inl (gc 11, 3, .inl a11)), (ga 12, .inl (gc 12, 3, .inl a12)), (ga 21, .inl (gc 21, 3, .inl a21)), (ga 22, .inl (gc 22, 3, .inl a22)), (ga 23, .inl (gc 23, 3, .inl a23))]) [0, 1, 2, 3, 4, 5, 6] (by decide) rfl
        exact cut2_24_2 a9 _ _ _ (by repeat' first | with_reducible assumption | with_reducible exact is16_0 | with_reducible exact is16_m _ | with_reducible exact set16' _ | with_reducible apply rgI_upd | with_reducible apply c3_upd | with_reducible apply o3_upd | exact Or.inl rfl | exact ⟨0, by with_reducible assumption, rfl⟩ | omega | assumption) hSq hl hP hD hS
      · --  ¬ (a12 1) ≤ (a21 2)
        refine lv_aload_n hx hb d_M_copyStore_54 rfl (lv_at hl 0 rfl) ?_
        refine va_get (D := (dC, dI)) (ci := 6) (v := .ref (ga 9)) (C := "VotedTripleModel") (T := F_M) (N := 37) hx hb hw in_M hown hK hP 0 rfl rfl 9 (by decide) (hw _ k_733) (fun _ h9 => h9) rfl d_M_copyStore_55 ?_
        refine lv_bipush (v := 32) hx hb d_M_copyStore_58 (by decide) ?_
        refine lv_iload_n hx hb d_M_copyStore_60 rfl (lv_at hl 2 rfl) ?_
        refine lv_imul hx hb d_M_copyStore_61 ?_
        refine lv_aload_n hx hb d_M_copyStore_62 rfl (lv_at hl 0 rfl) ?_
        refine va_get (D := (dC, dI)) (ci := 6) (v := .ref (ga 21)) (C := "VotedTripleModel") (T := F_M) (N := 37) hx hb hw in_M hown hK hP 0 rfl rfl 21 (by decide) (hw _ k_745) (fun _ h9 => h9) rfl d_M_copyStore_63 ?_
        refine lv_iload_n hx hb d_M_copyStore_66 rfl (lv_at hl 1 rfl) ?_
        refine va_iald hx hb hK hP 4 3 rfl rfl (by unfold vp_in; decide) d_M_copyStore_67 ?_
        refine W.eq (g2 := F0 m 68 ls [.int (a21 2), .int ((32 : Int32) * (1 : Int32)), .ref (ga 9)]) rfl ?_
        refine lv_iadd hx hb d_M_copyStore_68 ?_
        refine lv_aload_n hx hb d_M_copyStore_69 rfl (lv_at hl 0 rfl) ?_
        refine va_get (D := (dC, dI)) (ci := 6) (v := .ref (ga 22)) (C := "VotedTripleModel") (T := F_M) (N := 37) hx hb hw in_M hown hK hP 0 rfl rfl 22 (by decide) (hw _ k_746) (fun _ h9 => h9) rfl d_M_copyStore_70 ?_
        refine lv_iload_n hx hb d_M_copyStore_73 rfl (lv_at hl 1 rfl) ?_
        refine va_iald hx hb hK hP 5 4 rfl rfl (by unfold vp_in; decide) d_M_copyStore_74 ?_
        refine W.eq (g2 := F0 m 75 ls [.int (a22 2), .int (((32 : Int32) * (1 : Int32)) + (a21 2)), .ref (ga 9)]) rfl ?_
        refine vp_callSi (va_runS (As := [.int (a22 2)]) (rest := [.int (((32 : Int32) * (1 : Int32)) + (a21 2)), .ref (ga 9)]) ⟨hx, hb, hml, hown, hw⟩ (c_M_encode l dC dI (a22 2)) (va_cwS 1 hw (gdS (k_863) (k_861) (k_862) (k_8)) rfl rfl rfl (by decide +kernel) ⟨Nat.le_of_ble_eq_true rfl, Nat.le_of_ble_eq_true rfl⟩) ⟨fun _ _ _ _ q => q, fun _ _ _ => ⟨rfl, trivial⟩⟩ rfl rfl hl.1 rfl (lv_room (Nat.le_of_ble_eq_true rfl)) d_M_copyStore_75 ⟨Nat.le_of_ble_eq_true rfl, Nat.le_of_ble_eq_true rfl⟩).run (fun r42 hr43 => ?_)
        obtain ⟨hr43, hr43E⟩ := hr43
        refine va_iast hx hb hK hP hD hS 1 0 rfl rfl (ix32 (mi := 1) (mk := 1) rfl (by decide) (opt_in (h21 2 (by decide)) hne (by decide))) d_M_copyStore_78 (fun H locs hP hD hS => ?_)
        replace hP : va_P (dC, dI) classes [(m0, .inr (6, oM ga uM cn sn cm us wt oc ou ow)), (ga 9, .inl (gc 9, 96, .inl (upd a9 (Int32.toNatClampNeg (((32 : Int32) * (1 : Int32)) + (a21 2))) r42))), (ga 11, .inl (gc 11, 3, .inl a11)), (ga 12, .inl (gc 12, 3, .inl a12)), (ga 21, .inl (gc 21, 3, .inl a21)), (ga 22, .inl (gc 22, 3, .inl a22)), (ga 23, .inl (gc 23, 3, .inl a23))] H := hP
        replace hD : va_D A [(m0, .inr (6, oM ga uM cn sn cm us wt oc ou ow)), (ga 9, .inl (gc 9, 96, .inl (upd a9 (Int32.toNatClampNeg (((32 : Int32) * (1 : Int32)) + (a21 2))) r42))), (ga 11, .inl (gc 11, 3, .inl a11)), (ga 12, .inl (gc 12, 3, .inl a12)), (ga 21, .inl (gc 21, 3, .inl a21)), (ga 22, .inl (gc 22, 3, .inl a22)), (ga 23, .inl (gc 23, 3, .inl a23))] := hD
        refine lv_iinc (k := 2) (v := 2) hx hb d_M_copyStore_79 hl rfl rfl (by decide) rfl (fun ls hl => ?_)
        replace hl : lv_has ls 3 [(2, .int 2), (0, .ref m0), (1, .int 2)] := hl
        refine lv_goto (tgt := 24) hx hb d_M_copyStore_82 rfl ?_
        have hSq : SP = s_M_copyStore_cut2_24_2 a11 a12 a21 a22 (upd a9 (Int32.toNatClampNeg (((32 : Int32) * (1 : Int32)) + (a21 2))) r42) := by rw [hSq0, s_M_copyStore_cut2_24_1]; try (rw [if_pos hc40]); try (rw [if_neg hc41]); try (rw [← hr43E, bnd_eq]); all_goals rfl
        replace hl := lv_sub hl (l' := [(0, .ref m0), (1, .int 2), (2, .int 2)]) [1, 2, 0] rfl
        replace hP := hP.sub (ws' := [(m0, .inr (6, oM ga uM cn sn cm us wt oc ou ow)), (ga 9, .inl (gc 9, 96, .inl (upd a9 (Int32.toNatClampNeg (((32 : Int32) * (1 : Int32)) + (a21 2))) r42))), (ga 11, .inl (gc 11, 3, .inl a11)), (ga 12, .inl (gc 12, 3, .inl a12)), (ga 21, .inl (gc 21, 3, .inl a21)), (ga 22, .inl (gc 22, 3, .inl a22)), (ga 23, .inl (gc 23, 3, .inl a23))]) [0, 1, 2, 3, 4, 5, 6] rfl
        replace hD := hD.sub (ws' := [(m0, .inr (6, oM ga uM cn sn cm us wt oc ou ow)), (ga 9, .inl (gc 9, 96, .inl (upd a9 (Int32.toNatClampNeg (((32 : Int32) * (1 : Int32)) + (a21 2))) r42))), (ga 11, .inl (gc 11, 3, .inl a11)), (ga 12, .inl (gc 12, 3, .inl a12)), (ga 21, .inl (gc 21, 3, .inl a21)), (ga 22, .inl (gc 22, 3, .inl a22)), (ga 23, .inl (gc 23, 3, .inl a23))]) [0, 1, 2, 3, 4, 5, 6] (by decide) rfl
        exact cut2_24_2 (upd a9 (Int32.toNatClampNeg (((32 : Int32) * (1 : Int32)) + (a21 2))) r42) _ _ _ (by repeat' first | with_reducible assumption | with_reducible exact is16_0 | with_reducible exact is16_m _ | with_reducible exact set16' _ | with_reducible apply rgI_upd | with_reducible apply c3_upd | with_reducible apply o3_upd | exact Or.inl rfl | exact ⟨0, by with_reducible assumption, rfl⟩ | omega | assumption) hSq hl hP hD hS
  have cut2_24_0 : ∀ (a9 : Nat → Int32) (ls : Array Slot) (H : Heap) (locs : List Loc), ¬ a21 2 = (-1) → SP = s_M_copyStore_cut2_24_0 a11 a12 a21 a22 a9 →  lv_has ls 3 [(0, .ref m0), (1, .int 2), (2, .int 0)] → va_P (dC, dI) classes [(m0, .inr (6, oM ga uM cn sn cm us wt oc ou ow)), (ga 9, .inl (gc 9, 96, .inl a9)), (ga 11, .inl (gc 11, 3, .inl a11)), (ga 12, .inl (gc 12, 3, .inl a12)), (ga 21, .inl (gc 21, 3, .inl a21)), (ga 22, .inl (gc 22, 3, .inl a22)), (ga 23, .inl (gc 23, 3, .inl a23))] H → va_D A [(m0, .inr (6, oM ga uM cn sn cm us wt oc ou ow)), (ga 9, .inl (gc 9, 96, .inl a9)), (ga 11, .inl (gc 11, 3, .inl a11)), (ga 12, .inl (gc 12, 3, .inl a12)), (ga 21, .inl (gc 21, 3, .inl a21)), (ga 22, .inl (gc 22, 3, .inl a22)), (ga 23, .inl (gc 23, 3, .inl a23))] → va_S A s.heap H locs → W p l e (headSpec (tbw y_M_copyStore b_M_copyStore 3 none) ({ frames := 2, cells := 0, slots := 0, locals := 46 })).room s m ([.ref m0] : List Value).toArray below meth c H locs 0 0 (MQ below (va_Qv (fun (u9 : (Nat → Int32)) => match u9 with | a9n => (True) ∧ (a9n) = SP) (fun (u9 : (Nat → Int32)) t => match u9 with | a9n => va_P (dC, dI) classes [(m0, .inr (6, oM ga uM cn sn cm us wt oc ou ow)), (ga 9, .inl (gc 9, 96, .inl a9n)), (ga 11, .inl (gc 11, 3, .inl a11)), (ga 12, .inl (gc 12, 3, .inl a12)), (ga 21, .inl (gc 21, 3, .inl a21)), (ga 22, .inl (gc 22, 3, .inl a22)), (ga 23, .inl (gc 23, 3, .inl a23))] t.heap ∧ va_K (dC, dI) classes [(gc 9, .int), (gc 11, .int), (gc 12, .int), (gc 21, .int), (gc 22, .int), (gc 23, .boolean)] t ∧ va_D A [(m0, .inr (6, oM ga uM cn sn cm us wt oc ou ow)), (ga 9, .inl (gc 9, 96, .inl a9n)), (ga 11, .inl (gc 11, 3, .inl a11)), (ga 12, .inl (gc 12, 3, .inl a12)), (ga 21, .inl (gc 21, 3, .inl a21)), (ga 22, .inl (gc 22, 3, .inl a22)), (ga 23, .inl (gc 23, 3, .inl a23))]) A) ([.ref m0] : List Value).toArray s 0 0 A) (F0 m 24 ls []) := by
    intro a9 ls H locs hne hSq0 hl hP hD hS
    clear cut0_24_3 cut0_24_2 cut0_24_1 cut0_24_0 cut1_24_3 cut1_24_2 cut1_24_1 cut1_24_0 cut2_24_3 cut2_24_2
    refine lv_iload_n hx hb d_M_copyStore_24 rfl (lv_at hl 2 rfl) ?_
    refine lv_iconst (v := 3) hx hb d_M_copyStore_25 (by decide) ?_
    refine lv_icmp_ge (tgt := 85) hx hb d_M_copyStore_26 rfl (fun hc44 => by first | exact absurd hc44 (by decide) | exact absurd (by decide) hc44) (fun hc44 => ?_)
    refine lv_aload_n hx hb d_M_copyStore_29 rfl (lv_at hl 0 rfl) ?_
    refine va_get (D := (dC, dI)) (ci := 6) (v := .ref (ga 11)) (C := "VotedTripleModel") (T := F_M) (N := 37) hx hb hw in_M hown hK hP 0 rfl rfl 11 (by decide) (hw _ k_735) (fun _ h9 => h9) rfl d_M_copyStore_30 ?_
    refine lv_iload_n hx hb d_M_copyStore_33 rfl (lv_at hl 2 rfl) ?_
    refine va_iald hx hb hK hP 2 1 rfl rfl (by unfold vp_in; decide) d_M_copyStore_34 ?_
    refine W.eq (g2 := F0 m 35 ls [.int (a11 0)]) rfl ?_
    refine lv_iconst (v := 1) hx hb d_M_copyStore_35 (by decide) ?_
    refine lv_icmp_ne (tgt := 79) hx hb d_M_copyStore_36 rfl (fun hc45 => ?_) (fun hc45 => ?_)
    · --  ¬ (a11 0) = 1
      refine lv_iinc (k := 2) (v := 1) hx hb d_M_copyStore_79 hl rfl rfl (by decide) rfl (fun ls hl => ?_)
      replace hl : lv_has ls 3 [(2, .int 1), (0, .ref m0), (1, .int 2)] := hl
      refine lv_goto (tgt := 24) hx hb d_M_copyStore_82 rfl ?_
      have hSq : SP = s_M_copyStore_cut2_24_1 a11 a12 a21 a22 a9 := by rw [hSq0, s_M_copyStore_cut2_24_0]; try (rw [if_neg hc45]); all_goals rfl
      replace hl := lv_sub hl (l' := [(0, .ref m0), (1, .int 2), (2, .int 1)]) [1, 2, 0] rfl
      replace hP := hP.sub (ws' := [(m0, .inr (6, oM ga uM cn sn cm us wt oc ou ow)), (ga 9, .inl (gc 9, 96, .inl a9)), (ga 11, .inl (gc 11, 3, .inl a11)), (ga 12, .inl (gc 12, 3, .inl a12)), (ga 21, .inl (gc 21, 3, .inl a21)), (ga 22, .inl (gc 22, 3, .inl a22)), (ga 23, .inl (gc 23, 3, .inl a23))]) [0, 1, 2, 3, 4, 5, 6] rfl
      replace hD := hD.sub (ws' := [(m0, .inr (6, oM ga uM cn sn cm us wt oc ou ow)), (ga 9, .inl (gc 9, 96, .inl a9)), (ga 11, .inl (gc 11, 3, .inl a11)), (ga 12, .inl (gc 12, 3, .inl a12)), (ga 21, .inl (gc 21, 3, .inl a21)), (ga 22, .inl (gc 22, 3, .inl a22)), (ga 23, .inl (gc 23, 3, .inl a23))]) [0, 1, 2, 3, 4, 5, 6] (by decide) rfl
      exact cut2_24_1 a9 _ _ _ (by repeat' first | with_reducible assumption | with_reducible exact is16_0 | with_reducible exact is16_m _ | with_reducible exact set16' _ | with_reducible apply rgI_upd | with_reducible apply c3_upd | with_reducible apply o3_upd | exact Or.inl rfl | exact ⟨0, by with_reducible assumption, rfl⟩ | omega | assumption) hSq hl hP hD hS
    · --  (a11 0) = 1
      refine lv_aload_n hx hb d_M_copyStore_39 rfl (lv_at hl 0 rfl) ?_
      refine va_get (D := (dC, dI)) (ci := 6) (v := .ref (ga 21)) (C := "VotedTripleModel") (T := F_M) (N := 37) hx hb hw in_M hown hK hP 0 rfl rfl 21 (by decide) (hw _ k_745) (fun _ h9 => h9) rfl d_M_copyStore_40 ?_
      refine lv_iload_n hx hb d_M_copyStore_43 rfl (lv_at hl 1 rfl) ?_
      refine va_iald hx hb hK hP 4 3 rfl rfl (by unfold vp_in; decide) d_M_copyStore_44 ?_
      refine W.eq (g2 := F0 m 45 ls [.int (a21 2)]) rfl ?_
      refine lv_aload_n hx hb d_M_copyStore_45 rfl (lv_at hl 0 rfl) ?_
      refine va_get (D := (dC, dI)) (ci := 6) (v := .ref (ga 12)) (C := "VotedTripleModel") (T := F_M) (N := 37) hx hb hw in_M hown hK hP 0 rfl rfl 12 (by decide) (hw _ k_736) (fun _ h9 => h9) rfl d_M_copyStore_46 ?_
      refine lv_iload_n hx hb d_M_copyStore_49 rfl (lv_at hl 2 rfl) ?_
      refine va_iald hx hb hK hP 3 2 rfl rfl (by unfold vp_in; decide) d_M_copyStore_50 ?_
      refine W.eq (g2 := F0 m 51 ls [.int (a12 0), .int (a21 2)]) rfl ?_
      refine lv_icmp_ge (tgt := 79) hx hb d_M_copyStore_51 rfl (fun hc46 => ?_) (fun hc46 => ?_)
      · --  (a12 0) ≤ (a21 2)
        refine lv_iinc (k := 2) (v := 1) hx hb d_M_copyStore_79 hl rfl rfl (by decide) rfl (fun ls hl => ?_)
        replace hl : lv_has ls 3 [(2, .int 1), (0, .ref m0), (1, .int 2)] := hl
        refine lv_goto (tgt := 24) hx hb d_M_copyStore_82 rfl ?_
        have hSq : SP = s_M_copyStore_cut2_24_1 a11 a12 a21 a22 a9 := by rw [hSq0, s_M_copyStore_cut2_24_0]; try (rw [if_pos hc45]); try (rw [if_pos hc46]); all_goals rfl
        replace hl := lv_sub hl (l' := [(0, .ref m0), (1, .int 2), (2, .int 1)]) [1, 2, 0] rfl
        replace hP := hP.sub (ws' := [(m0, .inr (6, oM ga uM cn sn cm us wt oc ou ow)), (ga 9, .inl (gc 9, 96, .inl a9)), (ga 11, .inl (gc 11, 3, .inl a11)), (ga 12, .inl (gc 12, 3, .inl a12)), (ga 21, .inl (gc 21, 3, .inl a21)), (ga 22, .inl (gc 22, 3, .inl a22)), (ga 23, .inl (gc 23, 3, .inl a23))]) [0, 1, 2, 3, 4, 5, 6] rfl
        replace hD := hD.sub (ws' := [(m0, .inr (6, oM ga uM cn sn cm us wt oc ou ow)), (ga 9, .inl (gc 9, 96, .inl a9)), (ga 11, .inl (gc 11, 3, .inl a11)), (ga 12, .inl (gc 12, 3, .inl a12)), (ga 21, .inl (gc 21, 3, .inl a21)), (ga 22, .inl (gc 22, 3, .inl a22)), (ga 23, .inl (gc 23, 3, .inl a23))]) [0, 1, 2, 3, 4, 5, 6] (by decide) rfl
        exact cut2_24_1 a9 _ _ _ (by repeat' first | with_reducible assumption | with_reducible exact is16_0 | with_reducible exact is16_m _ | with_reducible exact set16' _ | with_reducible apply rgI_upd | with_reducible apply c3_upd | with_reducible apply o3_upd | exact Or.inl rfl | exact ⟨0, by with_reducible assumption, rfl⟩ | omega | assumption) hSq hl hP hD hS
      · --  ¬ (a12 0) ≤ (a21 2)
        refine lv_aload_n hx hb d_M_copyStore_54 rfl (lv_at hl 0 rfl) ?_
        refine va_get (D := (dC, dI)) (ci := 6) (v := .ref (ga 9)) (C := "VotedTripleModel") (T := F_M) (N := 37) hx hb hw in_M hown hK hP 0 rfl rfl 9 (by decide) (hw _ k_733) (fun _ h9 => h9) rfl d_M_copyStore_55 ?_
        refine lv_bipush (v := 32) hx hb d_M_copyStore_58 (by decide) ?_
        refine lv_iload_n hx hb d_M_copyStore_60 rfl (lv_at hl 2 rfl) ?_
        refine lv_imul hx hb d_M_copyStore_61 ?_
        refine lv_aload_n hx hb d_M_copyStore_62 rfl (lv_at hl 0 rfl) ?_
        refine va_get (D := (dC, dI)) (ci := 6) (v := .ref (ga 21)) (C := "VotedTripleModel") (T := F_M) (N := 37) hx hb hw in_M hown hK hP 0 rfl rfl 21 (by decide) (hw _ k_745) (fun _ h9 => h9) rfl d_M_copyStore_63 ?_
        refine lv_iload_n hx hb d_M_copyStore_66 rfl (lv_at hl 1 rfl) ?_
        refine va_iald hx hb hK hP 4 3 rfl rfl (by unfold vp_in; decide) d_M_copyStore_67 ?_
        refine W.eq (g2 := F0 m 68 ls [.int (a21 2), .int ((32 : Int32) * (0 : Int32)), .ref (ga 9)]) rfl ?_
        refine lv_iadd hx hb d_M_copyStore_68 ?_
        refine lv_aload_n hx hb d_M_copyStore_69 rfl (lv_at hl 0 rfl) ?_
        refine va_get (D := (dC, dI)) (ci := 6) (v := .ref (ga 22)) (C := "VotedTripleModel") (T := F_M) (N := 37) hx hb hw in_M hown hK hP 0 rfl rfl 22 (by decide) (hw _ k_746) (fun _ h9 => h9) rfl d_M_copyStore_70 ?_
        refine lv_iload_n hx hb d_M_copyStore_73 rfl (lv_at hl 1 rfl) ?_
        refine va_iald hx hb hK hP 5 4 rfl rfl (by unfold vp_in; decide) d_M_copyStore_74 ?_
        refine W.eq (g2 := F0 m 75 ls [.int (a22 2), .int (((32 : Int32) * (0 : Int32)) + (a21 2)), .ref (ga 9)]) rfl ?_
        refine vp_callSi (va_runS (As := [.int (a22 2)]) (rest := [.int (((32 : Int32) * (0 : Int32)) + (a21 2)), .ref (ga 9)]) ⟨hx, hb, hml, hown, hw⟩ (c_M_encode l dC dI (a22 2)) (va_cwS 1 hw (gdS (k_863) (k_861) (k_862) (k_8)) rfl rfl rfl (by decide +kernel) ⟨Nat.le_of_ble_eq_true rfl, Nat.le_of_ble_eq_true rfl⟩) ⟨fun _ _ _ _ q => q, fun _ _ _ => ⟨rfl, trivial⟩⟩ rfl rfl hl.1 rfl (lv_room (Nat.le_of_ble_eq_true rfl)) d_M_copyStore_75 ⟨Nat.le_of_ble_eq_true rfl, Nat.le_of_ble_eq_true rfl⟩).run (fun r47 hr48 => ?_)
        obtain ⟨hr48, hr48E⟩ := hr48
        refine va_iast hx hb hK hP hD hS 1 0 rfl rfl (ix32 (mi := 0) (mk := 0) rfl (by decide) (opt_in (h21 2 (by decide)) hne (by decide))) d_M_copyStore_78 (fun H locs hP hD hS => ?_)
        replace hP : va_P (dC, dI) classes [(m0, .inr (6, oM ga uM cn sn cm us wt oc ou ow)), (ga 9, .inl (gc 9, 96, .inl (upd a9 (Int32.toNatClampNeg (((32 : Int32) * (0 : Int32)) + (a21 2))) r47))), (ga 11, .inl (gc 11, 3, .inl a11)), (ga 12, .inl (gc 12, 3, .inl a12)), (ga 21, .inl (gc 21, 3, .inl a21)), (ga 22, .inl (gc 22, 3, .inl a22)), (ga 23, .inl (gc 23, 3, .inl a23))] H := hP
        replace hD : va_D A [(m0, .inr (6, oM ga uM cn sn cm us wt oc ou ow)), (ga 9, .inl (gc 9, 96, .inl (upd a9 (Int32.toNatClampNeg (((32 : Int32) * (0 : Int32)) + (a21 2))) r47))), (ga 11, .inl (gc 11, 3, .inl a11)), (ga 12, .inl (gc 12, 3, .inl a12)), (ga 21, .inl (gc 21, 3, .inl a21)), (ga 22, .inl (gc 22, 3, .inl a22)), (ga 23, .inl (gc 23, 3, .inl a23))] := hD
        refine lv_iinc (k := 2) (v := 1) hx hb d_M_copyStore_79 hl rfl rfl (by decide) rfl (fun ls hl => ?_)
        replace hl : lv_has ls 3 [(2, .int 1), (0, .ref m0), (1, .int 2)] := hl
        refine lv_goto (tgt := 24) hx hb d_M_copyStore_82 rfl ?_
        have hSq : SP = s_M_copyStore_cut2_24_1 a11 a12 a21 a22 (upd a9 (Int32.toNatClampNeg (((32 : Int32) * (0 : Int32)) + (a21 2))) r47) := by rw [hSq0, s_M_copyStore_cut2_24_0]; try (rw [if_pos hc45]); try (rw [if_neg hc46]); try (rw [← hr48E, bnd_eq]); all_goals rfl
        replace hl := lv_sub hl (l' := [(0, .ref m0), (1, .int 2), (2, .int 1)]) [1, 2, 0] rfl
        replace hP := hP.sub (ws' := [(m0, .inr (6, oM ga uM cn sn cm us wt oc ou ow)), (ga 9, .inl (gc 9, 96, .inl (upd a9 (Int32.toNatClampNeg (((32 : Int32) * (0 : Int32)) + (a21 2))) r47))), (ga 11, .inl (gc 11, 3, .inl a11)), (ga 12, .inl (gc 12, 3, .inl a12)), (ga 21, .inl (gc 21, 3, .inl a21)), (ga 22, .inl (gc 22, 3, .inl a22)), (ga 23, .inl (gc 23, 3, .inl a23))]) [0, 1, 2, 3, 4, 5, 6] rfl
        replace hD := hD.sub (ws' := [(m0, .inr (6, oM ga uM cn sn cm us wt oc ou ow)), (ga 9, .inl (gc 9, 96, .inl (upd a9 (Int32.toNatClampNeg (((32 : Int32) * (0 : Int32)) + (a21 2))) r47))), (ga 11, .inl (gc 11, 3, .inl a11)), (ga 12, .inl (gc 12, 3, .inl a12)), (ga 21, .inl (gc 21, 3, .inl a21)), (ga 22, .inl (gc 22, 3, .inl a22)), (ga 23, .inl (gc 23, 3, .inl a23))]) [0, 1, 2, 3, 4, 5, 6] (by decide) rfl
        exact cut2_24_1 (upd a9 (Int32.toNatClampNeg (((32 : Int32) * (0 : Int32)) + (a21 2))) r47) _ _ _ (by repeat' first | with_reducible assumption | with_reducible exact is16_0 | with_reducible exact is16_m _ | with_reducible exact set16' _ | with_reducible apply rgI_upd | with_reducible apply c3_upd | with_reducible apply o3_upd | exact Or.inl rfl | exact ⟨0, by with_reducible assumption, rfl⟩ | omega | assumption) hSq hl hP hD hS
  clear cut0_24_3 cut0_24_2 cut0_24_1 cut1_24_3 cut1_24_2 cut1_24_1 cut2_24_3 cut2_24_2 cut2_24_1
  refine lv_aload_n hx hb d_M_copyStore_0 rfl (lv_at hl 0 rfl) ?_
  refine lv_iconst (v := 1) hx hb d_M_copyStore_1 (by decide) ?_
  replace hPc := hP.sub (ws' := [(m0, .inr (6, oM ga uM cn sn cm us wt oc ou ow)), (ga 11, .inl (gc 11, 3, .inl a11)), (ga 23, .inl (gc 23, 3, .inl a23))]) [0, 2, 6] rfl
  replace hKc := hK.sub (tys' := [(gc 11, .int), (gc 23, .boolean)]) [1, 5] rfl
  refine vp_callSi (va_runV (C := "VotedTripleModel") (As := [.int 1]) (rest := []) ⟨hx, hb, hml, hown, hw⟩ (c_M_lowest l dC dI m0 ga gc uM cn sn cm us wt oc ou ow a11 a23 1) (cwV 1 hw (gdV (k_919) (k_916) (k_918) (ks_32) (k_8)) rfl rfl rfl (by decide +kernel) ⟨Nat.le_of_ble_eq_true rfl, Nat.le_of_ble_eq_true rfl⟩) ⟨fun a U g mk q => ⟨q.1, q.2.1, va_K.moved (u := U) (U := U.calling g mk a) (Vm.Alike.refl U.vm) q.2.2⟩, va_recv hK hP rfl (q0 := 0) rfl, fun U hU hW => ⟨rfl, by rw [hU]; exact hPc, va_K.moved hW.alike hKc⟩⟩ rfl rfl hl.1 rfl (lv_room (Nat.le_of_ble_eq_true rfl)) d_M_copyStore_2 ⟨Nat.le_of_ble_eq_true rfl, Nat.le_of_ble_eq_true rfl⟩).run (fun r49 hr50 => ?_)
  obtain ⟨hr50, hr50E⟩ := hr50
  obtain ⟨hq1, hq2⟩ := hr50
  rcases hq1 with rfl | rfl | rfl | rfl
  · --  (-1)
    refine lv_istore_n hx hb d_M_copyStore_5 rfl hl (by decide) rfl (fun ls hl => ?_)
    replace hl : lv_has ls 3 [(1, .int (-1)), (0, .ref m0)] := hl
    refine lv_iload_n hx hb d_M_copyStore_6 rfl (lv_at hl 0 rfl) ?_
    refine lv_iconst (v := (-1)) hx hb d_M_copyStore_7 (by decide) ?_
    refine lv_icmp_eq (tgt := 21) hx hb d_M_copyStore_8 rfl (fun hc51 => ?_) (fun hc51 => by first | exact absurd (rfl) hc51 | exact absurd hc51 (rfl))
    have hP9 := hP.sub (ws' := [(m0, .inr (6, oM ga uM cn sn cm us wt oc ou ow)), (ga 9, .inl (gc 9, 96, .inl a9)), (ga 11, .inl (gc 11, 3, .inl a11)), (ga 12, .inl (gc 12, 3, .inl a12)), (ga 21, .inl (gc 21, 3, .inl a21)), (ga 22, .inl (gc 22, 3, .inl a22)), (ga 23, .inl (gc 23, 3, .inl a23))]) [0, 1, 2, 3, 4, 5, 6] rfl
    have hD9 := hD.sub (ws' := [(m0, .inr (6, oM ga uM cn sn cm us wt oc ou ow)), (ga 9, .inl (gc 9, 96, .inl a9)), (ga 11, .inl (gc 11, 3, .inl a11)), (ga 12, .inl (gc 12, 3, .inl a12)), (ga 21, .inl (gc 21, 3, .inl a21)), (ga 22, .inl (gc 22, 3, .inl a22)), (ga 23, .inl (gc 23, 3, .inl a23))]) [0, 1, 2, 3, 4, 5, 6] (by decide) rfl
    have hK9 := hK.sub (tys' := [(gc 9, .int), (gc 11, .int), (gc 12, .int), (gc 21, .int), (gc 22, .int), (gc 23, .boolean)]) [0, 1, 2, 3, 4, 5] rfl
    refine W.widen (k := 0) (n := 0) (Nat.le_of_ble_eq_true rfl) (Nat.le_of_ble_eq_true rfl) ?_
    exact W.vret hx hb hr (fun t ht hW => ⟨⟨(a9), rfl, ⟨trivial, (by rw [← hSP, s_M_copyStore]; try (rw [← hr50E, bnd_eq]); try (rw [if_pos rfl]); all_goals rfl)⟩, by rw [ht]; exact hP9, va_K.moved hW.alike hK9, hD9⟩, hS.F ht⟩) hS.2.2 d_M_copyStore_21
  · --  0
    refine lv_istore_n hx hb d_M_copyStore_5 rfl hl (by decide) rfl (fun ls hl => ?_)
    replace hl : lv_has ls 3 [(1, .int 0), (0, .ref m0)] := hl
    refine lv_iload_n hx hb d_M_copyStore_6 rfl (lv_at hl 0 rfl) ?_
    refine lv_iconst (v := (-1)) hx hb d_M_copyStore_7 (by decide) ?_
    refine lv_icmp_eq (tgt := 21) hx hb d_M_copyStore_8 rfl (fun hc52 => by first | exact absurd hc52 (by decide) | exact absurd (by decide) hc52) (fun hc52 => ?_)
    refine lv_aload_n hx hb d_M_copyStore_11 rfl (lv_at hl 1 rfl) ?_
    refine va_get (D := (dC, dI)) (ci := 6) (v := .ref (ga 21)) (C := "VotedTripleModel") (T := F_M) (N := 37) hx hb hw in_M hown hK hP 0 rfl rfl 21 (by decide) (hw _ k_745) (fun _ h9 => h9) rfl d_M_copyStore_12 ?_
    refine lv_iload_n hx hb d_M_copyStore_15 rfl (lv_at hl 0 rfl) ?_
    refine va_iald hx hb hK hP 4 3 rfl rfl (by unfold vp_in; decide) d_M_copyStore_16 ?_
    refine W.eq (g2 := F0 m 17 ls [.int (a21 0)]) rfl ?_
    refine lv_iconst (v := (-1)) hx hb d_M_copyStore_17 (by decide) ?_
    refine lv_icmp_ne (tgt := 22) hx hb d_M_copyStore_18 rfl (fun hc53 => ?_) (fun hc53 => ?_)
    · --  ¬ (a21 0) = (-1)
      refine lv_iconst (v := 0) hx hb d_M_copyStore_22 (by decide) ?_
      refine lv_istore_n hx hb d_M_copyStore_23 rfl hl (by decide) rfl (fun ls hl => ?_)
      replace hl : lv_has ls 3 [(2, .int 0), (1, .int 0), (0, .ref m0)] := hl
      have hSq : SP = s_M_copyStore_cut0_24_0 a11 a12 a21 a22 a9 := by rw [← hSP, s_M_copyStore]; try (rw [← hr50E, bnd_eq]); try (rw [if_neg (by decide)]); try (rw [if_pos rfl]); try (rw [if_neg hc53]); all_goals rfl
      replace hl := lv_sub hl (l' := [(0, .ref m0), (1, .int 0), (2, .int 0)]) [2, 1, 0] rfl
      replace hP := hP.sub (ws' := [(m0, .inr (6, oM ga uM cn sn cm us wt oc ou ow)), (ga 9, .inl (gc 9, 96, .inl a9)), (ga 11, .inl (gc 11, 3, .inl a11)), (ga 12, .inl (gc 12, 3, .inl a12)), (ga 21, .inl (gc 21, 3, .inl a21)), (ga 22, .inl (gc 22, 3, .inl a22)), (ga 23, .inl (gc 23, 3, .inl a23))]) [0, 1, 2, 3, 4, 5, 6] rfl
      replace hD := hD.sub (ws' := [(m0, .inr (6, oM ga uM cn sn cm us wt oc ou ow)), (ga 9, .inl (gc 9, 96, .inl a9)), (ga 11, .inl (gc 11, 3, .inl a11)), (ga 12, .inl (gc 12, 3, .inl a12)), (ga 21, .inl (gc 21, 3, .inl a21)), (ga 22, .inl (gc 22, 3, .inl a22)), (ga 23, .inl (gc 23, 3, .inl a23))]) [0, 1, 2, 3, 4, 5, 6] (by decide) rfl
      exact cut0_24_0 a9 _ _ _ (by repeat' first | with_reducible assumption | with_reducible exact is16_0 | with_reducible exact is16_m _ | with_reducible exact set16' _ | with_reducible apply rgI_upd | with_reducible apply c3_upd | with_reducible apply o3_upd | exact Or.inl rfl | exact ⟨0, by with_reducible assumption, rfl⟩ | omega | assumption) hSq hl hP hD hS
    · --  (a21 0) = (-1)
      have hP9 := hP.sub (ws' := [(m0, .inr (6, oM ga uM cn sn cm us wt oc ou ow)), (ga 9, .inl (gc 9, 96, .inl a9)), (ga 11, .inl (gc 11, 3, .inl a11)), (ga 12, .inl (gc 12, 3, .inl a12)), (ga 21, .inl (gc 21, 3, .inl a21)), (ga 22, .inl (gc 22, 3, .inl a22)), (ga 23, .inl (gc 23, 3, .inl a23))]) [0, 1, 2, 3, 4, 5, 6] rfl
      have hD9 := hD.sub (ws' := [(m0, .inr (6, oM ga uM cn sn cm us wt oc ou ow)), (ga 9, .inl (gc 9, 96, .inl a9)), (ga 11, .inl (gc 11, 3, .inl a11)), (ga 12, .inl (gc 12, 3, .inl a12)), (ga 21, .inl (gc 21, 3, .inl a21)), (ga 22, .inl (gc 22, 3, .inl a22)), (ga 23, .inl (gc 23, 3, .inl a23))]) [0, 1, 2, 3, 4, 5, 6] (by decide) rfl
      have hK9 := hK.sub (tys' := [(gc 9, .int), (gc 11, .int), (gc 12, .int), (gc 21, .int), (gc 22, .int), (gc 23, .boolean)]) [0, 1, 2, 3, 4, 5] rfl
      refine W.widen (k := 0) (n := 0) (Nat.le_of_ble_eq_true rfl) (Nat.le_of_ble_eq_true rfl) ?_
      exact W.vret hx hb hr (fun t ht hW => ⟨⟨(a9), rfl, ⟨trivial, (by rw [← hSP, s_M_copyStore]; try (rw [← hr50E, bnd_eq]); try (rw [if_neg (by decide)]); try (rw [if_pos rfl]); try (rw [if_pos hc53]); all_goals rfl)⟩, by rw [ht]; exact hP9, va_K.moved hW.alike hK9, hD9⟩, hS.F ht⟩) hS.2.2 d_M_copyStore_21
  · --  1
    refine lv_istore_n hx hb d_M_copyStore_5 rfl hl (by decide) rfl (fun ls hl => ?_)
    replace hl : lv_has ls 3 [(1, .int 1), (0, .ref m0)] := hl
    refine lv_iload_n hx hb d_M_copyStore_6 rfl (lv_at hl 0 rfl) ?_
    refine lv_iconst (v := (-1)) hx hb d_M_copyStore_7 (by decide) ?_
    refine lv_icmp_eq (tgt := 21) hx hb d_M_copyStore_8 rfl (fun hc54 => by first | exact absurd hc54 (by decide) | exact absurd (by decide) hc54) (fun hc54 => ?_)
    refine lv_aload_n hx hb d_M_copyStore_11 rfl (lv_at hl 1 rfl) ?_
    refine va_get (D := (dC, dI)) (ci := 6) (v := .ref (ga 21)) (C := "VotedTripleModel") (T := F_M) (N := 37) hx hb hw in_M hown hK hP 0 rfl rfl 21 (by decide) (hw _ k_745) (fun _ h9 => h9) rfl d_M_copyStore_12 ?_
    refine lv_iload_n hx hb d_M_copyStore_15 rfl (lv_at hl 0 rfl) ?_
    refine va_iald hx hb hK hP 4 3 rfl rfl (by unfold vp_in; decide) d_M_copyStore_16 ?_
    refine W.eq (g2 := F0 m 17 ls [.int (a21 1)]) rfl ?_
    refine lv_iconst (v := (-1)) hx hb d_M_copyStore_17 (by decide) ?_
    refine lv_icmp_ne (tgt := 22) hx hb d_M_copyStore_18 rfl (fun hc55 => ?_) (fun hc55 => ?_)
    · --  ¬ (a21 1) = (-1)
      refine lv_iconst (v := 0) hx hb d_M_copyStore_22 (by decide) ?_
      refine lv_istore_n hx hb d_M_copyStore_23 rfl hl (by decide) rfl (fun ls hl => ?_)
      replace hl : lv_has ls 3 [(2, .int 0), (1, .int 1), (0, .ref m0)] := hl
      have hSq : SP = s_M_copyStore_cut1_24_0 a11 a12 a21 a22 a9 := by rw [← hSP, s_M_copyStore]; try (rw [← hr50E, bnd_eq]); try (rw [if_neg (by decide)]); try (rw [if_neg (by decide)]); try (rw [if_pos rfl]); try (rw [if_neg hc55]); all_goals rfl
      replace hl := lv_sub hl (l' := [(0, .ref m0), (1, .int 1), (2, .int 0)]) [2, 1, 0] rfl
      replace hP := hP.sub (ws' := [(m0, .inr (6, oM ga uM cn sn cm us wt oc ou ow)), (ga 9, .inl (gc 9, 96, .inl a9)), (ga 11, .inl (gc 11, 3, .inl a11)), (ga 12, .inl (gc 12, 3, .inl a12)), (ga 21, .inl (gc 21, 3, .inl a21)), (ga 22, .inl (gc 22, 3, .inl a22)), (ga 23, .inl (gc 23, 3, .inl a23))]) [0, 1, 2, 3, 4, 5, 6] rfl
      replace hD := hD.sub (ws' := [(m0, .inr (6, oM ga uM cn sn cm us wt oc ou ow)), (ga 9, .inl (gc 9, 96, .inl a9)), (ga 11, .inl (gc 11, 3, .inl a11)), (ga 12, .inl (gc 12, 3, .inl a12)), (ga 21, .inl (gc 21, 3, .inl a21)), (ga 22, .inl (gc 22, 3, .inl a22)), (ga 23, .inl (gc 23, 3, .inl a23))]) [0, 1, 2, 3, 4, 5, 6] (by decide) rfl
      exact cut1_24_0 a9 _ _ _ (by repeat' first | with_reducible assumption | with_reducible exact is16_0 | with_reducible exact is16_m _ | with_reducible exact set16' _ | with_reducible apply rgI_upd | with_reducible apply c3_upd | with_reducible apply o3_upd | exact Or.inl rfl | exact ⟨0, by with_reducible assumption, rfl⟩ | omega | assumption) hSq hl hP hD hS
    · --  (a21 1) = (-1)
      have hP9 := hP.sub (ws' := [(m0, .inr (6, oM ga uM cn sn cm us wt oc ou ow)), (ga 9, .inl (gc 9, 96, .inl a9)), (ga 11, .inl (gc 11, 3, .inl a11)), (ga 12, .inl (gc 12, 3, .inl a12)), (ga 21, .inl (gc 21, 3, .inl a21)), (ga 22, .inl (gc 22, 3, .inl a22)), (ga 23, .inl (gc 23, 3, .inl a23))]) [0, 1, 2, 3, 4, 5, 6] rfl
      have hD9 := hD.sub (ws' := [(m0, .inr (6, oM ga uM cn sn cm us wt oc ou ow)), (ga 9, .inl (gc 9, 96, .inl a9)), (ga 11, .inl (gc 11, 3, .inl a11)), (ga 12, .inl (gc 12, 3, .inl a12)), (ga 21, .inl (gc 21, 3, .inl a21)), (ga 22, .inl (gc 22, 3, .inl a22)), (ga 23, .inl (gc 23, 3, .inl a23))]) [0, 1, 2, 3, 4, 5, 6] (by decide) rfl
      have hK9 := hK.sub (tys' := [(gc 9, .int), (gc 11, .int), (gc 12, .int), (gc 21, .int), (gc 22, .int), (gc 23, .boolean)]) [0, 1, 2, 3, 4, 5] rfl
      refine W.widen (k := 0) (n := 0) (Nat.le_of_ble_eq_true rfl) (Nat.le_of_ble_eq_true rfl) ?_
      exact W.vret hx hb hr (fun t ht hW => ⟨⟨(a9), rfl, ⟨trivial, (by rw [← hSP, s_M_copyStore]; try (rw [← hr50E, bnd_eq]); try (rw [if_neg (by decide)]); try (rw [if_neg (by decide)]); try (rw [if_pos rfl]); try (rw [if_pos hc55]); all_goals rfl)⟩, by rw [ht]; exact hP9, va_K.moved hW.alike hK9, hD9⟩, hS.F ht⟩) hS.2.2 d_M_copyStore_21
  · --  2
    refine lv_istore_n hx hb d_M_copyStore_5 rfl hl (by decide) rfl (fun ls hl => ?_)
    replace hl : lv_has ls 3 [(1, .int 2), (0, .ref m0)] := hl
    refine lv_iload_n hx hb d_M_copyStore_6 rfl (lv_at hl 0 rfl) ?_
    refine lv_iconst (v := (-1)) hx hb d_M_copyStore_7 (by decide) ?_
    refine lv_icmp_eq (tgt := 21) hx hb d_M_copyStore_8 rfl (fun hc56 => by first | exact absurd hc56 (by decide) | exact absurd (by decide) hc56) (fun hc56 => ?_)
    refine lv_aload_n hx hb d_M_copyStore_11 rfl (lv_at hl 1 rfl) ?_
    refine va_get (D := (dC, dI)) (ci := 6) (v := .ref (ga 21)) (C := "VotedTripleModel") (T := F_M) (N := 37) hx hb hw in_M hown hK hP 0 rfl rfl 21 (by decide) (hw _ k_745) (fun _ h9 => h9) rfl d_M_copyStore_12 ?_
    refine lv_iload_n hx hb d_M_copyStore_15 rfl (lv_at hl 0 rfl) ?_
    refine va_iald hx hb hK hP 4 3 rfl rfl (by unfold vp_in; decide) d_M_copyStore_16 ?_
    refine W.eq (g2 := F0 m 17 ls [.int (a21 2)]) rfl ?_
    refine lv_iconst (v := (-1)) hx hb d_M_copyStore_17 (by decide) ?_
    refine lv_icmp_ne (tgt := 22) hx hb d_M_copyStore_18 rfl (fun hc57 => ?_) (fun hc57 => ?_)
    · --  ¬ (a21 2) = (-1)
      refine lv_iconst (v := 0) hx hb d_M_copyStore_22 (by decide) ?_
      refine lv_istore_n hx hb d_M_copyStore_23 rfl hl (by decide) rfl (fun ls hl => ?_)
      replace hl : lv_has ls 3 [(2, .int 0), (1, .int 2), (0, .ref m0)] := hl
      have hSq : SP = s_M_copyStore_cut2_24_0 a11 a12 a21 a22 a9 := by rw [← hSP, s_M_copyStore]; try (rw [← hr50E, bnd_eq]); try (rw [if_neg (by decide)]); try (rw [if_neg (by decide)]); try (rw [if_neg (by decide)]); try (rw [if_neg hc57]); all_goals rfl
      replace hl := lv_sub hl (l' := [(0, .ref m0), (1, .int 2), (2, .int 0)]) [2, 1, 0] rfl
      replace hP := hP.sub (ws' := [(m0, .inr (6, oM ga uM cn sn cm us wt oc ou ow)), (ga 9, .inl (gc 9, 96, .inl a9)), (ga 11, .inl (gc 11, 3, .inl a11)), (ga 12, .inl (gc 12, 3, .inl a12)), (ga 21, .inl (gc 21, 3, .inl a21)), (ga 22, .inl (gc 22, 3, .inl a22)), (ga 23, .inl (gc 23, 3, .inl a23))]) [0, 1, 2, 3, 4, 5, 6] rfl
      replace hD := hD.sub (ws' := [(m0, .inr (6, oM ga uM cn sn cm us wt oc ou ow)), (ga 9, .inl (gc 9, 96, .inl a9)), (ga 11, .inl (gc 11, 3, .inl a11)), (ga 12, .inl (gc 12, 3, .inl a12)), (ga 21, .inl (gc 21, 3, .inl a21)), (ga 22, .inl (gc 22, 3, .inl a22)), (ga 23, .inl (gc 23, 3, .inl a23))]) [0, 1, 2, 3, 4, 5, 6] (by decide) rfl
      exact cut2_24_0 a9 _ _ _ (by repeat' first | with_reducible assumption | with_reducible exact is16_0 | with_reducible exact is16_m _ | with_reducible exact set16' _ | with_reducible apply rgI_upd | with_reducible apply c3_upd | with_reducible apply o3_upd | exact Or.inl rfl | exact ⟨0, by with_reducible assumption, rfl⟩ | omega | assumption) hSq hl hP hD hS
    · --  (a21 2) = (-1)
      have hP9 := hP.sub (ws' := [(m0, .inr (6, oM ga uM cn sn cm us wt oc ou ow)), (ga 9, .inl (gc 9, 96, .inl a9)), (ga 11, .inl (gc 11, 3, .inl a11)), (ga 12, .inl (gc 12, 3, .inl a12)), (ga 21, .inl (gc 21, 3, .inl a21)), (ga 22, .inl (gc 22, 3, .inl a22)), (ga 23, .inl (gc 23, 3, .inl a23))]) [0, 1, 2, 3, 4, 5, 6] rfl
      have hD9 := hD.sub (ws' := [(m0, .inr (6, oM ga uM cn sn cm us wt oc ou ow)), (ga 9, .inl (gc 9, 96, .inl a9)), (ga 11, .inl (gc 11, 3, .inl a11)), (ga 12, .inl (gc 12, 3, .inl a12)), (ga 21, .inl (gc 21, 3, .inl a21)), (ga 22, .inl (gc 22, 3, .inl a22)), (ga 23, .inl (gc 23, 3, .inl a23))]) [0, 1, 2, 3, 4, 5, 6] (by decide) rfl
      have hK9 := hK.sub (tys' := [(gc 9, .int), (gc 11, .int), (gc 12, .int), (gc 21, .int), (gc 22, .int), (gc 23, .boolean)]) [0, 1, 2, 3, 4, 5] rfl
      refine W.widen (k := 0) (n := 0) (Nat.le_of_ble_eq_true rfl) (Nat.le_of_ble_eq_true rfl) ?_
      exact W.vret hx hb hr (fun t ht hW => ⟨⟨(a9), rfl, ⟨trivial, (by rw [← hSP, s_M_copyStore]; try (rw [← hr50E, bnd_eq]); try (rw [if_neg (by decide)]); try (rw [if_neg (by decide)]); try (rw [if_neg (by decide)]); try (rw [if_pos hc57]); all_goals rfl)⟩, by rw [ht]; exact hP9, va_K.moved hW.alike hK9, hD9⟩, hS.F ht⟩) hS.2.2 d_M_copyStore_21
