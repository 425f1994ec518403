set_option maxHeartbeats 4000000 in
set_option maxRecDepth 100000 in
theorem c_M_read (l : Launch) (dC : Nat → ClassId) (dI : Nat → Nat → Nat) (m0 : Nat) (ga : Nat → Nat) (gc : Nat → ClassId) (uM : Nat → Int32) (cn : Nat) (sn : Nat) (cm : Nat) (us : Nat) (wt : Nat) (oc : Nat) (ou : Nat) (ow : Nat) (a9 : Nat → Int32) (a16 : Nat → Int32) (mk : Nat) (mi : Int32) (x : Int32) (hmi : mi = nI mk) (hmk : mk < 3) (hpl : vp_in x 32) (sz : Nat) : Met l y_M_read (tbw y_M_read b_M_read 5 (some .int)) ({ frames := 2, cells := 0, slots := 0, locals := 43 }) (va_Pc [.ref m0, .int mi, .int x] (fun U => U.heap.size = sz ∧ va_P (dC, dI) classes [(m0, .inr (6, oM ga uM cn sn cm us wt oc ou ow)), (ga 9, .inl (gc 9, 96, .inl a9)), (ga 16, .inl (gc 16, 3, .inl a16))] U.heap ∧ va_K (dC, dI) classes [(gc 9, .int), (gc 16, .int)] U ∧ va_D (fun _ => True) [(m0, .inr (6, oM ga uM cn sn cm us wt oc ou ow)), (ga 9, .inl (gc 9, 96, .inl a9)), (ga 16, .inl (gc 16, 3, .inl a16))])) (va_Qi (fun (r : Int32) (u9 : (Nat → Int32) × (Nat → Int32) × Int32) => match u9 with | (a9n, a16n, y24) => (is16 r) ∧ (r, a9n, a16n, y24) = s_M_read a9 a16 mi x) (fun (u9 : (Nat → Int32) × (Nat → Int32) × Int32) t => match u9 with | (a9n, a16n, y24) => va_P (dC, dI) classes [(m0, .inr (6, oM ga (upc uM 24 y24) cn sn cm us wt oc ou ow)), (ga 9, .inl (gc 9, 96, .inl a9n)), (ga 16, .inl (gc 16, 3, .inl a16n))] t.heap ∧ va_K (dC, dI) classes [(gc 9, .int), (gc 16, .int)] t ∧ va_D (va_A [(m0, .inr (6, oM ga uM cn sn cm us wt oc ou ow)), (ga 9, .inl (gc 9, 96, .inl a9)), (ga 16, .inl (gc 16, 3, .inl a16))] sz) [(m0, .inr (6, oM ga (upc uM 24 y24) cn sn cm us wt oc ou ow)), (ga 9, .inl (gc 9, 96, .inl a9n)), (ga 16, .inl (gc 16, 3, .inl a16n))]) (va_A [(m0, .inr (6, oM ga uM cn sn cm us wt oc ou ow)), (ga 9, .inl (gc 9, 96, .inl a9)), (ga 16, .inl (gc 16, 3, .inl a16))] sz)) 0 0 (va_A [(m0, .inr (6, oM ga uM cn sn cm us wt oc ou ow)), (ga 9, .inl (gc 9, 96, .inl a9)), (ga 16, .inl (gc 16, 3, .inl a16))] sz) := by
  refine Met.ofW (cc := b_M_read) (maxL := 5) (ret := (some .int)) (by decide) rfl ?_
  intro p e s m args below meth c s₁ B hml hv
  obtain ⟨rfl, hsz, hP, hK, hD0⟩ := hv
  have hx := B.exec
  have hb := B.bytes
  have hr := B.returns
  have hts := atoms_spec (ws := (tbw y_M_read b_M_read 5 (some .int))) B.pre
  have hw : ∀ z9 ∈ tb, z9.before ([.ref m0, .int mi, .int x] : List Value).toArray s = true := fun z9 h => hts z9 (List.mem_cons_of_mem _ h)
  have hown : s.vm.findClass "VotedTripleModel" = some m.cls := findClass_of_methodNamed B.named
  have hlocks := B.notSynchronized
  subst hsz
  replace hD := hD0.self (sz := s.heap.size)
  generalize hAe : va_A [(m0, .inr (6, oM ga uM cn sn cm us wt oc ou ow)), (ga 9, .inl (gc 9, 96, .inl a9)), (ga 16, .inl (gc 16, 3, .inl a16))] s.heap.size = A at hD ⊢
  have hA : ∀ q : Nat, s.heap.size ≤ q → A q := fun q h => by rw [← hAe]; exact Or.inr h
  have hS : va_S A s.heap s.heap [] := va_S.rf
  replace hl := lv_entry ([.ref m0, .int mi, .int x]) (n := 5) (Nat.le_of_ble_eq_true rfl)
  rw [lg_entry_eq]
  generalize (lg_sl ([.ref m0, .int mi, .int x]) ++ List.replicate (5 - (lg_sl ([.ref m0, .int mi, .int x])).length) Slot.unset).toArray = ls at hl ⊢
  replace hl : lv_has ls 5 [(0, .ref m0), (1, .int mi), (2, .int x)] := hl
  generalize hSP : s_M_read a9 a16 mi x = SP
  refine lv_aload_n hx hb d_M_read_0 rfl (lv_at hl 0 rfl) ?_
  refine va_get (D := (dC, dI)) (ci := 6) (v := .ref (ga 9)) (C := "VotedTripleModel") (T := F_M) (N := 37) hx hb hw in_M hown hK hP 0 rfl rfl 9 (by decide) (hw _ k_733) (fun _ h9 => h9) rfl d_M_read_1 ?_
  refine lv_bipush (v := 32) hx hb d_M_read_4 (by decide) ?_
  refine lv_iload_n hx hb d_M_read_6 rfl (lv_at hl 1 rfl) ?_
  refine lv_imul hx hb d_M_read_7 ?_
  refine lv_iload_n hx hb d_M_read_8 rfl (lv_at hl 2 rfl) ?_
  refine lv_iadd hx hb d_M_read_9 ?_
  refine va_iald hx hb hK hP 1 0 rfl rfl (ix32 hmi hmk hpl) d_M_read_10 ?_
  refine lv_istore_n hx hb d_M_read_11 rfl hl (by decide) rfl (fun ls hl => ?_)
  replace hl : lv_has ls 5 [(3, .int (a9 (Int32.toNatClampNeg (((32 : Int32) * mi) + x)))), (0, .ref m0), (1, .int mi), (2, .int x)] := hl
  refine lv_iload_n hx hb d_M_read_12 rfl (lv_at hl 0 rfl) ?_
  refine vp_callSi (va_runS (As := [.int (a9 (Int32.toNatClampNeg (((32 : Int32) * mi) + x)))]) (rest := []) ⟨hx, hb, hml, hown, hw⟩ (c_M_positions l dC dI (a9 (Int32.toNatClampNeg (((32 : Int32) * mi) + x)))) (va_cwS 1 hw (gdS (k_869) (k_867) (k_868) (k_8)) rfl rfl rfl (by decide +kernel) ⟨Nat.le_of_ble_eq_true rfl, Nat.le_of_ble_eq_true rfl⟩) ⟨fun _ _ _ _ q => q, fun _ _ _ => ⟨rfl, trivial⟩⟩ rfl rfl hl.1 rfl (lv_room (Nat.le_of_ble_eq_true rfl)) d_M_read_13 ⟨Nat.le_of_ble_eq_true rfl, Nat.le_of_ble_eq_true rfl⟩).run (fun r1 hr2 => ?_)
  obtain ⟨hr2, hr2E⟩ := hr2
  refine lv_istore hx hb d_M_read_16 hl (by decide) rfl (fun ls hl => ?_)
  replace hl : lv_has ls 5 [(4, .int r1), (3, .int (a9 (Int32.toNatClampNeg (((32 : Int32) * mi) + x)))), (0, .ref m0), (1, .int mi), (2, .int x)] := hl
  refine lv_aload_n hx hb d_M_read_18 rfl (lv_at hl 2 rfl) ?_
  refine lv_iload_n hx hb d_M_read_19 rfl (lv_at hl 1 rfl) ?_
  refine vp_callSi (va_runS (As := [.int (a9 (Int32.toNatClampNeg (((32 : Int32) * mi) + x)))]) (rest := [.ref m0]) ⟨hx, hb, hml, hown, hw⟩ (c_M_ones l dC dI (a9 (Int32.toNatClampNeg (((32 : Int32) * mi) + x)))) (va_cwS 1 hw (gdS (k_872) (k_870) (k_871) (k_8)) rfl rfl rfl (by decide +kernel) ⟨Nat.le_of_ble_eq_true rfl, Nat.le_of_ble_eq_true rfl⟩) ⟨fun _ _ _ _ q => q, fun _ _ _ => ⟨rfl, trivial⟩⟩ rfl rfl hl.1 rfl (lv_room (Nat.le_of_ble_eq_true rfl)) d_M_read_20 ⟨Nat.le_of_ble_eq_true rfl, Nat.le_of_ble_eq_true rfl⟩).run (fun r3 hr4 => ?_)
  obtain ⟨hr4, hr4E⟩ := hr4
  refine lv_iconst (v := 2) hx hb d_M_read_23 (by decide) ?_
  refine lv_irem hx hb d_M_read_24 (by decide) ?_
  refine lv_if_ne (tgt := 41) hx hb d_M_read_25 rfl (fun hc5 => ?_) (fun hc5 => ?_)
  · --  ¬ (r3 - r3 / (2 : Int32) * (2 : Int32)) = 0
    refine lv_iload hx hb d_M_read_41 (lv_at hl 0 rfl) ?_
    refine lv_bipush (v := 22) hx hb d_M_read_43 (by decide) ?_
    refine lv_icmp_lt (tgt := 52) hx hb d_M_read_45 rfl (fun hc6 => ?_) (fun hc6 => ?_)
    · --  r1 < 22
      refine lv_iconst (v := 0) hx hb d_M_read_52 (by decide) ?_
      refine va_put (D := (dC, dI)) (ci := 6) (v := .int 0) (ty := .boolean) (C := "VotedTripleModel") (T := F_M) (N := 37) hx hb hw in_M ft_M tyok_M nm_M hown hK hP hD hS 0 rfl rfl 24 (by decide) (hw _ k_748) (fun _ h9 => h9) rfl (by decide +kernel) rfl rfl (Nat.le_of_ble_eq_true rfl) d_M_read_53 (fun H locs hP hD hS => ?_)
      replace hP : va_P (dC, dI) classes [(m0, .inr (6, [.int (uM 0), .int (nI cn), .ref (ga 2), .int (uM 3), .int (uM 4), .int (uM 5), .int (nI sn), .int (uM 7), .ref (ga 8), .ref (ga 9), .ref (ga 10), .ref (ga 11), .ref (ga 12), .ref (ga 13), .ref (ga 14), .ref (ga 15), .ref (ga 16), .ref (ga 17), .ref (ga 18), .ref (ga 19), .ref (ga 20), .ref (ga 21), .ref (ga 22), .ref (ga 23), .int 0, .int (uM 25), .int (nI cm), .int (nI us), .ref (ga 28), .int (nI wt), .ref (ga 30), .ref (ga 31), .ref (ga 32), .int (nI oc), .int (nI ou), .int (nI ow), .ref (ga 36)])), (ga 9, .inl (gc 9, 96, .inl a9)), (ga 16, .inl (gc 16, 3, .inl a16))] H := hP
      replace hD : va_D A [(m0, .inr (6, [.int (uM 0), .int (nI cn), .ref (ga 2), .int (uM 3), .int (uM 4), .int (uM 5), .int (nI sn), .int (uM 7), .ref (ga 8), .ref (ga 9), .ref (ga 10), .ref (ga 11), .ref (ga 12), .ref (ga 13), .ref (ga 14), .ref (ga 15), .ref (ga 16), .ref (ga 17), .ref (ga 18), .ref (ga 19), .ref (ga 20), .ref (ga 21), .ref (ga 22), .ref (ga 23), .int 0, .int (uM 25), .int (nI cm), .int (nI us), .ref (ga 28), .int (nI wt), .ref (ga 30), .ref (ga 31), .ref (ga 32), .int (nI oc), .int (nI ou), .int (nI ow), .ref (ga 36)])), (ga 9, .inl (gc 9, 96, .inl a9)), (ga 16, .inl (gc 16, 3, .inl a16))] := hD
      refine lv_aload_n hx hb d_M_read_56 rfl (lv_at hl 2 rfl) ?_
      refine va_get (D := (dC, dI)) (ci := 6) (v := .int 0) (C := "VotedTripleModel") (T := F_M) (N := 37) hx hb hw in_M hown hK hP 0 rfl rfl 24 (by decide) (hw _ k_748) (fun _ h9 => h9) rfl d_M_read_57 ?_
      refine lv_if_eq (tgt := 65) hx hb d_M_read_60 rfl (fun hc7 => ?_) (fun hc7 => by first | exact absurd (by decide) hc7 | exact absurd hc7 (by decide))
      refine lv_iload_n hx hb d_M_read_65 rfl (lv_at hl 1 rfl) ?_
      refine vp_callSi (va_runS (As := [.int (a9 (Int32.toNatClampNeg (((32 : Int32) * mi) + x)))]) (rest := []) ⟨hx, hb, hml, hown, hw⟩ (c_M_ones l dC dI (a9 (Int32.toNatClampNeg (((32 : Int32) * mi) + x)))) (va_cwS 1 hw (gdS (k_872) (k_870) (k_871) (k_8)) rfl rfl rfl (by decide +kernel) ⟨Nat.le_of_ble_eq_true rfl, Nat.le_of_ble_eq_true rfl⟩) ⟨fun _ _ _ _ q => q, fun _ _ _ => ⟨rfl, trivial⟩⟩ rfl rfl hl.1 rfl (lv_room (Nat.le_of_ble_eq_true rfl)) d_M_read_66 ⟨Nat.le_of_ble_eq_true rfl, Nat.le_of_ble_eq_true rfl⟩).run (fun r8 hr9 => ?_)
      obtain ⟨hr9, hr9E⟩ := hr9
      obtain rfl : r3 = r8 := hr4E.trans hr9E.symm
      refine lv_iconst (v := 2) hx hb d_M_read_69 (by decide) ?_
      refine lv_irem hx hb d_M_read_70 (by decide) ?_
      refine lv_iconst (v := 1) hx hb d_M_read_71 (by decide) ?_
      refine lv_icmp_ne (tgt := 104) hx hb d_M_read_72 rfl (fun hc10 => ?_) (fun hc10 => ?_)
      · --  ¬ (r3 - r3 / (2 : Int32) * (2 : Int32)) = 1
        refine lv_iload_n hx hb d_M_read_104 rfl (lv_at hl 1 rfl) ?_
        refine vp_callSi (va_runS (As := [.int (a9 (Int32.toNatClampNeg (((32 : Int32) * mi) + x)))]) (rest := []) ⟨hx, hb, hml, hown, hw⟩ (c_M_decode l dC dI (a9 (Int32.toNatClampNeg (((32 : Int32) * mi) + x)))) (va_cwS 1 hw (gdS (k_899) (k_897) (k_898) (k_8)) rfl rfl rfl (by decide +kernel) ⟨Nat.le_of_ble_eq_true rfl, Nat.le_of_ble_eq_true rfl⟩) ⟨fun _ _ _ _ q => q, fun _ _ _ => ⟨rfl, trivial⟩⟩ rfl rfl hl.1 rfl (lv_room (Nat.le_of_ble_eq_true rfl)) d_M_read_105 ⟨Nat.le_of_ble_eq_true rfl, Nat.le_of_ble_eq_true rfl⟩).run (fun r11 hr12 => ?_)
        obtain ⟨hr12, hr12E⟩ := hr12
        have hP9 := hP.sub (ws' := [(m0, .inr (6, oM ga (upc uM 24 0) cn sn cm us wt oc ou ow)), (ga 9, .inl (gc 9, 96, .inl a9)), (ga 16, .inl (gc 16, 3, .inl a16))]) [0, 1, 2] rfl
        have hD9 := hD.sub (ws' := [(m0, .inr (6, oM ga (upc uM 24 0) cn sn cm us wt oc ou ow)), (ga 9, .inl (gc 9, 96, .inl a9)), (ga 16, .inl (gc 16, 3, .inl a16))]) [0, 1, 2] (by decide) rfl
        have hK9 := hK.sub (tys' := [(gc 9, .int), (gc 16, .int)]) [0, 1] rfl
        refine W.widen (k := 0) (n := 0) (Nat.le_of_ble_eq_true rfl) (Nat.le_of_ble_eq_true rfl) ?_
        exact W.iret (v := r11) hx hb hr (fun t ht hW => ⟨⟨_, (a9, a16, 0), rfl, ⟨hr12, (by rw [← hSP, s_M_read]; try (rw [← hr2E, bnd_eq]); try (rw [← hr4E, bnd_eq]); try (rw [if_neg hc5]); try (rw [if_pos hc6]); try (rw [if_neg hc10]); try (rw [← hr12E, bnd_eq]); all_goals rfl)⟩, by rw [ht]; exact hP9, va_K.moved hW.alike hK9, hD9⟩, hS.F ht⟩) hS.2.2 d_M_read_108
      · --  (r3 - r3 / (2 : Int32) * (2 : Int32)) = 1
        refine lv_iload_n hx hb d_M_read_75 rfl (lv_at hl 1 rfl) ?_
        refine lv_iconst (v := 1) hx hb d_M_read_76 (by decide) ?_
        refine lv_iload hx hb d_M_read_77 (lv_at hl 0 rfl) ?_
        refine lv_ishl hx hb d_M_read_79 ?_
        refine lv_ixor hx hb d_M_read_80 ?_
        refine lv_istore_n hx hb d_M_read_81 rfl hl (by decide) rfl (fun ls hl => ?_)
        replace hl : lv_has ls 5 [(3, .int ((a9 (Int32.toNatClampNeg (((32 : Int32) * mi) + x))) ^^^ ((1 : Int32) <<< (r1 &&& 31)))), (4, .int r1), (0, .ref m0), (1, .int mi), (2, .int x)] := hl
        refine lv_aload_n hx hb d_M_read_82 rfl (lv_at hl 2 rfl) ?_
        refine va_get (D := (dC, dI)) (ci := 6) (v := .ref (ga 9)) (C := "VotedTripleModel") (T := F_M) (N := 37) hx hb hw in_M hown hK hP 0 rfl rfl 9 (by decide) (hw _ k_733) (fun _ h9 => h9) rfl d_M_read_83 ?_
        refine lv_bipush (v := 32) hx hb d_M_read_86 (by decide) ?_
        refine lv_iload_n hx hb d_M_read_88 rfl (lv_at hl 3 rfl) ?_
        refine lv_imul hx hb d_M_read_89 ?_
        refine lv_iload_n hx hb d_M_read_90 rfl (lv_at hl 4 rfl) ?_
        refine lv_iadd hx hb d_M_read_91 ?_
        refine lv_iload_n hx hb d_M_read_92 rfl (lv_at hl 0 rfl) ?_
        refine va_iast hx hb hK hP hD hS 1 0 rfl rfl (ix32 hmi hmk hpl) d_M_read_93 (fun H locs hP hD hS => ?_)
        replace hP : va_P (dC, dI) classes [(m0, .inr (6, [.int (uM 0), .int (nI cn), .ref (ga 2), .int (uM 3), .int (uM 4), .int (uM 5), .int (nI sn), .int (uM 7), .ref (ga 8), .ref (ga 9), .ref (ga 10), .ref (ga 11), .ref (ga 12), .ref (ga 13), .ref (ga 14), .ref (ga 15), .ref (ga 16), .ref (ga 17), .ref (ga 18), .ref (ga 19), .ref (ga 20), .ref (ga 21), .ref (ga 22), .ref (ga 23), .int 0, .int (uM 25), .int (nI cm), .int (nI us), .ref (ga 28), .int (nI wt), .ref (ga 30), .ref (ga 31), .ref (ga 32), .int (nI oc), .int (nI ou), .int (nI ow), .ref (ga 36)])), (ga 9, .inl (gc 9, 96, .inl (upd a9 (Int32.toNatClampNeg (((32 : Int32) * mi) + x)) ((a9 (Int32.toNatClampNeg (((32 : Int32) * mi) + x))) ^^^ ((1 : Int32) <<< (r1 &&& 31)))))), (ga 16, .inl (gc 16, 3, .inl a16))] H := hP
        replace hD : va_D A [(m0, .inr (6, [.int (uM 0), .int (nI cn), .ref (ga 2), .int (uM 3), .int (uM 4), .int (uM 5), .int (nI sn), .int (uM 7), .ref (ga 8), .ref (ga 9), .ref (ga 10), .ref (ga 11), .ref (ga 12), .ref (ga 13), .ref (ga 14), .ref (ga 15), .ref (ga 16), .ref (ga 17), .ref (ga 18), .ref (ga 19), .ref (ga 20), .ref (ga 21), .ref (ga 22), .ref (ga 23), .int 0, .int (uM 25), .int (nI cm), .int (nI us), .ref (ga 28), .int (nI wt), .ref (ga 30), .ref (ga 31), .ref (ga 32), .int (nI oc), .int (nI ou), .int (nI ow), .ref (ga 36)])), (ga 9, .inl (gc 9, 96, .inl (upd a9 (Int32.toNatClampNeg (((32 : Int32) * mi) + x)) ((a9 (Int32.toNatClampNeg (((32 : Int32) * mi) + x))) ^^^ ((1 : Int32) <<< (r1 &&& 31)))))), (ga 16, .inl (gc 16, 3, .inl a16))] := hD
        refine lv_aload_n hx hb d_M_read_94 rfl (lv_at hl 2 rfl) ?_
        refine va_get (D := (dC, dI)) (ci := 6) (v := .ref (ga 16)) (C := "VotedTripleModel") (T := F_M) (N := 37) hx hb hw in_M hown hK hP 0 rfl rfl 16 (by decide) (hw _ k_740) (fun _ h9 => h9) rfl d_M_read_95 ?_
        refine lv_iload_n hx hb d_M_read_98 rfl (lv_at hl 3 rfl) ?_
        refine lv_dup2_11 hx hb d_M_read_99 rfl rfl ?_
        refine va_iald hx hb hK hP 2 1 rfl rfl (mi_in hmi hmk) d_M_read_100 ?_
        refine lv_iconst (v := 1) hx hb d_M_read_101 (by decide) ?_
        refine lv_iadd hx hb d_M_read_102 ?_
        refine va_iast hx hb hK hP hD hS 2 1 rfl rfl (mi_in hmi hmk) d_M_read_103 (fun H locs hP hD hS => ?_)
        replace hP : va_P (dC, dI) classes [(m0, .inr (6, [.int (uM 0), .int (nI cn), .ref (ga 2), .int (uM 3), .int (uM 4), .int (uM 5), .int (nI sn), .int (uM 7), .ref (ga 8), .ref (ga 9), .ref (ga 10), .ref (ga 11), .ref (ga 12), .ref (ga 13), .ref (ga 14), .ref (ga 15), .ref (ga 16), .ref (ga 17), .ref (ga 18), .ref (ga 19), .ref (ga 20), .ref (ga 21), .ref (ga 22), .ref (ga 23), .int 0, .int (uM 25), .int (nI cm), .int (nI us), .ref (ga 28), .int (nI wt), .ref (ga 30), .ref (ga 31), .ref (ga 32), .int (nI oc), .int (nI ou), .int (nI ow), .ref (ga 36)])), (ga 9, .inl (gc 9, 96, .inl (upd a9 (Int32.toNatClampNeg (((32 : Int32) * mi) + x)) ((a9 (Int32.toNatClampNeg (((32 : Int32) * mi) + x))) ^^^ ((1 : Int32) <<< (r1 &&& 31)))))), (ga 16, .inl (gc 16, 3, .inl (upd a16 (Int32.toNatClampNeg mi) ((a16 (Int32.toNatClampNeg mi)) + (1 : Int32)))))] H := hP
        replace hD : va_D A [(m0, .inr (6, [.int (uM 0), .int (nI cn), .ref (ga 2), .int (uM 3), .int (uM 4), .int (uM 5), .int (nI sn), .int (uM 7), .ref (ga 8), .ref (ga 9), .ref (ga 10), .ref (ga 11), .ref (ga 12), .ref (ga 13), .ref (ga 14), .ref (ga 15), .ref (ga 16), .ref (ga 17), .ref (ga 18), .ref (ga 19), .ref (ga 20), .ref (ga 21), .ref (ga 22), .ref (ga 23), .int 0, .int (uM 25), .int (nI cm), .int (nI us), .ref (ga 28), .int (nI wt), .ref (ga 30), .ref (ga 31), .ref (ga 32), .int (nI oc), .int (nI ou), .int (nI ow), .ref (ga 36)])), (ga 9, .inl (gc 9, 96, .inl (upd a9 (Int32.toNatClampNeg (((32 : Int32) * mi) + x)) ((a9 (Int32.toNatClampNeg (((32 : Int32) * mi) + x))) ^^^ ((1 : Int32) <<< (r1 &&& 31)))))), (ga 16, .inl (gc 16, 3, .inl (upd a16 (Int32.toNatClampNeg mi) ((a16 (Int32.toNatClampNeg mi)) + (1 : Int32)))))] := hD
        refine lv_iload_n hx hb d_M_read_104 rfl (lv_at hl 0 rfl) ?_
        refine vp_callSi (va_runS (As := [.int ((a9 (Int32.toNatClampNeg (((32 : Int32) * mi) + x))) ^^^ ((1 : Int32) <<< (r1 &&& 31)))]) (rest := []) ⟨hx, hb, hml, hown, hw⟩ (c_M_decode l dC dI ((a9 (Int32.toNatClampNeg (((32 : Int32) * mi) + x))) ^^^ ((1 : Int32) <<< (r1 &&& 31)))) (va_cwS 1 hw (gdS (k_899) (k_897) (k_898) (k_8)) rfl rfl rfl (by decide +kernel) ⟨Nat.le_of_ble_eq_true rfl, Nat.le_of_ble_eq_true rfl⟩) ⟨fun _ _ _ _ q => q, fun _ _ _ => ⟨rfl, trivial⟩⟩ rfl rfl hl.1 rfl (lv_room (Nat.le_of_ble_eq_true rfl)) d_M_read_105 ⟨Nat.le_of_ble_eq_true rfl, Nat.le_of_ble_eq_true rfl⟩).run (fun r13 hr14 => ?_)
        obtain ⟨hr14, hr14E⟩ := hr14
        have hP9 := hP.sub (ws' := [(m0, .inr (6, oM ga (upc uM 24 0) cn sn cm us wt oc ou ow)), (ga 9, .inl (gc 9, 96, .inl (upd a9 (Int32.toNatClampNeg (((32 : Int32) * mi) + x)) ((a9 (Int32.toNatClampNeg (((32 : Int32) * mi) + x))) ^^^ ((1 : Int32) <<< (r1 &&& 31)))))), (ga 16, .inl (gc 16, 3, .inl (upd a16 (Int32.toNatClampNeg mi) ((a16 (Int32.toNatClampNeg mi)) + (1 : Int32)))))]) [0, 1, 2] rfl
        have hD9 := hD.sub (ws' := [(m0, .inr (6, oM ga (upc uM 24 0) cn sn cm us wt oc ou ow)), (ga 9, .inl (gc 9, 96, .inl (upd a9 (Int32.toNatClampNeg (((32 : Int32) * mi) + x)) ((a9 (Int32.toNatClampNeg (((32 : Int32) * mi) + x))) ^^^ ((1 : Int32) <<< (r1 &&& 31)))))), (ga 16, .inl (gc 16, 3, .inl (upd a16 (Int32.toNatClampNeg mi) ((a16 (Int32.toNatClampNeg mi)) + (1 : Int32)))))]) [0, 1, 2] (by decide) rfl
        have hK9 := hK.sub (tys' := [(gc 9, .int), (gc 16, .int)]) [0, 1] rfl
        refine W.widen (k := 0) (n := 0) (Nat.le_of_ble_eq_true rfl) (Nat.le_of_ble_eq_true rfl) ?_
        exact W.iret (v := r13) hx hb hr (fun t ht hW => ⟨⟨_, (upd a9 (Int32.toNatClampNeg (((32 : Int32) * mi) + x)) ((a9 (Int32.toNatClampNeg (((32 : Int32) * mi) + x))) ^^^ ((1 : Int32) <<< (r1 &&& 31))), upd a16 (Int32.toNatClampNeg mi) ((a16 (Int32.toNatClampNeg mi)) + (1 : Int32)), 0), rfl, ⟨hr14, (by rw [← hSP, s_M_read]; try (rw [← hr2E, bnd_eq]); try (rw [← hr4E, bnd_eq]); try (rw [if_neg hc5]); try (rw [if_pos hc6]); try (rw [if_pos hc10]); try (rw [← hr14E, bnd_eq]); all_goals rfl)⟩, by rw [ht]; exact hP9, va_K.moved hW.alike hK9, hD9⟩, hS.F ht⟩) hS.2.2 d_M_read_108
    · --  ¬ r1 < 22
      refine lv_iconst (v := 1) hx hb d_M_read_48 (by decide) ?_
      refine lv_goto (tgt := 53) hx hb d_M_read_49 rfl ?_
      refine va_put (D := (dC, dI)) (ci := 6) (v := .int 1) (ty := .boolean) (C := "VotedTripleModel") (T := F_M) (N := 37) hx hb hw in_M ft_M tyok_M nm_M hown hK hP hD hS 0 rfl rfl 24 (by decide) (hw _ k_748) (fun _ h9 => h9) rfl (by decide +kernel) rfl rfl (Nat.le_of_ble_eq_true rfl) d_M_read_53 (fun H locs hP hD hS => ?_)
      replace hP : va_P (dC, dI) classes [(m0, .inr (6, [.int (uM 0), .int (nI cn), .ref (ga 2), .int (uM 3), .int (uM 4), .int (uM 5), .int (nI sn), .int (uM 7), .ref (ga 8), .ref (ga 9), .ref (ga 10), .ref (ga 11), .ref (ga 12), .ref (ga 13), .ref (ga 14), .ref (ga 15), .ref (ga 16), .ref (ga 17), .ref (ga 18), .ref (ga 19), .ref (ga 20), .ref (ga 21), .ref (ga 22), .ref (ga 23), .int 1, .int (uM 25), .int (nI cm), .int (nI us), .ref (ga 28), .int (nI wt), .ref (ga 30), .ref (ga 31), .ref (ga 32), .int (nI oc), .int (nI ou), .int (nI ow), .ref (ga 36)])), (ga 9, .inl (gc 9, 96, .inl a9)), (ga 16, .inl (gc 16, 3, .inl a16))] H := hP
      replace hD : va_D A [(m0, .inr (6, [.int (uM 0), .int (nI cn), .ref (ga 2), .int (uM 3), .int (uM 4), .int (uM 5), .int (nI sn), .int (uM 7), .ref (ga 8), .ref (ga 9), .ref (ga 10), .ref (ga 11), .ref (ga 12), .ref (ga 13), .ref (ga 14), .ref (ga 15), .ref (ga 16), .ref (ga 17), .ref (ga 18), .ref (ga 19), .ref (ga 20), .ref (ga 21), .ref (ga 22), .ref (ga 23), .int 1, .int (uM 25), .int (nI cm), .int (nI us), .ref (ga 28), .int (nI wt), .ref (ga 30), .ref (ga 31), .ref (ga 32), .int (nI oc), .int (nI ou), .int (nI ow), .ref (ga 36)])), (ga 9, .inl (gc 9, 96, .inl a9)), (ga 16, .inl (gc 16, 3, .inl a16))] := hD
      refine lv_aload_n hx hb d_M_read_56 rfl (lv_at hl 2 rfl) ?_
      refine va_get (D := (dC, dI)) (ci := 6) (v := .int 1) (C := "VotedTripleModel") (T := F_M) (N := 37) hx hb hw in_M hown hK hP 0 rfl rfl 24 (by decide) (hw _ k_748) (fun _ h9 => h9) rfl d_M_read_57 ?_
      refine lv_if_eq (tgt := 65) hx hb d_M_read_60 rfl (fun hc15 => by first | exact absurd hc15 (by decide) | exact absurd (by decide) hc15) (fun hc15 => ?_)
      refine lv_iconst (v := 0) hx hb d_M_read_63 (by decide) ?_
      have hP9 := hP.sub (ws' := [(m0, .inr (6, oM ga (upc uM 24 1) cn sn cm us wt oc ou ow)), (ga 9, .inl (gc 9, 96, .inl a9)), (ga 16, .inl (gc 16, 3, .inl a16))]) [0, 1, 2] rfl
      have hD9 := hD.sub (ws' := [(m0, .inr (6, oM ga (upc uM 24 1) cn sn cm us wt oc ou ow)), (ga 9, .inl (gc 9, 96, .inl a9)), (ga 16, .inl (gc 16, 3, .inl a16))]) [0, 1, 2] (by decide) rfl
      have hK9 := hK.sub (tys' := [(gc 9, .int), (gc 16, .int)]) [0, 1] rfl
      refine W.widen (k := 0) (n := 0) (Nat.le_of_ble_eq_true rfl) (Nat.le_of_ble_eq_true rfl) ?_
      exact W.iret (v := 0) hx hb hr (fun t ht hW => ⟨⟨_, (a9, a16, 1), rfl, ⟨is16_0, (by rw [← hSP, s_M_read]; try (rw [← hr2E, bnd_eq]); try (rw [← hr4E, bnd_eq]); try (rw [if_neg hc5]); try (rw [if_neg hc6]); all_goals rfl)⟩, by rw [ht]; exact hP9, va_K.moved hW.alike hK9, hD9⟩, hS.F ht⟩) hS.2.2 d_M_read_64
  · --  (r3 - r3 / (2 : Int32) * (2 : Int32)) = 0
    refine lv_iload hx hb d_M_read_28 (lv_at hl 0 rfl) ?_
    refine lv_if_eq (tgt := 37) hx hb d_M_read_30 rfl (fun hc16 => ?_) (fun hc16 => ?_)
    · --  r1 = 0
      refine lv_iconst (v := 0) hx hb d_M_read_37 (by decide) ?_
      refine lv_goto (tgt := 53) hx hb d_M_read_38 rfl ?_
      refine va_put (D := (dC, dI)) (ci := 6) (v := .int 0) (ty := .boolean) (C := "VotedTripleModel") (T := F_M) (N := 37) hx hb hw in_M ft_M tyok_M nm_M hown hK hP hD hS 0 rfl rfl 24 (by decide) (hw _ k_748) (fun _ h9 => h9) rfl (by decide +kernel) rfl rfl (Nat.le_of_ble_eq_true rfl) d_M_read_53 (fun H locs hP hD hS => ?_)
      replace hP : va_P (dC, dI) classes [(m0, .inr (6, [.int (uM 0), .int (nI cn), .ref (ga 2), .int (uM 3), .int (uM 4), .int (uM 5), .int (nI sn), .int (uM 7), .ref (ga 8), .ref (ga 9), .ref (ga 10), .ref (ga 11), .ref (ga 12), .ref (ga 13), .ref (ga 14), .ref (ga 15), .ref (ga 16), .ref (ga 17), .ref (ga 18), .ref (ga 19), .ref (ga 20), .ref (ga 21), .ref (ga 22), .ref (ga 23), .int 0, .int (uM 25), .int (nI cm), .int (nI us), .ref (ga 28), .int (nI wt), .ref (ga 30), .ref (ga 31), .ref (ga 32), .int (nI oc), .int (nI ou), .int (nI ow), .ref (ga 36)])), (ga 9, .inl (gc 9, 96, .inl a9)), (ga 16, .inl (gc 16, 3, .inl a16))] H := hP
      replace hD : va_D A [(m0, .inr (6, [.int (uM 0), .int (nI cn), .ref (ga 2), .int (uM 3), .int (uM 4), .int (uM 5), .int (nI sn), .int (uM 7), .ref (ga 8), .ref (ga 9), .ref (ga 10), .ref (ga 11), .ref (ga 12), .ref (ga 13), .ref (ga 14), .ref (ga 15), .ref (ga 16), .ref (ga 17), .ref (ga 18), .ref (ga 19), .ref (ga 20), .ref (ga 21), .ref (ga 22), .ref (ga 23), .int 0, .int (uM 25), .int (nI cm), .int (nI us), .ref (ga 28), .int (nI wt), .ref (ga 30), .ref (ga 31), .ref (ga 32), .int (nI oc), .int (nI ou), .int (nI ow), .ref (ga 36)])), (ga 9, .inl (gc 9, 96, .inl a9)), (ga 16, .inl (gc 16, 3, .inl a16))] := hD
      refine lv_aload_n hx hb d_M_read_56 rfl (lv_at hl 2 rfl) ?_
      refine va_get (D := (dC, dI)) (ci := 6) (v := .int 0) (C := "VotedTripleModel") (T := F_M) (N := 37) hx hb hw in_M hown hK hP 0 rfl rfl 24 (by decide) (hw _ k_748) (fun _ h9 => h9) rfl d_M_read_57 ?_
      refine lv_if_eq (tgt := 65) hx hb d_M_read_60 rfl (fun hc17 => ?_) (fun hc17 => by first | exact absurd (by decide) hc17 | exact absurd hc17 (by decide))
      refine lv_iload_n hx hb d_M_read_65 rfl (lv_at hl 1 rfl) ?_
      refine vp_callSi (va_runS (As := [.int (a9 (Int32.toNatClampNeg (((32 : Int32) * mi) + x)))]) (rest := []) ⟨hx, hb, hml, hown, hw⟩ (c_M_ones l dC dI (a9 (Int32.toNatClampNeg (((32 : Int32) * mi) + x)))) (va_cwS 1 hw (gdS (k_872) (k_870) (k_871) (k_8)) rfl rfl rfl (by decide +kernel) ⟨Nat.le_of_ble_eq_true rfl, Nat.le_of_ble_eq_true rfl⟩) ⟨fun _ _ _ _ q => q, fun _ _ _ => ⟨rfl, trivial⟩⟩ rfl rfl hl.1 rfl (lv_room (Nat.le_of_ble_eq_true rfl)) d_M_read_66 ⟨Nat.le_of_ble_eq_true rfl, Nat.le_of_ble_eq_true rfl⟩).run (fun r18 hr19 => ?_)
      obtain ⟨hr19, hr19E⟩ := hr19
      obtain rfl : r3 = r18 := hr4E.trans hr19E.symm
      refine lv_iconst (v := 2) hx hb d_M_read_69 (by decide) ?_
      refine lv_irem hx hb d_M_read_70 (by decide) ?_
      refine lv_iconst (v := 1) hx hb d_M_read_71 (by decide) ?_
      refine lv_icmp_ne (tgt := 104) hx hb d_M_read_72 rfl (fun hc20 => ?_) (fun hc20 => ?_)
      · --  ¬ (r3 - r3 / (2 : Int32) * (2 : Int32)) = 1
        refine lv_iload_n hx hb d_M_read_104 rfl (lv_at hl 1 rfl) ?_
        refine vp_callSi (va_runS (As := [.int (a9 (Int32.toNatClampNeg (((32 : Int32) * mi) + x)))]) (rest := []) ⟨hx, hb, hml, hown, hw⟩ (c_M_decode l dC dI (a9 (Int32.toNatClampNeg (((32 : Int32) * mi) + x)))) (va_cwS 1 hw (gdS (k_899) (k_897) (k_898) (k_8)) rfl rfl rfl (by decide +kernel) ⟨Nat.le_of_ble_eq_true rfl, Nat.le_of_ble_eq_true rfl⟩) ⟨fun _ _ _ _ q => q, fun _ _ _ => ⟨rfl, trivial⟩⟩ rfl rfl hl.1 rfl (lv_room (Nat.le_of_ble_eq_true rfl)) d_M_read_105 ⟨Nat.le_of_ble_eq_true rfl, Nat.le_of_ble_eq_true rfl⟩).run (fun r21 hr22 => ?_)
        obtain ⟨hr22, hr22E⟩ := hr22
        have hP9 := hP.sub (ws' := [(m0, .inr (6, oM ga (upc uM 24 0) cn sn cm us wt oc ou ow)), (ga 9, .inl (gc 9, 96, .inl a9)), (ga 16, .inl (gc 16, 3, .inl a16))]) [0, 1, 2] rfl
        have hD9 := hD.sub (ws' := [(m0, .inr (6, oM ga (upc uM 24 0) cn sn cm us wt oc ou ow)), (ga 9, .inl (gc 9, 96, .inl a9)), (ga 16, .inl (gc 16, 3, .inl a16))]) [0, 1, 2] (by decide) rfl
        have hK9 := hK.sub (tys' := [(gc 9, .int), (gc 16, .int)]) [0, 1] rfl
        refine W.widen (k := 0) (n := 0) (Nat.le_of_ble_eq_true rfl) (Nat.le_of_ble_eq_true rfl) ?_
        exact W.iret (v := r21) hx hb hr (fun t ht hW => ⟨⟨_, (a9, a16, 0), rfl, ⟨hr22, (by rw [← hSP, s_M_read]; try (rw [← hr2E, bnd_eq]); try (rw [← hr4E, bnd_eq]); try (rw [if_pos hc5]); try (rw [if_pos hc16]); try (rw [if_neg hc20]); try (rw [← hr22E, bnd_eq]); all_goals rfl)⟩, by rw [ht]; exact hP9, va_K.moved hW.alike hK9, hD9⟩, hS.F ht⟩) hS.2.2 d_M_read_108
      · --  (r3 - r3 / (2 : Int32) * (2 : Int32)) = 1
        refine lv_iload_n hx hb d_M_read_75 rfl (lv_at hl 1 rfl) ?_
        refine lv_iconst (v := 1) hx hb d_M_read_76 (by decide) ?_
        refine lv_iload hx hb d_M_read_77 (lv_at hl 0 rfl) ?_
        refine lv_ishl hx hb d_M_read_79 ?_
        refine lv_ixor hx hb d_M_read_80 ?_
        refine lv_istore_n hx hb d_M_read_81 rfl hl (by decide) rfl (fun ls hl => ?_)
        replace hl : lv_has ls 5 [(3, .int ((a9 (Int32.toNatClampNeg (((32 : Int32) * mi) + x))) ^^^ ((1 : Int32) <<< (r1 &&& 31)))), (4, .int r1), (0, .ref m0), (1, .int mi), (2, .int x)] := hl
        refine lv_aload_n hx hb d_M_read_82 rfl (lv_at hl 2 rfl) ?_
        refine va_get (D := (dC, dI)) (ci := 6) (v := .ref (ga 9)) (C := "VotedTripleModel") (T := F_M) (N := 37) hx hb hw in_M hown hK hP 0 rfl rfl 9 (by decide) (hw _ k_733) (fun _ h9 => h9) rfl d_M_read_83 ?_
        refine lv_bipush (v := 32) hx hb d_M_read_86 (by decide) ?_
        refine lv_iload_n hx hb d_M_read_88 rfl (lv_at hl 3 rfl) ?_
        refine lv_imul hx hb d_M_read_89 ?_
        refine lv_iload_n hx hb d_M_read_90 rfl (lv_at hl 4 rfl) ?_
        refine lv_iadd hx hb d_M_read_91 ?_
        refine lv_iload_n hx hb d_M_read_92 rfl (lv_at hl 0 rfl) ?_
        refine va_iast hx hb hK hP hD hS 1 0 rfl rfl (ix32 hmi hmk hpl) d_M_read_93 (fun H locs hP hD hS => ?_)
        replace hP : va_P (dC, dI) classes [(m0, .inr (6, [.int (uM 0), .int (nI cn), .ref (ga 2), .int (uM 3), .int (uM 4), .int (uM 5), .int (nI sn), .int (uM 7), .ref (ga 8), .ref (ga 9), .ref (ga 10), .ref (ga 11), .ref (ga 12), .ref (ga 13), .ref (ga 14), .ref (ga 15), .ref (ga 16), .ref (ga 17), .ref (ga 18), .ref (ga 19), .ref (ga 20), .ref (ga 21), .ref (ga 22), .ref (ga 23), .int 0, .int (uM 25), .int (nI cm), .int (nI us), .ref (ga 28), .int (nI wt), .ref (ga 30), .ref (ga 31), .ref (ga 32), .int (nI oc), .int (nI ou), .int (nI ow), .ref (ga 36)])), (ga 9, .inl (gc 9, 96, .inl (upd a9 (Int32.toNatClampNeg (((32 : Int32) * mi) + x)) ((a9 (Int32.toNatClampNeg (((32 : Int32) * mi) + x))) ^^^ ((1 : Int32) <<< (r1 &&& 31)))))), (ga 16, .inl (gc 16, 3, .inl a16))] H := hP
        replace hD : va_D A [(m0, .inr (6, [.int (uM 0), .int (nI cn), .ref (ga 2), .int (uM 3), .int (uM 4), .int (uM 5), .int (nI sn), .int (uM 7), .ref (ga 8), .ref (ga 9), .ref (ga 10), .ref (ga 11), .ref (ga 12), .ref (ga 13), .ref (ga 14), .ref (ga 15), .ref (ga 16), .ref (ga 17), .ref (ga 18), .ref (ga 19), .ref (ga 20), .ref (ga 21), .ref (ga 22), .ref (ga 23), .int 0, .int (uM 25), .int (nI cm), .int (nI us), .ref (ga 28), .int (nI wt), .ref (ga 30), .ref (ga 31), .ref (ga 32), .int (nI oc), .int (nI ou), .int (nI ow), .ref (ga 36)])), (ga 9, .inl (gc 9, 96, .inl (upd a9 (Int32.toNatClampNeg (((32 : Int32) * mi) + x)) ((a9 (Int32.toNatClampNeg (((32 : Int32) * mi) + x))) ^^^ ((1 : Int32) <<< (r1 &&& 31)))))), (ga 16, .inl (gc 16, 3, .inl a16))] := hD
        refine lv_aload_n hx hb d_M_read_94 rfl (lv_at hl 2 rfl) ?_
        refine va_get (D := (dC, dI)) (ci := 6) (v := .ref (ga 16)) (C := "VotedTripleModel") (T := F_M) (N := 37) hx hb hw in_M hown hK hP 0 rfl rfl 16 (by decide) (hw _ k_740) (fun _ h9 => h9) rfl d_M_read_95 ?_
        refine lv_iload_n hx hb d_M_read_98 rfl (lv_at hl 3 rfl) ?_
        refine lv_dup2_11 hx hb d_M_read_99 rfl rfl ?_
        refine va_iald hx hb hK hP 2 1 rfl rfl (mi_in hmi hmk) d_M_read_100 ?_
        refine lv_iconst (v := 1) hx hb d_M_read_101 (by decide) ?_
        refine lv_iadd hx hb d_M_read_102 ?_
        refine va_iast hx hb hK hP hD hS 2 1 rfl rfl (mi_in hmi hmk) d_M_read_103 (fun H locs hP hD hS => ?_)
        replace hP : va_P (dC, dI) classes [(m0, .inr (6, [.int (uM 0), .int (nI cn), .ref (ga 2), .int (uM 3), .int (uM 4), .int (uM 5), .int (nI sn), .int (uM 7), .ref (ga 8), .ref (ga 9), .ref (ga 10), .ref (ga 11), .ref (ga 12), .ref (ga 13), .ref (ga 14), .ref (ga 15), .ref (ga 16), .ref (ga 17), .ref (ga 18), .ref (ga 19), .ref (ga 20), .ref (ga 21), .ref (ga 22), .ref (ga 23), .int 0, .int (uM 25), .int (nI cm), .int (nI us), .ref (ga 28), .int (nI wt), .ref (ga 30), .ref (ga 31), .ref (ga 32), .int (nI oc), .int (nI ou), .int (nI ow), .ref (ga 36)])), (ga 9, .inl (gc 9, 96, .inl (upd a9 (Int32.toNatClampNeg (((32 : Int32) * mi) + x)) ((a9 (Int32.toNatClampNeg (((32 : Int32) * mi) + x))) ^^^ ((1 : Int32) <<< (r1 &&& 31)))))), (ga 16, .inl (gc 16, 3, .inl (upd a16 (Int32.toNatClampNeg mi) ((a16 (Int32.toNatClampNeg mi)) + (1 : Int32)))))] H := hP
        replace hD : va_D A [(m0, .inr (6, [.int (uM 0), .int (nI cn), .ref (ga 2), .int (uM 3), .int (uM 4), .int (uM 5), .int (nI sn), .int (uM 7), .ref (ga 8), .ref (ga 9), .ref (ga 10), .ref (ga 11), .ref (ga 12), .ref (ga 13), .ref (ga 14), .ref (ga 15), .ref (ga 16), .ref (ga 17), .ref (ga 18), .ref (ga 19), .ref (ga 20), .ref (ga 21), .ref (ga 22), .ref (ga 23), .int 0, .int (uM 25), .int (nI cm), .int (nI us), .ref (ga 28), .int (nI wt), .ref (ga 30), .ref (ga 31), .ref (ga 32), .int (nI oc), .int (nI ou), .int (nI ow), .ref (ga 36)])), (ga 9, .inl (gc 9, 96, .inl (upd a9 (Int32.toNatClampNeg (((32 : Int32) * mi) + x)) ((a9 (Int32.toNatClampNeg (((32 : Int32) * mi) + x))) ^^^ ((1 : Int32) <<< (r1 &&& 31)))))), (ga 16, .inl (gc 16, 3, .inl (upd a16 (Int32.toNatClampNeg mi) ((a16 (Int32.toNatClampNeg mi)) + (1 : Int32)))))] := hD
        refine lv_iload_n hx hb d_M_read_104 rfl (lv_at hl 0 rfl) ?_
        refine vp_callSi (va_runS (As := [.int ((a9 (Int32.toNatClampNeg (((32 : Int32) * mi) + x))) ^^^ ((1 : Int32) <<< (r1 &&& 31)))]) (rest := []) ⟨hx, hb, hml, hown, hw⟩ (c_M_decode l dC dI ((a9 (Int32.toNatClampNeg (((32 : Int32) * mi) + x))) ^^^ ((1 : Int32) <<< (r1 &&& 31)))) (va_cwS 1 hw (gdS (k_899) (k_897) (k_898) (k_8)) rfl rfl rfl (by decide +kernel) ⟨Nat.le_of_ble_eq_true rfl, Nat.le_of_ble_eq_true rfl⟩) ⟨fun _ _ _ _ q => q, fun _ _ _ => ⟨rfl, trivial⟩⟩ rfl rfl hl.1 rfl (lv_room (Nat.le_of_ble_eq_true rfl)) d_M_read_105 ⟨Nat.le_of_ble_eq_true rfl, Nat.le_of_ble_eq_true rfl⟩).run (fun r23 hr24 => ?_)
        obtain ⟨hr24, hr24E⟩ := hr24
        have hP9 := hP.sub (ws' := [(m0, .inr (6, oM ga (upc uM 24 0) cn sn cm us wt oc ou ow)), (ga 9, .inl (gc 9, 96, .inl (upd a9 (Int32.toNatClampNeg (((32 : Int32) * mi) + x)) ((a9 (Int32.toNatClampNeg (((32 : Int32) * mi) + x))) ^^^ ((1 : Int32) <<< (r1 &&& 31)))))), (ga 16, .inl (gc 16, 3, .inl (upd a16 (Int32.toNatClampNeg mi) ((a16 (Int32.toNatClampNeg mi)) + (1 : Int32)))))]) [0, 1, 2] rfl
        have hD9 := hD.sub (ws' := [(m0, .inr (6, oM ga (upc uM 24 0) cn sn cm us wt oc ou ow)), (ga 9, .inl (gc 9, 96, .inl (upd a9 (Int32.toNatClampNeg (((32 : Int32) * mi) + x)) ((a9 (Int32.toNatClampNeg (((32 : Int32) * mi) + x))) ^^^ ((1 : Int32) <<< (r1 &&& 31)))))), (ga 16, .inl (gc 16, 3, .inl (upd a16 (Int32.toNatClampNeg mi) ((a16 (Int32.toNatClampNeg mi)) + (1 : Int32)))))]) [0, 1, 2] (by decide) rfl
        have hK9 := hK.sub (tys' := [(gc 9, .int), (gc 16, .int)]) [0, 1] rfl
        refine W.widen (k := 0) (n := 0) (Nat.le_of_ble_eq_true rfl) (Nat.le_of_ble_eq_true rfl) ?_
        exact W.iret (v := r23) hx hb hr (fun t ht hW => ⟨⟨_, (upd a9 (Int32.toNatClampNeg (((32 : Int32) * mi) + x)) ((a9 (Int32.toNatClampNeg (((32 : Int32) * mi) + x))) ^^^ ((1 : Int32) <<< (r1 &&& 31))), upd a16 (Int32.toNatClampNeg mi) ((a16 (Int32.toNatClampNeg mi)) + (1 : Int32)), 0), rfl, ⟨hr24, (by rw [← hSP, s_M_read]; try (rw [← hr2E, bnd_eq]); try (rw [← hr4E, bnd_eq]); try (rw [if_pos hc5]); try (rw [if_pos hc16]); try (rw [if_pos hc20]); try (rw [← hr24E, bnd_eq]); all_goals rfl)⟩, by rw [ht]; exact hP9, va_K.moved hW.alike hK9, hD9⟩, hS.F ht⟩) hS.2.2 d_M_read_108
    · --  ¬ r1 = 0
      refine lv_iconst (v := 1) hx hb d_M_read_33 (by decide) ?_
      refine lv_goto (tgt := 53) hx hb d_M_read_34 rfl ?_
      refine va_put (D := (dC, dI)) (ci := 6) (v := .int 1) (ty := .boolean) (C := "VotedTripleModel") (T := F_M) (N := 37) hx hb hw in_M ft_M tyok_M nm_M hown hK hP hD hS 0 rfl rfl 24 (by decide) (hw _ k_748) (fun _ h9 => h9) rfl (by decide +kernel) rfl rfl (Nat.le_of_ble_eq_true rfl) d_M_read_53 (fun H locs hP hD hS => ?_)
      replace hP : va_P (dC, dI) classes [(m0, .inr (6, [.int (uM 0), .int (nI cn), .ref (ga 2), .int (uM 3), .int (uM 4), .int (uM 5), .int (nI sn), .int (uM 7), .ref (ga 8), .ref (ga 9), .ref (ga 10), .ref (ga 11), .ref (ga 12), .ref (ga 13), .ref (ga 14), .ref (ga 15), .ref (ga 16), .ref (ga 17), .ref (ga 18), .ref (ga 19), .ref (ga 20), .ref (ga 21), .ref (ga 22), .ref (ga 23), .int 1, .int (uM 25), .int (nI cm), .int (nI us), .ref (ga 28), .int (nI wt), .ref (ga 30), .ref (ga 31), .ref (ga 32), .int (nI oc), .int (nI ou), .int (nI ow), .ref (ga 36)])), (ga 9, .inl (gc 9, 96, .inl a9)), (ga 16, .inl (gc 16, 3, .inl a16))] H := hP
      replace hD : va_D A [(m0, .inr (6, [.int (uM 0), .int (nI cn), .ref (ga 2), .int (uM 3), .int (uM 4), .int (uM 5), .int (nI sn), .int (uM 7), .ref (ga 8), .ref (ga 9), .ref (ga 10), .ref (ga 11), .ref (ga 12), .ref (ga 13), .ref (ga 14), .ref (ga 15), .ref (ga 16), .ref (ga 17), .ref (ga 18), .ref (ga 19), .ref (ga 20), .ref (ga 21), .ref (ga 22), .ref (ga 23), .int 1, .int (uM 25), .int (nI cm), .int (nI us), .ref (ga 28), .int (nI wt), .ref (ga 30), .ref (ga 31), .ref (ga 32), .int (nI oc), .int (nI ou), .int (nI ow), .ref (ga 36)])), (ga 9, .inl (gc 9, 96, .inl a9)), (ga 16, .inl (gc 16, 3, .inl a16))] := hD
      refine lv_aload_n hx hb d_M_read_56 rfl (lv_at hl 2 rfl) ?_
      refine va_get (D := (dC, dI)) (ci := 6) (v := .int 1) (C := "VotedTripleModel") (T := F_M) (N := 37) hx hb hw in_M hown hK hP 0 rfl rfl 24 (by decide) (hw _ k_748) (fun _ h9 => h9) rfl d_M_read_57 ?_
      refine lv_if_eq (tgt := 65) hx hb d_M_read_60 rfl (fun hc25 => by first | exact absurd hc25 (by decide) | exact absurd (by decide) hc25) (fun hc25 => ?_)
      refine lv_iconst (v := 0) hx hb d_M_read_63 (by decide) ?_
      have hP9 := hP.sub (ws' := [(m0, .inr (6, oM ga (upc uM 24 1) cn sn cm us wt oc ou ow)), (ga 9, .inl (gc 9, 96, .inl a9)), (ga 16, .inl (gc 16, 3, .inl a16))]) [0, 1, 2] rfl
      have hD9 := hD.sub (ws' := [(m0, .inr (6, oM ga (upc uM 24 1) cn sn cm us wt oc ou ow)), (ga 9, .inl (gc 9, 96, .inl a9)), (ga 16, .inl (gc 16, 3, .inl a16))]) [0, 1, 2] (by decide) rfl
      have hK9 := hK.sub (tys' := [(gc 9, .int), (gc 16, .int)]) [0, 1] rfl
      refine W.widen (k := 0) (n := 0) (Nat.le_of_ble_eq_true rfl) (Nat.le_of_ble_eq_true rfl) ?_
      exact W.iret (v := 0) hx hb hr (fun t ht hW => ⟨⟨_, (a9, a16, 1), rfl, ⟨is16_0, (by rw [← hSP, s_M_read]; try (rw [← hr2E, bnd_eq]); try (rw [← hr4E, bnd_eq]); try (rw [if_pos hc5]); try (rw [if_neg hc16]); all_goals rfl)⟩, by rw [ht]; exact hP9, va_K.moved hW.alike hK9, hD9⟩, hS.F ht⟩) hS.2.2 d_M_read_64

set_option maxHeartbeats 4000000 in
set_option maxRecDepth 100000 in
theorem c_M_blank (l : Launch) (dC : Nat → ClassId) (dI : Nat → Nat → Nat) (m0 : Nat) (ga : Nat → Nat) (gc : Nat → ClassId) (uM : Nat → Int32) (cn : Nat) (sn : Nat) (cm : Nat) (us : Nat) (wt : Nat) (oc : Nat) (ou : Nat) (ow : Nat) (a8 : Nat → Int32) (a9 : Nat → Int32) (a10 : Nat → Int32) (a13 : Nat → Int32) (a14 : Nat → Int32) (a15 : Nat → Int32) (a16 : Nat → Int32) (a17 : Nat → Int32) (mk : Nat) (mi : Int32) (h8 : wdI 24 a8) (hmi : mi = nI mk) (hmk : mk < 3) (sz : Nat) : Met l y_M_blank (tbw y_M_blank b_M_blank 3 none) ({ frames := 2, cells := 0, slots := 0, locals := 46 }) (va_Pc [.ref m0, .int mi] (fun U => U.heap.size = sz ∧ va_P (dC, dI) classes [(m0, .inr (6, oM ga uM cn sn cm us wt oc ou ow)), (ga 8, .inl (gc 8, 24, .inl a8)), (ga 9, .inl (gc 9, 96, .inl a9)), (ga 10, .inl (gc 10, 3, .inl a10)), (ga 13, .inl (gc 13, 3, .inl a13)), (ga 14, .inl (gc 14, 3, .inl a14)), (ga 15, .inl (gc 15, 3, .inl a15)), (ga 16, .inl (gc 16, 3, .inl a16)), (ga 17, .inl (gc 17, 3, .inl a17))] U.heap ∧ va_K (dC, dI) classes [(gc 8, .int), (gc 9, .int), (gc 10, .int), (gc 13, .int), (gc 14, .boolean), (gc 15, .boolean), (gc 16, .int), (gc 17, .int)] U ∧ va_D (fun _ => True) [(m0, .inr (6, oM ga uM cn sn cm us wt oc ou ow)), (ga 8, .inl (gc 8, 24, .inl a8)), (ga 9, .inl (gc 9, 96, .inl a9)), (ga 10, .inl (gc 10, 3, .inl a10)), (ga 13, .inl (gc 13, 3, .inl a13)), (ga 14, .inl (gc 14, 3, .inl a14)), (ga 15, .inl (gc 15, 3, .inl a15)), (ga 16, .inl (gc 16, 3, .inl a16)), (ga 17, .inl (gc 17, 3, .inl a17))])) (va_Qv (fun (u9 : (Nat → Int32) × (Nat → Int32) × (Nat → Int32) × (Nat → Int32) × (Nat → Int32) × (Nat → Int32) × (Nat → Int32) × (Nat → Int32)) => match u9 with | (a8n, a9n, a10n, a13n, a14n, a15n, a16n, a17n) => (wdI 24 a8n ∧ a10n = upd a10 (Int32.toNatClampNeg mi) 0) ∧ (a8n, a9n, a10n, a13n, a14n, a15n, a16n, a17n) = s_M_blank a8 a9 a10 a13 a14 a15 a16 a17 mi) (fun (u9 : (Nat → Int32) × (Nat → Int32) × (Nat → Int32) × (Nat → Int32) × (Nat → Int32) × (Nat → Int32) × (Nat → Int32) × (Nat → Int32)) t => match u9 with | (a8n, a9n, a10n, a13n, a14n, a15n, a16n, a17n) => va_P (dC, dI) classes [(m0, .inr (6, oM ga uM cn sn cm us wt oc ou ow)), (ga 8, .inl (gc 8, 24, .inl a8n)), (ga 9, .inl (gc 9, 96, .inl a9n)), (ga 10, .inl (gc 10, 3, .inl a10n)), (ga 13, .inl (gc 13, 3, .inl a13n)), (ga 14, .inl (gc 14, 3, .inl a14n)), (ga 15, .inl (gc 15, 3, .inl a15n)), (ga 16, .inl (gc 16, 3, .inl a16n)), (ga 17, .inl (gc 17, 3, .inl a17n))] t.heap ∧ va_K (dC, dI) classes [(gc 8, .int), (gc 9, .int), (gc 10, .int), (gc 13, .int), (gc 14, .boolean), (gc 15, .boolean), (gc 16, .int), (gc 17, .int)] t ∧ va_D (va_A [(m0, .inr (6, oM ga uM cn sn cm us wt oc ou ow)), (ga 8, .inl (gc 8, 24, .inl a8)), (ga 9, .inl (gc 9, 96, .inl a9)), (ga 10, .inl (gc 10, 3, .inl a10)), (ga 13, .inl (gc 13, 3, .inl a13)), (ga 14, .inl (gc 14, 3, .inl a14)), (ga 15, .inl (gc 15, 3, .inl a15)), (ga 16, .inl (gc 16, 3, .inl a16)), (ga 17, .inl (gc 17, 3, .inl a17))] sz) [(m0, .inr (6, oM ga uM cn sn cm us wt oc ou ow)), (ga 8, .inl (gc 8, 24, .inl a8n)), (ga 9, .inl (gc 9, 96, .inl a9n)), (ga 10, .inl (gc 10, 3, .inl a10n)), (ga 13, .inl (gc 13, 3, .inl a13n)), (ga 14, .inl (gc 14, 3, .inl a14n)), (ga 15, .inl (gc 15, 3, .inl a15n)), (ga 16, .inl (gc 16, 3, .inl a16n)), (ga 17, .inl (gc 17, 3, .inl a17n))]) (va_A [(m0, .inr (6, oM ga uM cn sn cm us wt oc ou ow)), (ga 8, .inl (gc 8, 24, .inl a8)), (ga 9, .inl (gc 9, 96, .inl a9)), (ga 10, .inl (gc 10, 3, .inl a10)), (ga 13, .inl (gc 13, 3, .inl a13)), (ga 14, .inl (gc 14, 3, .inl a14)), (ga 15, .inl (gc 15, 3, .inl a15)), (ga 16, .inl (gc 16, 3, .inl a16)), (ga 17, .inl (gc 17, 3, .inl a17))] sz)) 0 0 (va_A [(m0, .inr (6, oM ga uM cn sn cm us wt oc ou ow)), (ga 8, .inl (gc 8, 24, .inl a8)), (ga 9, .inl (gc 9, 96, .inl a9)), (ga 10, .inl (gc 10, 3, .inl a10)), (ga 13, .inl (gc 13, 3, .inl a13)), (ga 14, .inl (gc 14, 3, .inl a14)), (ga 15, .inl (gc 15, 3, .inl a15)), (ga 16, .inl (gc 16, 3, .inl a16)), (ga 17, .inl (gc 17, 3, .inl a17))] sz) := by
  refine Met.ofW (cc := b_M_blank) (maxL := 3) (ret := none) (by decide) rfl ?_
  intro p e s m args below meth c s₁ B hml hv
  obtain ⟨rfl, hsz, hP, hK, hD0⟩ := hv
  have hx := B.exec
  have hb := B.bytes
  have hr := B.returns
  have hts := atoms_spec (ws := (tbw y_M_blank b_M_blank 3 none)) B.pre
  have hw : ∀ z9 ∈ tb, z9.before ([.ref m0, .int mi] : List Value).toArray s = true := fun z9 h => hts z9 (List.mem_cons_of_mem _ h)
  have hown : s.vm.findClass "VotedTripleModel" = some m.cls := findClass_of_methodNamed B.named
  have hlocks := B.notSynchronized
  subst hsz
  replace hD := hD0.self (sz := s.heap.size)
  generalize hAe : va_A [(m0, .inr (6, oM ga uM cn sn cm us wt oc ou ow)), (ga 8, .inl (gc 8, 24, .inl a8)), (ga 9, .inl (gc 9, 96, .inl a9)), (ga 10, .inl (gc 10, 3, .inl a10)), (ga 13, .inl (gc 13, 3, .inl a13)), (ga 14, .inl (gc 14, 3, .inl a14)), (ga 15, .inl (gc 15, 3, .inl a15)), (ga 16, .inl (gc 16, 3, .inl a16)), (ga 17, .inl (gc 17, 3, .inl a17))] s.heap.size = A at hD ⊢
  have hA : ∀ q : Nat, s.heap.size ≤ q → A q := fun q h => by rw [← hAe]; exact Or.inr h
  have hS : va_S A s.heap s.heap [] := va_S.rf
  replace hl := lv_entry ([.ref m0, .int mi]) (n := 3) (Nat.le_of_ble_eq_true rfl)
  rw [lg_entry_eq]
  generalize (lg_sl ([.ref m0, .int mi]) ++ List.replicate (3 - (lg_sl ([.ref m0, .int mi])).length) Slot.unset).toArray = ls at hl ⊢
  replace hl : lv_has ls 3 [(0, .ref m0), (1, .int mi)] := hl
  generalize hSP : s_M_blank a8 a9 a10 a13 a14 a15 a16 a17 mi = SP
  have loop28 : ∀ (n9 : Nat) (i : Nat) (a8 : Nat → Int32) (a9 : Nat → Int32) (ls : Array Slot) (H : Heap) (locs : List Loc), i + n9 = 32 → wdI 24 a8 → SP = s_M_blank_loop28 a10 a13 a14 a15 a16 a17 mi n9 i a8 a9 →  lv_has ls 3 [(0, .ref m0), (1, .int mi), (2, .int (nI i))] → va_P (dC, dI) classes [(m0, .inr (6, oM ga uM cn sn cm us wt oc ou ow)), (ga 8, .inl (gc 8, 24, .inl a8)), (ga 9, .inl (gc 9, 96, .inl a9)), (ga 10, .inl (gc 10, 3, .inl a10)), (ga 13, .inl (gc 13, 3, .inl a13)), (ga 14, .inl (gc 14, 3, .inl a14)), (ga 15, .inl (gc 15, 3, .inl a15)), (ga 16, .inl (gc 16, 3, .inl a16)), (ga 17, .inl (gc 17, 3, .inl a17))] H → va_D A [(m0, .inr (6, oM ga uM cn sn cm us wt oc ou ow)), (ga 8, .inl (gc 8, 24, .inl a8)), (ga 9, .inl (gc 9, 96, .inl a9)), (ga 10, .inl (gc 10, 3, .inl a10)), (ga 13, .inl (gc 13, 3, .inl a13)), (ga 14, .inl (gc 14, 3, .inl a14)), (ga 15, .inl (gc 15, 3, .inl a15)), (ga 16, .inl (gc 16, 3, .inl a16)), (ga 17, .inl (gc 17, 3, .inl a17))] → va_S A s.heap H locs → W p l e (headSpec (tbw y_M_blank b_M_blank 3 none) ({ frames := 2, cells := 0, slots := 0, locals := 46 })).room s m ([.ref m0, .int mi] : List Value).toArray below meth c H locs 0 0 (MQ below (va_Qv (fun (u9 : (Nat → Int32) × (Nat → Int32) × (Nat → Int32) × (Nat → Int32) × (Nat → Int32) × (Nat → Int32) × (Nat → Int32) × (Nat → Int32)) => match u9 with | (a8n, a9n, a10n, a13n, a14n, a15n, a16n, a17n) => (wdI 24 a8n ∧ a10n = upd a10 (Int32.toNatClampNeg mi) 0) ∧ (a8n, a9n, a10n, a13n, a14n, a15n, a16n, a17n) = SP) (fun (u9 : (Nat → Int32) × (Nat → Int32) × (Nat → Int32) × (Nat → Int32) × (Nat → Int32) × (Nat → Int32) × (Nat → Int32) × (Nat → Int32)) t => match u9 with | (a8n, a9n, a10n, a13n, a14n, a15n, a16n, a17n) => va_P (dC, dI) classes [(m0, .inr (6, oM ga uM cn sn cm us wt oc ou ow)), (ga 8, .inl (gc 8, 24, .inl a8n)), (ga 9, .inl (gc 9, 96, .inl a9n)), (ga 10, .inl (gc 10, 3, .inl a10n)), (ga 13, .inl (gc 13, 3, .inl a13n)), (ga 14, .inl (gc 14, 3, .inl a14n)), (ga 15, .inl (gc 15, 3, .inl a15n)), (ga 16, .inl (gc 16, 3, .inl a16n)), (ga 17, .inl (gc 17, 3, .inl a17n))] t.heap ∧ va_K (dC, dI) classes [(gc 8, .int), (gc 9, .int), (gc 10, .int), (gc 13, .int), (gc 14, .boolean), (gc 15, .boolean), (gc 16, .int), (gc 17, .int)] t ∧ va_D A [(m0, .inr (6, oM ga uM cn sn cm us wt oc ou ow)), (ga 8, .inl (gc 8, 24, .inl a8n)), (ga 9, .inl (gc 9, 96, .inl a9n)), (ga 10, .inl (gc 10, 3, .inl a10n)), (ga 13, .inl (gc 13, 3, .inl a13n)), (ga 14, .inl (gc 14, 3, .inl a14n)), (ga 15, .inl (gc 15, 3, .inl a15n)), (ga 16, .inl (gc 16, 3, .inl a16n)), (ga 17, .inl (gc 17, 3, .inl a17n))]) A) ([.ref m0, .int mi] : List Value).toArray s 0 0 A) (F0 m 28 ls []) := by
    intro n9
    induction n9 with
    | zero =>
      intro i a8 a9 ls H locs hn9 h8 hSq0 hl hP hD hS
      refine lv_iload_n hx hb d_M_blank_28 rfl (lv_at hl 2 rfl) ?_
      refine lv_bipush (v := 32) hx hb d_M_blank_29 (by decide) ?_
      refine lv_icmp_ge (tgt := 55) hx hb d_M_blank_31 rfl (fun hc1 => ?_) (fun hc1 => by first | exact absurd (by rw [show i = 32 by omega]; decide) hc1 | exact absurd hc1 (by rw [show i = 32 by omega]; decide))
      refine lv_aload_n hx hb d_M_blank_55 rfl (lv_at hl 0 rfl) ?_
      refine va_get (D := (dC, dI)) (ci := 6) (v := .ref (ga 10)) (C := "VotedTripleModel") (T := F_M) (N := 37) hx hb hw in_M hown hK hP 0 rfl rfl 10 (by decide) (hw _ k_734) (fun _ h9 => h9) rfl d_M_blank_56 ?_
      refine lv_iload_n hx hb d_M_blank_59 rfl (lv_at hl 1 rfl) ?_
      refine lv_iconst (v := 0) hx hb d_M_blank_60 (by decide) ?_
      refine va_iast hx hb hK hP hD hS 3 2 rfl rfl (mi_in hmi hmk) d_M_blank_61 (fun H locs hP hD hS => ?_)
      replace hP : va_P (dC, dI) classes [(m0, .inr (6, oM ga uM cn sn cm us wt oc ou ow)), (ga 8, .inl (gc 8, 24, .inl a8)), (ga 9, .inl (gc 9, 96, .inl a9)), (ga 10, .inl (gc 10, 3, .inl (upd a10 (Int32.toNatClampNeg mi) (0 : Int32)))), (ga 13, .inl (gc 13, 3, .inl a13)), (ga 14, .inl (gc 14, 3, .inl a14)), (ga 15, .inl (gc 15, 3, .inl a15)), (ga 16, .inl (gc 16, 3, .inl a16)), (ga 17, .inl (gc 17, 3, .inl a17))] H := hP
      replace hD : va_D A [(m0, .inr (6, oM ga uM cn sn cm us wt oc ou ow)), (ga 8, .inl (gc 8, 24, .inl a8)), (ga 9, .inl (gc 9, 96, .inl a9)), (ga 10, .inl (gc 10, 3, .inl (upd a10 (Int32.toNatClampNeg mi) (0 : Int32)))), (ga 13, .inl (gc 13, 3, .inl a13)), (ga 14, .inl (gc 14, 3, .inl a14)), (ga 15, .inl (gc 15, 3, .inl a15)), (ga 16, .inl (gc 16, 3, .inl a16)), (ga 17, .inl (gc 17, 3, .inl a17))] := hD
      refine lv_aload_n hx hb d_M_blank_62 rfl (lv_at hl 0 rfl) ?_
      refine va_get (D := (dC, dI)) (ci := 6) (v := .ref (ga 13)) (C := "VotedTripleModel") (T := F_M) (N := 37) hx hb hw in_M hown hK hP 0 rfl rfl 13 (by decide) (hw _ k_737) (fun _ h9 => h9) rfl d_M_blank_63 ?_
      refine lv_iload_n hx hb d_M_blank_66 rfl (lv_at hl 1 rfl) ?_
      refine lv_iconst (v := 0) hx hb d_M_blank_67 (by decide) ?_
      refine va_iast hx hb hK hP hD hS 4 3 rfl rfl (mi_in hmi hmk) d_M_blank_68 (fun H locs hP hD hS => ?_)
      replace hP : va_P (dC, dI) classes [(m0, .inr (6, oM ga uM cn sn cm us wt oc ou ow)), (ga 8, .inl (gc 8, 24, .inl a8)), (ga 9, .inl (gc 9, 96, .inl a9)), (ga 10, .inl (gc 10, 3, .inl (upd a10 (Int32.toNatClampNeg mi) (0 : Int32)))), (ga 13, .inl (gc 13, 3, .inl (upd a13 (Int32.toNatClampNeg mi) (0 : Int32)))), (ga 14, .inl (gc 14, 3, .inl a14)), (ga 15, .inl (gc 15, 3, .inl a15)), (ga 16, .inl (gc 16, 3, .inl a16)), (ga 17, .inl (gc 17, 3, .inl a17))] H := hP
      replace hD : va_D A [(m0, .inr (6, oM ga uM cn sn cm us wt oc ou ow)), (ga 8, .inl (gc 8, 24, .inl a8)), (ga 9, .inl (gc 9, 96, .inl a9)), (ga 10, .inl (gc 10, 3, .inl (upd a10 (Int32.toNatClampNeg mi) (0 : Int32)))), (ga 13, .inl (gc 13, 3, .inl (upd a13 (Int32.toNatClampNeg mi) (0 : Int32)))), (ga 14, .inl (gc 14, 3, .inl a14)), (ga 15, .inl (gc 15, 3, .inl a15)), (ga 16, .inl (gc 16, 3, .inl a16)), (ga 17, .inl (gc 17, 3, .inl a17))] := hD
      refine lv_aload_n hx hb d_M_blank_69 rfl (lv_at hl 0 rfl) ?_
      refine va_get (D := (dC, dI)) (ci := 6) (v := .ref (ga 14)) (C := "VotedTripleModel") (T := F_M) (N := 37) hx hb hw in_M hown hK hP 0 rfl rfl 14 (by decide) (hw _ k_738) (fun _ h9 => h9) rfl d_M_blank_70 ?_
      refine lv_iload_n hx hb d_M_blank_73 rfl (lv_at hl 1 rfl) ?_
      refine lv_iconst (v := 0) hx hb d_M_blank_74 (by decide) ?_
      refine va_zast hx hb hK hP hD hS 5 4 rfl rfl (mi_in hmi hmk) d_M_blank_75 (fun H locs hP hD hS => ?_)
      replace hP : va_P (dC, dI) classes [(m0, .inr (6, oM ga uM cn sn cm us wt oc ou ow)), (ga 8, .inl (gc 8, 24, .inl a8)), (ga 9, .inl (gc 9, 96, .inl a9)), (ga 10, .inl (gc 10, 3, .inl (upd a10 (Int32.toNatClampNeg mi) (0 : Int32)))), (ga 13, .inl (gc 13, 3, .inl (upd a13 (Int32.toNatClampNeg mi) (0 : Int32)))), (ga 14, .inl (gc 14, 3, .inl (upd a14 (Int32.toNatClampNeg mi) (0 : Int32)))), (ga 15, .inl (gc 15, 3, .inl a15)), (ga 16, .inl (gc 16, 3, .inl a16)), (ga 17, .inl (gc 17, 3, .inl a17))] H := hP
      replace hD : va_D A [(m0, .inr (6, oM ga uM cn sn cm us wt oc ou ow)), (ga 8, .inl (gc 8, 24, .inl a8)), (ga 9, .inl (gc 9, 96, .inl a9)), (ga 10, .inl (gc 10, 3, .inl (upd a10 (Int32.toNatClampNeg mi) (0 : Int32)))), (ga 13, .inl (gc 13, 3, .inl (upd a13 (Int32.toNatClampNeg mi) (0 : Int32)))), (ga 14, .inl (gc 14, 3, .inl (upd a14 (Int32.toNatClampNeg mi) (0 : Int32)))), (ga 15, .inl (gc 15, 3, .inl a15)), (ga 16, .inl (gc 16, 3, .inl a16)), (ga 17, .inl (gc 17, 3, .inl a17))] := hD
      refine lv_aload_n hx hb d_M_blank_76 rfl (lv_at hl 0 rfl) ?_
      refine va_get (D := (dC, dI)) (ci := 6) (v := .ref (ga 15)) (C := "VotedTripleModel") (T := F_M) (N := 37) hx hb hw in_M hown hK hP 0 rfl rfl 15 (by decide) (hw _ k_739) (fun _ h9 => h9) rfl d_M_blank_77 ?_
      refine lv_iload_n hx hb d_M_blank_80 rfl (lv_at hl 1 rfl) ?_
      refine lv_iconst (v := 0) hx hb d_M_blank_81 (by decide) ?_
      refine va_zast hx hb hK hP hD hS 6 5 rfl rfl (mi_in hmi hmk) d_M_blank_82 (fun H locs hP hD hS => ?_)
      replace hP : va_P (dC, dI) classes [(m0, .inr (6, oM ga uM cn sn cm us wt oc ou ow)), (ga 8, .inl (gc 8, 24, .inl a8)), (ga 9, .inl (gc 9, 96, .inl a9)), (ga 10, .inl (gc 10, 3, .inl (upd a10 (Int32.toNatClampNeg mi) (0 : Int32)))), (ga 13, .inl (gc 13, 3, .inl (upd a13 (Int32.toNatClampNeg mi) (0 : Int32)))), (ga 14, .inl (gc 14, 3, .inl (upd a14 (Int32.toNatClampNeg mi) (0 : Int32)))), (ga 15, .inl (gc 15, 3, .inl (upd a15 (Int32.toNatClampNeg mi) (0 : Int32)))), (ga 16, .inl (gc 16, 3, .inl a16)), (ga 17, .inl (gc 17, 3, .inl a17))] H := hP
      replace hD : va_D A [(m0, .inr (6, oM ga uM cn sn cm us wt oc ou ow)), (ga 8, .inl (gc 8, 24, .inl a8)), (ga 9, .inl (gc 9, 96, .inl a9)), (ga 10, .inl (gc 10, 3, .inl (upd a10 (Int32.toNatClampNeg mi) (0 : Int32)))), (ga 13, .inl (gc 13, 3, .inl (upd a13 (Int32.toNatClampNeg mi) (0 : Int32)))), (ga 14, .inl (gc 14, 3, .inl (upd a14 (Int32.toNatClampNeg mi) (0 : Int32)))), (ga 15, .inl (gc 15, 3, .inl (upd a15 (Int32.toNatClampNeg mi) (0 : Int32)))), (ga 16, .inl (gc 16, 3, .inl a16)), (ga 17, .inl (gc 17, 3, .inl a17))] := hD
      refine lv_aload_n hx hb d_M_blank_83 rfl (lv_at hl 0 rfl) ?_
      refine va_get (D := (dC, dI)) (ci := 6) (v := .ref (ga 16)) (C := "VotedTripleModel") (T := F_M) (N := 37) hx hb hw in_M hown hK hP 0 rfl rfl 16 (by decide) (hw _ k_740) (fun _ h9 => h9) rfl d_M_blank_84 ?_
      refine lv_iload_n hx hb d_M_blank_87 rfl (lv_at hl 1 rfl) ?_
      refine lv_iconst (v := 0) hx hb d_M_blank_88 (by decide) ?_
      refine va_iast hx hb hK hP hD hS 7 6 rfl rfl (mi_in hmi hmk) d_M_blank_89 (fun H locs hP hD hS => ?_)
      replace hP : va_P (dC, dI) classes [(m0, .inr (6, oM ga uM cn sn cm us wt oc ou ow)), (ga 8, .inl (gc 8, 24, .inl a8)), (ga 9, .inl (gc 9, 96, .inl a9)), (ga 10, .inl (gc 10, 3, .inl (upd a10 (Int32.toNatClampNeg mi) (0 : Int32)))), (ga 13, .inl (gc 13, 3, .inl (upd a13 (Int32.toNatClampNeg mi) (0 : Int32)))), (ga 14, .inl (gc 14, 3, .inl (upd a14 (Int32.toNatClampNeg mi) (0 : Int32)))), (ga 15, .inl (gc 15, 3, .inl (upd a15 (Int32.toNatClampNeg mi) (0 : Int32)))), (ga 16, .inl (gc 16, 3, .inl (upd a16 (Int32.toNatClampNeg mi) (0 : Int32)))), (ga 17, .inl (gc 17, 3, .inl a17))] H := hP
      replace hD : va_D A [(m0, .inr (6, oM ga uM cn sn cm us wt oc ou ow)), (ga 8, .inl (gc 8, 24, .inl a8)), (ga 9, .inl (gc 9, 96, .inl a9)), (ga 10, .inl (gc 10, 3, .inl (upd a10 (Int32.toNatClampNeg mi) (0 : Int32)))), (ga 13, .inl (gc 13, 3, .inl (upd a13 (Int32.toNatClampNeg mi) (0 : Int32)))), (ga 14, .inl (gc 14, 3, .inl (upd a14 (Int32.toNatClampNeg mi) (0 : Int32)))), (ga 15, .inl (gc 15, 3, .inl (upd a15 (Int32.toNatClampNeg mi) (0 : Int32)))), (ga 16, .inl (gc 16, 3, .inl (upd a16 (Int32.toNatClampNeg mi) (0 : Int32)))), (ga 17, .inl (gc 17, 3, .inl a17))] := hD
      refine lv_aload_n hx hb d_M_blank_90 rfl (lv_at hl 0 rfl) ?_
      refine va_get (D := (dC, dI)) (ci := 6) (v := .ref (ga 17)) (C := "VotedTripleModel") (T := F_M) (N := 37) hx hb hw in_M hown hK hP 0 rfl rfl 17 (by decide) (hw _ k_741) (fun _ h9 => h9) rfl d_M_blank_91 ?_
      refine lv_iload_n hx hb d_M_blank_94 rfl (lv_at hl 1 rfl) ?_
      refine lv_iconst (v := 0) hx hb d_M_blank_95 (by decide) ?_
      refine va_iast hx hb hK hP hD hS 8 7 rfl rfl (mi_in hmi hmk) d_M_blank_96 (fun H locs hP hD hS => ?_)
      replace hP : va_P (dC, dI) classes [(m0, .inr (6, oM ga uM cn sn cm us wt oc ou ow)), (ga 8, .inl (gc 8, 24, .inl a8)), (ga 9, .inl (gc 9, 96, .inl a9)), (ga 10, .inl (gc 10, 3, .inl (upd a10 (Int32.toNatClampNeg mi) (0 : Int32)))), (ga 13, .inl (gc 13, 3, .inl (upd a13 (Int32.toNatClampNeg mi) (0 : Int32)))), (ga 14, .inl (gc 14, 3, .inl (upd a14 (Int32.toNatClampNeg mi) (0 : Int32)))), (ga 15, .inl (gc 15, 3, .inl (upd a15 (Int32.toNatClampNeg mi) (0 : Int32)))), (ga 16, .inl (gc 16, 3, .inl (upd a16 (Int32.toNatClampNeg mi) (0 : Int32)))), (ga 17, .inl (gc 17, 3, .inl (upd a17 (Int32.toNatClampNeg mi) (0 : Int32))))] H := hP
      replace hD : va_D A [(m0, .inr (6, oM ga uM cn sn cm us wt oc ou ow)), (ga 8, .inl (gc 8, 24, .inl a8)), (ga 9, .inl (gc 9, 96, .inl a9)), (ga 10, .inl (gc 10, 3, .inl (upd a10 (Int32.toNatClampNeg mi) (0 : Int32)))), (ga 13, .inl (gc 13, 3, .inl (upd a13 (Int32.toNatClampNeg mi) (0 : Int32)))), (ga 14, .inl (gc 14, 3, .inl (upd a14 (Int32.toNatClampNeg mi) (0 : Int32)))), (ga 15, .inl (gc 15, 3, .inl (upd a15 (Int32.toNatClampNeg mi) (0 : Int32)))), (ga 16, .inl (gc 16, 3, .inl (upd a16 (Int32.toNatClampNeg mi) (0 : Int32)))), (ga 17, .inl (gc 17, 3, .inl (upd a17 (Int32.toNatClampNeg mi) (0 : Int32))))] := hD
      have hP9 := hP.sub (ws' := [(m0, .inr (6, oM ga uM cn sn cm us wt oc ou ow)), (ga 8, .inl (gc 8, 24, .inl a8)), (ga 9, .inl (gc 9, 96, .inl a9)), (ga 10, .inl (gc 10, 3, .inl (upd a10 (Int32.toNatClampNeg mi) (0 : Int32)))), (ga 13, .inl (gc 13, 3, .inl (upd a13 (Int32.toNatClampNeg mi) (0 : Int32)))), (ga 14, .inl (gc 14, 3, .inl (upd a14 (Int32.toNatClampNeg mi) (0 : Int32)))), (ga 15, .inl (gc 15, 3, .inl (upd a15 (Int32.toNatClampNeg mi) (0 : Int32)))), (ga 16, .inl (gc 16, 3, .inl (upd a16 (Int32.toNatClampNeg mi) (0 : Int32)))), (ga 17, .inl (gc 17, 3, .inl (upd a17 (Int32.toNatClampNeg mi) (0 : Int32))))]) [0, 1, 2, 3, 4, 5, 6, 7, 8] rfl
      have hD9 := hD.sub (ws' := [(m0, .inr (6, oM ga uM cn sn cm us wt oc ou ow)), (ga 8, .inl (gc 8, 24, .inl a8)), (ga 9, .inl (gc 9, 96, .inl a9)), (ga 10, .inl (gc 10, 3, .inl (upd a10 (Int32.toNatClampNeg mi) (0 : Int32)))), (ga 13, .inl (gc 13, 3, .inl (upd a13 (Int32.toNatClampNeg mi) (0 : Int32)))), (ga 14, .inl (gc 14, 3, .inl (upd a14 (Int32.toNatClampNeg mi) (0 : Int32)))), (ga 15, .inl (gc 15, 3, .inl (upd a15 (Int32.toNatClampNeg mi) (0 : Int32)))), (ga 16, .inl (gc 16, 3, .inl (upd a16 (Int32.toNatClampNeg mi) (0 : Int32)))), (ga 17, .inl (gc 17, 3, .inl (upd a17 (Int32.toNatClampNeg mi) (0 : Int32))))]) [0, 1, 2, 3, 4, 5, 6, 7, 8] (by decide) rfl
      have hK9 := hK.sub (tys' := [(gc 8, .int), (gc 9, .int), (gc 10, .int), (gc 13, .int), (gc 14, .boolean), (gc 15, .boolean), (gc 16, .int), (gc 17, .int)]) [0, 1, 2, 3, 4, 5, 6, 7] rfl
      refine W.widen (k := 0) (n := 0) (Nat.le_of_ble_eq_true rfl) (Nat.le_of_ble_eq_true rfl) ?_
      exact W.vret hx hb hr (fun t ht hW => ⟨⟨(a8, a9, upd a10 (Int32.toNatClampNeg mi) (0 : Int32), upd a13 (Int32.toNatClampNeg mi) (0 : Int32), upd a14 (Int32.toNatClampNeg mi) (0 : Int32), upd a15 (Int32.toNatClampNeg mi) (0 : Int32), upd a16 (Int32.toNatClampNeg mi) (0 : Int32), upd a17 (Int32.toNatClampNeg mi) (0 : Int32)), rfl, ⟨⟨(by repeat' first | with_reducible assumption | with_reducible exact is16_0 | with_reducible exact is16_m _ | with_reducible exact set16' _ | with_reducible apply rgI_upd | with_reducible apply c3_upd | with_reducible apply o3_upd | exact Or.inl rfl | exact ⟨0, by with_reducible assumption, rfl⟩ | omega | assumption), rfl⟩, (by rw [hSq0, s_M_blank_loop28]; all_goals rfl)⟩, by rw [ht]; exact hP9, va_K.moved hW.alike hK9, hD9⟩, hS.F ht⟩) hS.2.2 d_M_blank_97
    | succ n9 ih =>
      intro i a8 a9 ls H locs hn9 h8 hSq0 hl hP hD hS
      refine lv_iload_n hx hb d_M_blank_28 rfl (lv_at hl 2 rfl) ?_
      refine lv_bipush (v := 32) hx hb d_M_blank_29 (by decide) ?_
      refine lv_icmp_ge (tgt := 55) hx hb d_M_blank_31 rfl (fun hc2 => by first | exact absurd hc2 (fun h9 => absurd ((nI_leI (a := 32) (b := i) (by omega) (by omega)).mp h9) (by omega)) | exact absurd (fun h9 => absurd ((nI_leI (a := 32) (b := i) (by omega) (by omega)).mp h9) (by omega)) hc2) (fun hc2 => ?_)
      refine lv_aload_n hx hb d_M_blank_34 rfl (lv_at hl 0 rfl) ?_
      refine va_get (D := (dC, dI)) (ci := 6) (v := .ref (ga 9)) (C := "VotedTripleModel") (T := F_M) (N := 37) hx hb hw in_M hown hK hP 0 rfl rfl 9 (by decide) (hw _ k_733) (fun _ h9 => h9) rfl d_M_blank_35 ?_
      refine lv_bipush (v := 32) hx hb d_M_blank_38 (by decide) ?_
      refine lv_iload_n hx hb d_M_blank_40 rfl (lv_at hl 1 rfl) ?_
      refine lv_imul hx hb d_M_blank_41 ?_
      refine lv_iload_n hx hb d_M_blank_42 rfl (lv_at hl 2 rfl) ?_
      refine lv_iadd hx hb d_M_blank_43 ?_
      refine lv_iconst (v := 0) hx hb d_M_blank_44 (by decide) ?_
      refine vp_callSi (va_runS (As := [.int 0]) (rest := [.int (((32 : Int32) * mi) + (nI i)), .ref (ga 9)]) ⟨hx, hb, hml, hown, hw⟩ (c_M_encode l dC dI 0) (va_cwS 1 hw (gdS (k_863) (k_861) (k_862) (k_8)) rfl rfl rfl (by decide +kernel) ⟨Nat.le_of_ble_eq_true rfl, Nat.le_of_ble_eq_true rfl⟩) ⟨fun _ _ _ _ q => q, fun _ _ _ => ⟨rfl, trivial⟩⟩ rfl rfl hl.1 rfl (lv_room (Nat.le_of_ble_eq_true rfl)) d_M_blank_45 ⟨Nat.le_of_ble_eq_true rfl, Nat.le_of_ble_eq_true rfl⟩).run (fun r3 hr4 => ?_)
      obtain ⟨hr4, hr4E⟩ := hr4
      refine va_iast hx hb hK hP hD hS 2 1 rfl rfl (ix32 hmi hmk (vp_in_nI (by omega) (by decide))) d_M_blank_48 (fun H locs hP hD hS => ?_)
      replace hP : va_P (dC, dI) classes [(m0, .inr (6, oM ga uM cn sn cm us wt oc ou ow)), (ga 8, .inl (gc 8, 24, .inl a8)), (ga 9, .inl (gc 9, 96, .inl (upd a9 (Int32.toNatClampNeg (((32 : Int32) * mi) + (nI i))) r3))), (ga 10, .inl (gc 10, 3, .inl a10)), (ga 13, .inl (gc 13, 3, .inl a13)), (ga 14, .inl (gc 14, 3, .inl a14)), (ga 15, .inl (gc 15, 3, .inl a15)), (ga 16, .inl (gc 16, 3, .inl a16)), (ga 17, .inl (gc 17, 3, .inl a17))] H := hP
      replace hD : va_D A [(m0, .inr (6, oM ga uM cn sn cm us wt oc ou ow)), (ga 8, .inl (gc 8, 24, .inl a8)), (ga 9, .inl (gc 9, 96, .inl (upd a9 (Int32.toNatClampNeg (((32 : Int32) * mi) + (nI i))) r3))), (ga 10, .inl (gc 10, 3, .inl a10)), (ga 13, .inl (gc 13, 3, .inl a13)), (ga 14, .inl (gc 14, 3, .inl a14)), (ga 15, .inl (gc 15, 3, .inl a15)), (ga 16, .inl (gc 16, 3, .inl a16)), (ga 17, .inl (gc 17, 3, .inl a17))] := hD
      refine lv_iinc (k := 2) (v := nI (i + 1)) hx hb d_M_blank_49 hl rfl (nI_1 i) (by decide) rfl (fun ls hl => ?_)
      replace hl : lv_has ls 3 [(2, .int (nI (i + 1))), (0, .ref m0), (1, .int mi)] := hl
      refine lv_goto (tgt := 28) hx hb d_M_blank_52 rfl ?_
      have hSq : SP = s_M_blank_loop28 a10 a13 a14 a15 a16 a17 mi n9 (i + 1) a8 (upd a9 (Int32.toNatClampNeg (((32 : Int32) * mi) + (nI i))) r3) := by rw [hSq0, s_M_blank_loop28]; try (rw [← hr4E, bnd_eq]); all_goals rfl
      replace hl := lv_sub hl (l' := [(0, .ref m0), (1, .int mi), (2, .int (nI (i + 1)))]) [1, 2, 0] rfl
      replace hP := hP.sub (ws' := [(m0, .inr (6, oM ga uM cn sn cm us wt oc ou ow)), (ga 8, .inl (gc 8, 24, .inl a8)), (ga 9, .inl (gc 9, 96, .inl (upd a9 (Int32.toNatClampNeg (((32 : Int32) * mi) + (nI i))) r3))), (ga 10, .inl (gc 10, 3, .inl a10)), (ga 13, .inl (gc 13, 3, .inl a13)), (ga 14, .inl (gc 14, 3, .inl a14)), (ga 15, .inl (gc 15, 3, .inl a15)), (ga 16, .inl (gc 16, 3, .inl a16)), (ga 17, .inl (gc 17, 3, .inl a17))]) [0, 1, 2, 3, 4, 5, 6, 7, 8] rfl
      replace hD := hD.sub (ws' := [(m0, .inr (6, oM ga uM cn sn cm us wt oc ou ow)), (ga 8, .inl (gc 8, 24, .inl a8)), (ga 9, .inl (gc 9, 96, .inl (upd a9 (Int32.toNatClampNeg (((32 : Int32) * mi) + (nI i))) r3))), (ga 10, .inl (gc 10, 3, .inl a10)), (ga 13, .inl (gc 13, 3, .inl a13)), (ga 14, .inl (gc 14, 3, .inl a14)), (ga 15, .inl (gc 15, 3, .inl a15)), (ga 16, .inl (gc 16, 3, .inl a16)), (ga 17, .inl (gc 17, 3, .inl a17))]) [0, 1, 2, 3, 4, 5, 6, 7, 8] (by decide) rfl
      exact ih (i + 1) a8 (upd a9 (Int32.toNatClampNeg (((32 : Int32) * mi) + (nI i))) r3) _ _ _ (by omega) (by repeat' first | with_reducible assumption | with_reducible exact is16_0 | with_reducible exact is16_m _ | with_reducible exact set16' _ | with_reducible apply rgI_upd | with_reducible apply c3_upd | with_reducible apply o3_upd | exact Or.inl rfl | exact ⟨0, by with_reducible assumption, rfl⟩ | omega | assumption) hSq hl hP hD hS
  have loop2 : ∀ (n9 : Nat) (i : Nat) (a8 : Nat → Int32) (ls : Array Slot) (H : Heap) (locs : List Loc), i + n9 = 8 → wdI 24 a8 → SP = s_M_blank_loop2 a9 a10 a13 a14 a15 a16 a17 mi n9 i a8 →  lv_has ls 3 [(0, .ref m0), (1, .int mi), (2, .int (nI i))] → va_P (dC, dI) classes [(m0, .inr (6, oM ga uM cn sn cm us wt oc ou ow)), (ga 8, .inl (gc 8, 24, .inl a8)), (ga 9, .inl (gc 9, 96, .inl a9)), (ga 10, .inl (gc 10, 3, .inl a10)), (ga 13, .inl (gc 13, 3, .inl a13)), (ga 14, .inl (gc 14, 3, .inl a14)), (ga 15, .inl (gc 15, 3, .inl a15)), (ga 16, .inl (gc 16, 3, .inl a16)), (ga 17, .inl (gc 17, 3, .inl a17))] H → va_D A [(m0, .inr (6, oM ga uM cn sn cm us wt oc ou ow)), (ga 8, .inl (gc 8, 24, .inl a8)), (ga 9, .inl (gc 9, 96, .inl a9)), (ga 10, .inl (gc 10, 3, .inl a10)), (ga 13, .inl (gc 13, 3, .inl a13)), (ga 14, .inl (gc 14, 3, .inl a14)), (ga 15, .inl (gc 15, 3, .inl a15)), (ga 16, .inl (gc 16, 3, .inl a16)), (ga 17, .inl (gc 17, 3, .inl a17))] → va_S A s.heap H locs → W p l e (headSpec (tbw y_M_blank b_M_blank 3 none) ({ frames := 2, cells := 0, slots := 0, locals := 46 })).room s m ([.ref m0, .int mi] : List Value).toArray below meth c H locs 0 0 (MQ below (va_Qv (fun (u9 : (Nat → Int32) × (Nat → Int32) × (Nat → Int32) × (Nat → Int32) × (Nat → Int32) × (Nat → Int32) × (Nat → Int32) × (Nat → Int32)) => match u9 with | (a8n, a9n, a10n, a13n, a14n, a15n, a16n, a17n) => (wdI 24 a8n ∧ a10n = upd a10 (Int32.toNatClampNeg mi) 0) ∧ (a8n, a9n, a10n, a13n, a14n, a15n, a16n, a17n) = SP) (fun (u9 : (Nat → Int32) × (Nat → Int32) × (Nat → Int32) × (Nat → Int32) × (Nat → Int32) × (Nat → Int32) × (Nat → Int32) × (Nat → Int32)) t => match u9 with | (a8n, a9n, a10n, a13n, a14n, a15n, a16n, a17n) => va_P (dC, dI) classes [(m0, .inr (6, oM ga uM cn sn cm us wt oc ou ow)), (ga 8, .inl (gc 8, 24, .inl a8n)), (ga 9, .inl (gc 9, 96, .inl a9n)), (ga 10, .inl (gc 10, 3, .inl a10n)), (ga 13, .inl (gc 13, 3, .inl a13n)), (ga 14, .inl (gc 14, 3, .inl a14n)), (ga 15, .inl (gc 15, 3, .inl a15n)), (ga 16, .inl (gc 16, 3, .inl a16n)), (ga 17, .inl (gc 17, 3, .inl a17n))] t.heap ∧ va_K (dC, dI) classes [(gc 8, .int), (gc 9, .int), (gc 10, .int), (gc 13, .int), (gc 14, .boolean), (gc 15, .boolean), (gc 16, .int), (gc 17, .int)] t ∧ va_D A [(m0, .inr (6, oM ga uM cn sn cm us wt oc ou ow)), (ga 8, .inl (gc 8, 24, .inl a8n)), (ga 9, .inl (gc 9, 96, .inl a9n)), (ga 10, .inl (gc 10, 3, .inl a10n)), (ga 13, .inl (gc 13, 3, .inl a13n)), (ga 14, .inl (gc 14, 3, .inl a14n)), (ga 15, .inl (gc 15, 3, .inl a15n)), (ga 16, .inl (gc 16, 3, .inl a16n)), (ga 17, .inl (gc 17, 3, .inl a17n))]) A) ([.ref m0, .int mi] : List Value).toArray s 0 0 A) (F0 m 2 ls []) := by
    intro n9
    induction n9 with
    | zero =>
      intro i a8 ls H locs hn9 h8 hSq0 hl hP hD hS
      refine lv_iload_n hx hb d_M_blank_2 rfl (lv_at hl 2 rfl) ?_
      refine lv_bipush (v := 8) hx hb d_M_blank_3 (by decide) ?_
      refine lv_icmp_ge (tgt := 26) hx hb d_M_blank_5 rfl (fun hc5 => ?_) (fun hc5 => by first | exact absurd (by rw [show i = 8 by omega]; decide) hc5 | exact absurd hc5 (by rw [show i = 8 by omega]; decide))
      refine lv_iconst (v := 0) hx hb d_M_blank_26 (by decide) ?_
      refine lv_istore_n hx hb d_M_blank_27 rfl hl (by decide) rfl (fun ls hl => ?_)
      replace hl : lv_has ls 3 [(2, .int 0), (0, .ref m0), (1, .int mi)] := hl
      have hSq : SP = s_M_blank_loop28 a10 a13 a14 a15 a16 a17 mi 32 0 a8 a9 := by rw [hSq0, s_M_blank_loop2]; all_goals rfl
      replace hl := lv_sub hl (l' := [(0, .ref m0), (1, .int mi), (2, .int 0)]) [1, 2, 0] rfl
      replace hP := hP.sub (ws' := [(m0, .inr (6, oM ga uM cn sn cm us wt oc ou ow)), (ga 8, .inl (gc 8, 24, .inl a8)), (ga 9, .inl (gc 9, 96, .inl a9)), (ga 10, .inl (gc 10, 3, .inl a10)), (ga 13, .inl (gc 13, 3, .inl a13)), (ga 14, .inl (gc 14, 3, .inl a14)), (ga 15, .inl (gc 15, 3, .inl a15)), (ga 16, .inl (gc 16, 3, .inl a16)), (ga 17, .inl (gc 17, 3, .inl a17))]) [0, 1, 2, 3, 4, 5, 6, 7, 8] rfl
      replace hD := hD.sub (ws' := [(m0, .inr (6, oM ga uM cn sn cm us wt oc ou ow)), (ga 8, .inl (gc 8, 24, .inl a8)), (ga 9, .inl (gc 9, 96, .inl a9)), (ga 10, .inl (gc 10, 3, .inl a10)), (ga 13, .inl (gc 13, 3, .inl a13)), (ga 14, .inl (gc 14, 3, .inl a14)), (ga 15, .inl (gc 15, 3, .inl a15)), (ga 16, .inl (gc 16, 3, .inl a16)), (ga 17, .inl (gc 17, 3, .inl a17))]) [0, 1, 2, 3, 4, 5, 6, 7, 8] (by decide) rfl
      exact loop28 32 0 a8 a9 _ _ _ (by omega) (by repeat' first | with_reducible assumption | with_reducible exact is16_0 | with_reducible exact is16_m _ | with_reducible exact set16' _ | with_reducible apply rgI_upd | with_reducible apply c3_upd | with_reducible apply o3_upd | exact Or.inl rfl | exact ⟨0, by with_reducible assumption, rfl⟩ | omega | assumption) hSq hl hP hD hS
    | succ n9 ih =>
      intro i a8 ls H locs hn9 h8 hSq0 hl hP hD hS
      refine lv_iload_n hx hb d_M_blank_2 rfl (lv_at hl 2 rfl) ?_
      refine lv_bipush (v := 8) hx hb d_M_blank_3 (by decide) ?_
      refine lv_icmp_ge (tgt := 26) hx hb d_M_blank_5 rfl (fun hc6 => by first | exact absurd hc6 (fun h9 => absurd ((nI_leI (a := 8) (b := i) (by omega) (by omega)).mp h9) (by omega)) | exact absurd (fun h9 => absurd ((nI_leI (a := 8) (b := i) (by omega) (by omega)).mp h9) (by omega)) hc6) (fun hc6 => ?_)
      refine lv_aload_n hx hb d_M_blank_8 rfl (lv_at hl 0 rfl) ?_
      refine va_get (D := (dC, dI)) (ci := 6) (v := .ref (ga 8)) (C := "VotedTripleModel") (T := F_M) (N := 37) hx hb hw in_M hown hK hP 0 rfl rfl 8 (by decide) (hw _ k_732) (fun _ h9 => h9) rfl d_M_blank_9 ?_
      refine lv_bipush (v := 8) hx hb d_M_blank_12 (by decide) ?_
      refine lv_iload_n hx hb d_M_blank_14 rfl (lv_at hl 1 rfl) ?_
      refine lv_imul hx hb d_M_blank_15 ?_
      refine lv_iload_n hx hb d_M_blank_16 rfl (lv_at hl 2 rfl) ?_
      refine lv_iadd hx hb d_M_blank_17 ?_
      refine lv_iconst (v := 0) hx hb d_M_blank_18 (by decide) ?_
      refine va_iast hx hb hK hP hD hS 1 0 rfl rfl (ix8 hmi hmk (vp_in_nI (by omega) (by decide))) d_M_blank_19 (fun H locs hP hD hS => ?_)
      replace hP : va_P (dC, dI) classes [(m0, .inr (6, oM ga uM cn sn cm us wt oc ou ow)), (ga 8, .inl (gc 8, 24, .inl (upd a8 (Int32.toNatClampNeg (((8 : Int32) * mi) + (nI i))) (0 : Int32)))), (ga 9, .inl (gc 9, 96, .inl a9)), (ga 10, .inl (gc 10, 3, .inl a10)), (ga 13, .inl (gc 13, 3, .inl a13)), (ga 14, .inl (gc 14, 3, .inl a14)), (ga 15, .inl (gc 15, 3, .inl a15)), (ga 16, .inl (gc 16, 3, .inl a16)), (ga 17, .inl (gc 17, 3, .inl a17))] H := hP
      replace hD : va_D A [(m0, .inr (6, oM ga uM cn sn cm us wt oc ou ow)), (ga 8, .inl (gc 8, 24, .inl (upd a8 (Int32.toNatClampNeg (((8 : Int32) * mi) + (nI i))) (0 : Int32)))), (ga 9, .inl (gc 9, 96, .inl a9)), (ga 10, .inl (gc 10, 3, .inl a10)), (ga 13, .inl (gc 13, 3, .inl a13)), (ga 14, .inl (gc 14, 3, .inl a14)), (ga 15, .inl (gc 15, 3, .inl a15)), (ga 16, .inl (gc 16, 3, .inl a16)), (ga 17, .inl (gc 17, 3, .inl a17))] := hD
      refine lv_iinc (k := 2) (v := nI (i + 1)) hx hb d_M_blank_20 hl rfl (nI_1 i) (by decide) rfl (fun ls hl => ?_)
      replace hl : lv_has ls 3 [(2, .int (nI (i + 1))), (0, .ref m0), (1, .int mi)] := hl
      refine lv_goto (tgt := 2) hx hb d_M_blank_23 rfl ?_
      have hSq : SP = s_M_blank_loop2 a9 a10 a13 a14 a15 a16 a17 mi n9 (i + 1) (upd a8 (Int32.toNatClampNeg (((8 : Int32) * mi) + (nI i))) (0 : Int32)) := by rw [hSq0, s_M_blank_loop2]; all_goals rfl
      replace hl := lv_sub hl (l' := [(0, .ref m0), (1, .int mi), (2, .int (nI (i + 1)))]) [1, 2, 0] rfl
      replace hP := hP.sub (ws' := [(m0, .inr (6, oM ga uM cn sn cm us wt oc ou ow)), (ga 8, .inl (gc 8, 24, .inl (upd a8 (Int32.toNatClampNeg (((8 : Int32) * mi) + (nI i))) (0 : Int32)))), (ga 9, .inl (gc 9, 96, .inl a9)), (ga 10, .inl (gc 10, 3, .inl a10)), (ga 13, .inl (gc 13, 3, .inl a13)), (ga 14, .inl (gc 14, 3, .inl a14)), (ga 15, .inl (gc 15, 3, .inl a15)), (ga 16, .inl (gc 16, 3, .inl a16)), (ga 17, .inl (gc 17, 3, .inl a17))]) [0, 1, 2, 3, 4, 5, 6, 7, 8] rfl
      replace hD := hD.sub (ws' := [(m0, .inr (6, oM ga uM cn sn cm us wt oc ou ow)), (ga 8, .inl (gc 8, 24, .inl (upd a8 (Int32.toNatClampNeg (((8 : Int32) * mi) + (nI i))) (0 : Int32)))), (ga 9, .inl (gc 9, 96, .inl a9)), (ga 10, .inl (gc 10, 3, .inl a10)), (ga 13, .inl (gc 13, 3, .inl a13)), (ga 14, .inl (gc 14, 3, .inl a14)), (ga 15, .inl (gc 15, 3, .inl a15)), (ga 16, .inl (gc 16, 3, .inl a16)), (ga 17, .inl (gc 17, 3, .inl a17))]) [0, 1, 2, 3, 4, 5, 6, 7, 8] (by decide) rfl
      exact ih (i + 1) (upd a8 (Int32.toNatClampNeg (((8 : Int32) * mi) + (nI i))) (0 : Int32)) _ _ _ (by omega) (by repeat' first | with_reducible assumption | with_reducible exact is16_0 | with_reducible exact is16_m _ | with_reducible exact set16' _ | with_reducible apply rgI_upd | with_reducible apply c3_upd | with_reducible apply o3_upd | exact Or.inl rfl | exact ⟨0, by with_reducible assumption, rfl⟩ | omega | assumption) hSq hl hP hD hS
  clear loop28
  refine lv_iconst (v := 0) hx hb d_M_blank_0 (by decide) ?_
  refine lv_istore_n hx hb d_M_blank_1 rfl hl (by decide) rfl (fun ls hl => ?_)
  replace hl : lv_has ls 3 [(2, .int 0), (0, .ref m0), (1, .int mi)] := hl
  have hSq : SP = s_M_blank_loop2 a9 a10 a13 a14 a15 a16 a17 mi 8 0 a8 := by rw [← hSP, s_M_blank]; all_goals rfl
  replace hl := lv_sub hl (l' := [(0, .ref m0), (1, .int mi), (2, .int 0)]) [1, 2, 0] rfl
  replace hP := hP.sub (ws' := [(m0, .inr (6, oM ga uM cn sn cm us wt oc ou ow)), (ga 8, .inl (gc 8, 24, .inl a8)), (ga 9, .inl (gc 9, 96, .inl a9)), (ga 10, .inl (gc 10, 3, .inl a10)), (ga 13, .inl (gc 13, 3, .inl a13)), (ga 14, .inl (gc 14, 3, .inl a14)), (ga 15, .inl (gc 15, 3, .inl a15)), (ga 16, .inl (gc 16, 3, .inl a16)), (ga 17, .inl (gc 17, 3, .inl a17))]) [0, 1, 2, 3, 4, 5, 6, 7, 8] rfl
  replace hD := hD.sub (ws' := [(m0, .inr (6, oM ga uM cn sn cm us wt oc ou ow)), (ga 8, .inl (gc 8, 24, .inl a8)), (ga 9, .inl (gc 9, 96, .inl a9)), (ga 10, .inl (gc 10, 3, .inl a10)), (ga 13, .inl (gc 13, 3, .inl a13)), (ga 14, .inl (gc 14, 3, .inl a14)), (ga 15, .inl (gc 15, 3, .inl a15)), (ga 16, .inl (gc 16, 3, .inl a16)), (ga 17, .inl (gc 17, 3, .inl a17))]) [0, 1, 2, 3, 4, 5, 6, 7, 8] (by decide) rfl
  exact loop2 8 0 a8 _ _ _ (by omega) (by repeat' first | with_reducible assumption | with_reducible exact is16_0 | with_reducible exact is16_m _ | with_reducible exact set16' _ | with_reducible apply rgI_upd | with_reducible apply c3_upd | with_reducible apply o3_upd | exact Or.inl rfl | exact ⟨0, by with_reducible assumption, rfl⟩ | omega | assumption) hSq hl hP hD hS

set_option maxHeartbeats 4000000 in
set_option maxRecDepth 100000 in
theorem c_M_canStart (l : Launch) (dC : Nat → ClassId) (dI : Nat → Nat → Nat) (m0 : Nat) (ga : Nat → Nat) (gc : Nat → ClassId) (uM : Nat → Int32) (cn : Nat) (sn : Nat) (cm : Nat) (us : Nat) (wt : Nat) (oc : Nat) (ou : Nat) (ow : Nat) (a2 : Nat → Int32) (hc : prI cn a2) : Met l y_M_canStart (tbw y_M_canStart b_M_canStart 3 (some .boolean)) ({ frames := 1, cells := 0, slots := 0, locals := 21 }) (va_Pc [.ref m0] (fun U => va_P (dC, dI) classes [(m0, .inr (6, oM ga uM cn sn cm us wt oc ou ow)), (ga 2, .inl (gc 2, 64, .inl a2))] U.heap ∧ va_K (dC, dI) classes [(gc 2, .int)] U)) (vp_Si (fun r => r = bI (crB cn a2))) 0 0 (fun _ => False) := by
  refine Met.ofW (cc := b_M_canStart) (maxL := 3) (ret := (some .boolean)) (by decide) rfl ?_
  intro p e s m args below meth c s₁ B hml hv
  obtain ⟨rfl, hP, hK⟩ := hv
  have hx := B.exec
  have hb := B.bytes
  have hr := B.returns
  have hts := atoms_spec (ws := (tbw y_M_canStart b_M_canStart 3 (some .boolean))) B.pre
  have hw : ∀ z9 ∈ tb, z9.before ([.ref m0] : List Value).toArray s = true := fun z9 h => hts z9 (List.mem_cons_of_mem _ h)
  have hown : s.vm.findClass "VotedTripleModel" = some m.cls := findClass_of_methodNamed B.named
  have hlocks := B.notSynchronized
  replace hl := lv_entry ([.ref m0]) (n := 3) (Nat.le_of_ble_eq_true rfl)
  rw [lg_entry_eq]
  generalize (lg_sl ([.ref m0]) ++ List.replicate (3 - (lg_sl ([.ref m0])).length) Slot.unset).toArray = ls at hl ⊢
  replace hl : lv_has ls 3 [(0, .ref m0)] := hl
  have loop : ∀ (n9 : Nat) (i : Nat) (ls : Array Slot), i + n9 = cn → (∀ j, j < i → bad cn (a2 j) = false) →  lv_has ls 3 [(0, .ref m0), (1, .int (nI i))] → W p l e (headSpec (tbw y_M_canStart b_M_canStart 3 (some .boolean)) ({ frames := 1, cells := 0, slots := 0, locals := 21 })).room s m ([.ref m0] : List Value).toArray below meth c s.heap [] 0 0 (MQ below (vp_Si (fun r => r = bI (crB cn a2))) ([.ref m0] : List Value).toArray s 0 0 (fun _ => False)) (F0 m 2 ls []) := by
    intro n9
    induction n9 with
    | zero =>
      intro i ls hn9 hall hl
      refine lv_iload_n hx hb d_M_canStart_2 rfl (lv_at hl 1 rfl) ?_
      refine lv_aload_n hx hb d_M_canStart_3 rfl (lv_at hl 0 rfl) ?_
      refine va_get (D := (dC, dI)) (ci := 6) (v := .int (nI cn)) (C := "VotedTripleModel") (T := F_M) (N := 37) hx hb hw in_M hown hK hP 0 rfl rfl 1 (by decide) (hw _ k_725) (fun _ h9 => h9) rfl d_M_canStart_4 ?_
      refine lv_icmp_ge (tgt := 74) hx hb d_M_canStart_7 rfl (fun hc1 => ?_) (fun hc1 => by first | exact absurd (by rw [show i = cn by omega]; exact Int32.le_refl _) hc1 | exact absurd hc1 (by rw [show i = cn by omega]; exact Int32.le_refl _))
      refine lv_aload_n hx hb d_M_canStart_74 rfl (lv_at hl 0 rfl) ?_
      refine va_get (D := (dC, dI)) (ci := 6) (v := .int (nI cn)) (C := "VotedTripleModel") (T := F_M) (N := 37) hx hb hw in_M hown hK hP 0 rfl rfl 1 (by decide) (hw _ k_725) (fun _ h9 => h9) rfl d_M_canStart_75 ?_
      refine lv_if_le (tgt := 85) hx hb d_M_canStart_78 rfl (fun hc2 => ?_) (fun hc2 => ?_)
      · --  (nI cn) ≤ 0
        refine lv_iconst (v := 0) hx hb d_M_canStart_85 (by decide) ?_
        exact W.zret (v := 0) (ty := .boolean) hx hb hr rfl (fun t ht _ => ⟨_, rfl, (by rw [crB_t (cn := cn) (f := a2) (fun j hj => hall j (by omega)), npos_nI hc.1 (by simpa using hc2)]; rfl), ht⟩) (fun _ h => by cases h) d_M_canStart_86
      · --  ¬ (nI cn) ≤ 0
        refine lv_iconst (v := 1) hx hb d_M_canStart_81 (by decide) ?_
        refine lv_goto (tgt := 86) hx hb d_M_canStart_82 rfl ?_
        exact W.zret (v := 1) (ty := .boolean) hx hb hr rfl (fun t ht _ => ⟨_, rfl, (by rw [crB_t (cn := cn) (f := a2) (fun j hj => hall j (by omega)), decide_eq_true (pos_nI hc.1 (by simpa using hc2))]; rfl), ht⟩) (fun _ h => by cases h) d_M_canStart_86
    | succ n9 ih =>
      intro i ls hn9 hall hl
      refine lv_iload_n hx hb d_M_canStart_2 rfl (lv_at hl 1 rfl) ?_
      refine lv_aload_n hx hb d_M_canStart_3 rfl (lv_at hl 0 rfl) ?_
      refine va_get (D := (dC, dI)) (ci := 6) (v := .int (nI cn)) (C := "VotedTripleModel") (T := F_M) (N := 37) hx hb hw in_M hown hK hP 0 rfl rfl 1 (by decide) (hw _ k_725) (fun _ h9 => h9) rfl d_M_canStart_4 ?_
      refine lv_icmp_ge (tgt := 74) hx hb d_M_canStart_7 rfl (fun hc3 => by first | exact absurd hc3 (fun h9 => absurd ((nI_leI (by have := hc.1; omega) (by have := hc.1; omega)).mp h9) (by omega)) | exact absurd (fun h9 => absurd ((nI_leI (by have := hc.1; omega) (by have := hc.1; omega)).mp h9) (by omega)) hc3) (fun hc3 => ?_)
      refine lv_aload_n hx hb d_M_canStart_10 rfl (lv_at hl 0 rfl) ?_
      refine va_get (D := (dC, dI)) (ci := 6) (v := .ref (ga 2)) (C := "VotedTripleModel") (T := F_M) (N := 37) hx hb hw in_M hown hK hP 0 rfl rfl 2 (by decide) (hw _ k_726) (fun _ h9 => h9) rfl d_M_canStart_11 ?_
      refine lv_iload_n hx hb d_M_canStart_14 rfl (lv_at hl 1 rfl) ?_
      refine va_iald hx hb hK hP 1 0 rfl rfl (vp_in_nI (by have := hc.1; omega) (by decide)) d_M_canStart_15 ?_
      refine vp_callSi (va_runS (As := [.int (a2 (Int32.toNatClampNeg (nI i)))]) (rest := []) ⟨hx, hb, hml, hown, hw⟩ (c_M_op l dC dI (a2 (Int32.toNatClampNeg (nI i)))) (va_cwS 1 hw (gdS (k_848) (k_846) (k_847) (k_8)) rfl rfl rfl (by decide +kernel) ⟨Nat.le_of_ble_eq_true rfl, Nat.le_of_ble_eq_true rfl⟩) ⟨fun _ _ _ _ q => q, fun _ _ _ => ⟨rfl, trivial⟩⟩ rfl rfl hl.1 rfl (lv_room (Nat.le_of_ble_eq_true rfl)) d_M_canStart_16 ⟨Nat.le_of_ble_eq_true rfl, Nat.le_of_ble_eq_true rfl⟩).run (fun r4 hr5 => ?_)
      subst hr5
      refine lv_istore_n hx hb d_M_canStart_19 rfl hl (by decide) rfl (fun ls hl => ?_)
      replace hl : lv_has ls 3 [(2, .int (ush (a2 (Int32.toNatClampNeg (nI i))) 24)), (0, .ref m0), (1, .int (nI i))] := hl
      refine lv_iload_n hx hb d_M_canStart_20 rfl (lv_at hl 0 rfl) ?_
      refine lv_bipush (v := 7) hx hb d_M_canStart_21 (by decide) ?_
      refine lv_icmp_ne (tgt := 43) hx hb d_M_canStart_23 rfl (fun hc6 => ?_) (fun hc6 => ?_)
      · --  ¬ (ush (a2 (Int32.toNatClampNeg (nI i))) 24) = 7
        refine lv_iload_n hx hb d_M_canStart_43 rfl (lv_at hl 0 rfl) ?_
        refine lv_bipush (v := 8) hx hb d_M_canStart_44 (by decide) ?_
        refine lv_icmp_ne (tgt := 68) hx hb d_M_canStart_46 rfl (fun hc7 => ?_) (fun hc7 => ?_)
        · --  ¬ (ush (a2 (Int32.toNatClampNeg (nI i))) 24) = 8
          refine lv_iinc (k := 2) (v := nI (i + 1)) hx hb d_M_canStart_68 hl rfl (nI_1 i) (by decide) rfl (fun ls hl => ?_)
          replace hl : lv_has ls 3 [(1, .int (nI (i + 1))), (2, .int (ush (a2 (Int32.toNatClampNeg (nI i))) 24)), (0, .ref m0)] := hl
          refine lv_goto (tgt := 2) hx hb d_M_canStart_71 rfl ?_
          replace hl := lv_sub hl (l' := [(0, .ref m0), (1, .int (nI (i + 1)))]) [2, 0] rfl
          exact ih (i + 1) _ (by omega) (bad_s hall (by have h9 := (bad_f (cn := cn) hc6 hc7); rwa [nI_clamp (by have := hc.1; omega)] at h9)) hl
        · --  (ush (a2 (Int32.toNatClampNeg (nI i))) 24) = 8
          refine lv_aload_n hx hb d_M_canStart_49 rfl (lv_at hl 1 rfl) ?_
          refine va_get (D := (dC, dI)) (ci := 6) (v := .ref (ga 2)) (C := "VotedTripleModel") (T := F_M) (N := 37) hx hb hw in_M hown hK hP 0 rfl rfl 2 (by decide) (hw _ k_726) (fun _ h9 => h9) rfl d_M_canStart_50 ?_
          refine lv_iload_n hx hb d_M_canStart_53 rfl (lv_at hl 2 rfl) ?_
          refine va_iald hx hb hK hP 1 0 rfl rfl (vp_in_nI (by have := hc.1; omega) (by decide)) d_M_canStart_54 ?_
          refine lv_iconst (v := 1) hx hb d_M_canStart_55 (by decide) ?_
          refine vp_callSi (va_runS (As := [.int (a2 (Int32.toNatClampNeg (nI i))), .int 1]) (rest := []) ⟨hx, hb, hml, hown, hw⟩ (c_M_part l dC dI (a2 (Int32.toNatClampNeg (nI i))) 1 8 (by decide)) (va_cwS 2 hw (gdS (k_845) (k_843) (k_844) (k_8)) rfl rfl rfl (by decide +kernel) ⟨Nat.le_of_ble_eq_true rfl, Nat.le_of_ble_eq_true rfl⟩) ⟨fun _ _ _ _ q => q, fun _ _ _ => ⟨rfl, trivial⟩⟩ rfl rfl hl.1 rfl (lv_room (Nat.le_of_ble_eq_true rfl)) d_M_canStart_56 ⟨Nat.le_of_ble_eq_true rfl, Nat.le_of_ble_eq_true rfl⟩).run (fun r8 hr9 => ?_)
          subst hr9
          refine lv_aload_n hx hb d_M_canStart_59 rfl (lv_at hl 1 rfl) ?_
          refine va_get (D := (dC, dI)) (ci := 6) (v := .int (nI cn)) (C := "VotedTripleModel") (T := F_M) (N := 37) hx hb hw in_M hown hK hP 0 rfl rfl 1 (by decide) (hw _ k_725) (fun _ h9 => h9) rfl d_M_canStart_60 ?_
          refine lv_icmp_lt (tgt := 68) hx hb d_M_canStart_63 rfl (fun hc10 => ?_) (fun hc10 => ?_)
          · --  (wB (a2 (Int32.toNatClampNeg (nI i)))) < (nI cn)
            refine lv_iinc (k := 2) (v := nI (i + 1)) hx hb d_M_canStart_68 hl rfl (nI_1 i) (by decide) rfl (fun ls hl => ?_)
            replace hl : lv_has ls 3 [(1, .int (nI (i + 1))), (2, .int (ush (a2 (Int32.toNatClampNeg (nI i))) 24)), (0, .ref m0)] := hl
            refine lv_goto (tgt := 2) hx hb d_M_canStart_71 rfl ?_
            replace hl := lv_sub hl (l' := [(0, .ref m0), (1, .int (nI (i + 1)))]) [2, 0] rfl
            exact ih (i + 1) _ (by omega) (bad_s hall (by have h9 := (bad_l hc10); rwa [nI_clamp (by have := hc.1; omega)] at h9)) hl
          · --  ¬ (wB (a2 (Int32.toNatClampNeg (nI i)))) < (nI cn)
            refine lv_iconst (v := 0) hx hb d_M_canStart_66 (by decide) ?_
            exact W.zret (v := 0) (ty := .boolean) hx hb hr rfl (fun t ht _ => ⟨_, rfl, (crB_f (i := i) (by omega) (by have h9 := (bad_8 hc7 (by first | exact hc10 | exact Int32.not_lt.mpr hc10)); rwa [nI_clamp (by have := hc.1; omega)] at h9)), ht⟩) (fun _ h => by cases h) d_M_canStart_67
      · --  (ush (a2 (Int32.toNatClampNeg (nI i))) 24) = 7
        refine lv_aload_n hx hb d_M_canStart_26 rfl (lv_at hl 1 rfl) ?_
        refine va_get (D := (dC, dI)) (ci := 6) (v := .ref (ga 2)) (C := "VotedTripleModel") (T := F_M) (N := 37) hx hb hw in_M hown hK hP 0 rfl rfl 2 (by decide) (hw _ k_726) (fun _ h9 => h9) rfl d_M_canStart_27 ?_
        refine lv_iload_n hx hb d_M_canStart_30 rfl (lv_at hl 2 rfl) ?_
        refine va_iald hx hb hK hP 1 0 rfl rfl (vp_in_nI (by have := hc.1; omega) (by decide)) d_M_canStart_31 ?_
        refine lv_iconst (v := 1) hx hb d_M_canStart_32 (by decide) ?_
        refine vp_callSi (va_runS (As := [.int (a2 (Int32.toNatClampNeg (nI i))), .int 1]) (rest := []) ⟨hx, hb, hml, hown, hw⟩ (c_M_part l dC dI (a2 (Int32.toNatClampNeg (nI i))) 1 8 (by decide)) (va_cwS 2 hw (gdS (k_845) (k_843) (k_844) (k_8)) rfl rfl rfl (by decide +kernel) ⟨Nat.le_of_ble_eq_true rfl, Nat.le_of_ble_eq_true rfl⟩) ⟨fun _ _ _ _ q => q, fun _ _ _ => ⟨rfl, trivial⟩⟩ rfl rfl hl.1 rfl (lv_room (Nat.le_of_ble_eq_true rfl)) d_M_canStart_33 ⟨Nat.le_of_ble_eq_true rfl, Nat.le_of_ble_eq_true rfl⟩).run (fun r11 hr12 => ?_)
        subst hr12
        refine lv_aload_n hx hb d_M_canStart_36 rfl (lv_at hl 1 rfl) ?_
        refine va_get (D := (dC, dI)) (ci := 6) (v := .int (nI cn)) (C := "VotedTripleModel") (T := F_M) (N := 37) hx hb hw in_M hown hK hP 0 rfl rfl 1 (by decide) (hw _ k_725) (fun _ h9 => h9) rfl d_M_canStart_37 ?_
        refine lv_icmp_ge (tgt := 66) hx hb d_M_canStart_40 rfl (fun hc13 => ?_) (fun hc13 => ?_)
        · --  (nI cn) ≤ (wB (a2 (Int32.toNatClampNeg (nI i))))
          refine lv_iconst (v := 0) hx hb d_M_canStart_66 (by decide) ?_
          exact W.zret (v := 0) (ty := .boolean) hx hb hr rfl (fun t ht _ => ⟨_, rfl, (crB_f (i := i) (by omega) (by have h9 := (bad_7 hc6 (by first | exact hc13 | exact Int32.not_lt.mpr hc13)); rwa [nI_clamp (by have := hc.1; omega)] at h9)), ht⟩) (fun _ h => by cases h) d_M_canStart_67
        · --  ¬ (nI cn) ≤ (wB (a2 (Int32.toNatClampNeg (nI i))))
          refine lv_iload_n hx hb d_M_canStart_43 rfl (lv_at hl 0 rfl) ?_
          refine lv_bipush (v := 8) hx hb d_M_canStart_44 (by decide) ?_
          refine lv_icmp_ne (tgt := 68) hx hb d_M_canStart_46 rfl (fun hc14 => ?_) (fun hc14 => ?_)
          · --  ¬ (ush (a2 (Int32.toNatClampNeg (nI i))) 24) = 8
            refine lv_iinc (k := 2) (v := nI (i + 1)) hx hb d_M_canStart_68 hl rfl (nI_1 i) (by decide) rfl (fun ls hl => ?_)
            replace hl : lv_has ls 3 [(1, .int (nI (i + 1))), (2, .int (ush (a2 (Int32.toNatClampNeg (nI i))) 24)), (0, .ref m0)] := hl
            refine lv_goto (tgt := 2) hx hb d_M_canStart_71 rfl ?_
            replace hl := lv_sub hl (l' := [(0, .ref m0), (1, .int (nI (i + 1)))]) [2, 0] rfl
            exact ih (i + 1) _ (by omega) (bad_s hall (by have h9 := (bad_l (Int32.not_le.mp hc13)); rwa [nI_clamp (by have := hc.1; omega)] at h9)) hl
          · --  (ush (a2 (Int32.toNatClampNeg (nI i))) 24) = 8
            refine lv_aload_n hx hb d_M_canStart_49 rfl (lv_at hl 1 rfl) ?_
            refine va_get (D := (dC, dI)) (ci := 6) (v := .ref (ga 2)) (C := "VotedTripleModel") (T := F_M) (N := 37) hx hb hw in_M hown hK hP 0 rfl rfl 2 (by decide) (hw _ k_726) (fun _ h9 => h9) rfl d_M_canStart_50 ?_
            refine lv_iload_n hx hb d_M_canStart_53 rfl (lv_at hl 2 rfl) ?_
            refine va_iald hx hb hK hP 1 0 rfl rfl (vp_in_nI (by have := hc.1; omega) (by decide)) d_M_canStart_54 ?_
            refine lv_iconst (v := 1) hx hb d_M_canStart_55 (by decide) ?_
            refine vp_callSi (va_runS (As := [.int (a2 (Int32.toNatClampNeg (nI i))), .int 1]) (rest := []) ⟨hx, hb, hml, hown, hw⟩ (c_M_part l dC dI (a2 (Int32.toNatClampNeg (nI i))) 1 8 (by decide)) (va_cwS 2 hw (gdS (k_845) (k_843) (k_844) (k_8)) rfl rfl rfl (by decide +kernel) ⟨Nat.le_of_ble_eq_true rfl, Nat.le_of_ble_eq_true rfl⟩) ⟨fun _ _ _ _ q => q, fun _ _ _ => ⟨rfl, trivial⟩⟩ rfl rfl hl.1 rfl (lv_room (Nat.le_of_ble_eq_true rfl)) d_M_canStart_56 ⟨Nat.le_of_ble_eq_true rfl, Nat.le_of_ble_eq_true rfl⟩).run (fun r15 hr16 => ?_)
            subst hr16
            refine lv_aload_n hx hb d_M_canStart_59 rfl (lv_at hl 1 rfl) ?_
            refine va_get (D := (dC, dI)) (ci := 6) (v := .int (nI cn)) (C := "VotedTripleModel") (T := F_M) (N := 37) hx hb hw in_M hown hK hP 0 rfl rfl 1 (by decide) (hw _ k_725) (fun _ h9 => h9) rfl d_M_canStart_60 ?_
            refine lv_icmp_lt (tgt := 68) hx hb d_M_canStart_63 rfl (fun hc17 => ?_) (fun hc17 => ?_)
            · --  (wB (a2 (Int32.toNatClampNeg (nI i)))) < (nI cn)
              refine lv_iinc (k := 2) (v := nI (i + 1)) hx hb d_M_canStart_68 hl rfl (nI_1 i) (by decide) rfl (fun ls hl => ?_)
              replace hl : lv_has ls 3 [(1, .int (nI (i + 1))), (2, .int (ush (a2 (Int32.toNatClampNeg (nI i))) 24)), (0, .ref m0)] := hl
              refine lv_goto (tgt := 2) hx hb d_M_canStart_71 rfl ?_
              replace hl := lv_sub hl (l' := [(0, .ref m0), (1, .int (nI (i + 1)))]) [2, 0] rfl
              exact ih (i + 1) _ (by omega) (bad_s hall (by have h9 := (bad_l (Int32.not_le.mp hc13)); rwa [nI_clamp (by have := hc.1; omega)] at h9)) hl
            · --  ¬ (wB (a2 (Int32.toNatClampNeg (nI i)))) < (nI cn)
              refine lv_iconst (v := 0) hx hb d_M_canStart_66 (by decide) ?_
              exact W.zret (v := 0) (ty := .boolean) hx hb hr rfl (fun t ht _ => ⟨_, rfl, (crB_f (i := i) (by omega) (by have h9 := (bad_8 hc14 (by first | exact hc17 | exact Int32.not_lt.mpr hc17)); rwa [nI_clamp (by have := hc.1; omega)] at h9)), ht⟩) (fun _ h => by cases h) d_M_canStart_67
  refine lv_iconst (v := 0) hx hb d_M_canStart_0 (by decide) ?_
  refine lv_istore_n hx hb d_M_canStart_1 rfl hl (by decide) rfl (fun ls hl => ?_)
  replace hl : lv_has ls 3 [(1, .int 0), (0, .ref m0)] := hl
  replace hl := lv_sub hl (l' := [(0, .ref m0), (1, .int 0)]) [1, 0] rfl
  exact loop cn 0 _ (by omega) (fun j hj => absurd hj (Nat.not_lt_zero j)) hl

set_option maxHeartbeats 4000000 in
set_option maxRecDepth 100000 in
theorem c_M_program (l : Launch) (dC : Nat → ClassId) (dI : Nat → Nat → Nat) (m0 : Nat) (ga : Nat → Nat) (gc : Nat → ClassId) (uM : Nat → Int32) (cn : Nat) (sn : Nat) (cm : Nat) (us : Nat) (wt : Nat) (oc : Nat) (ou : Nat) (ow : Nat) (a2 : Nat → Int32) (x : Int32) (y : Int32) (hc : prI cn a2) (sz : Nat) : Met l y_M_program (tbw y_M_program b_M_program 3 (some .boolean)) ({ frames := 2, cells := 0, slots := 0, locals := 44 }) (va_Pc [.ref m0, .int x, .int y] (fun U => U.heap.size = sz ∧ va_P (dC, dI) classes [(m0, .inr (6, oM ga uM cn sn cm us wt oc ou ow)), (ga 2, .inl (gc 2, 64, .inl a2))] U.heap ∧ va_K (dC, dI) classes [(gc 2, .int)] U ∧ va_D (fun _ => True) [(m0, .inr (6, oM ga uM cn sn cm us wt oc ou ow)), (ga 2, .inl (gc 2, 64, .inl a2))])) (va_Qi (fun (r : Int32) (u9 : Nat × (Nat → Int32) × Int32) => match u9 with | (cnn, a2n, y0) => (r = bI (mrB uM cn x y) ∧ prI cnn a2n ∧ cnn = pN (mrB uM cn x y) cn x ∧ a2n = pF (mrB uM cn x y) a2 x y) ∧ (r, cnn, a2n, y0) = s_M_program uM cn a2 x y) (fun (u9 : Nat × (Nat → Int32) × Int32) t => match u9 with | (cnn, a2n, y0) => va_P (dC, dI) classes [(m0, .inr (6, oM ga (upc uM 0 y0) cnn sn cm us wt oc ou ow)), (ga 2, .inl (gc 2, 64, .inl a2n))] t.heap ∧ va_K (dC, dI) classes [(gc 2, .int)] t ∧ va_D (va_A [(m0, .inr (6, oM ga uM cn sn cm us wt oc ou ow)), (ga 2, .inl (gc 2, 64, .inl a2))] sz) [(m0, .inr (6, oM ga (upc uM 0 y0) cnn sn cm us wt oc ou ow)), (ga 2, .inl (gc 2, 64, .inl a2n))]) (va_A [(m0, .inr (6, oM ga uM cn sn cm us wt oc ou ow)), (ga 2, .inl (gc 2, 64, .inl a2))] sz)) 0 0 (va_A [(m0, .inr (6, oM ga uM cn sn cm us wt oc ou ow)), (ga 2, .inl (gc 2, 64, .inl a2))] sz) := by
  refine Met.ofW (cc := b_M_program) (maxL := 3) (ret := (some .boolean)) (by decide) rfl ?_
  intro p e s m args below meth c s₁ B hml hv
  obtain ⟨rfl, hsz, hP, hK, hD0⟩ := hv
  have hx := B.exec
  have hb := B.bytes
  have hr := B.returns
  have hts := atoms_spec (ws := (tbw y_M_program b_M_program 3 (some .boolean))) B.pre
  have hw : ∀ z9 ∈ tb, z9.before ([.ref m0, .int x, .int y] : List Value).toArray s = true := fun z9 h => hts z9 (List.mem_cons_of_mem _ h)
  have hown : s.vm.findClass "VotedTripleModel" = some m.cls := findClass_of_methodNamed B.named
  have hlocks := B.notSynchronized
  subst hsz
  replace hD := hD0.self (sz := s.heap.size)
  generalize hAe : va_A [(m0, .inr (6, oM ga uM cn sn cm us wt oc ou ow)), (ga 2, .inl (gc 2, 64, .inl a2))] s.heap.size = A at hD ⊢
  have hA : ∀ q : Nat, s.heap.size ≤ q → A q := fun q h => by rw [← hAe]; exact Or.inr h
  have hS : va_S A s.heap s.heap [] := va_S.rf
  replace hl := lv_entry ([.ref m0, .int x, .int y]) (n := 3) (Nat.le_of_ble_eq_true rfl)
  rw [lg_entry_eq]
  generalize (lg_sl ([.ref m0, .int x, .int y]) ++ List.replicate (3 - (lg_sl ([.ref m0, .int x, .int y])).length) Slot.unset).toArray = ls at hl ⊢
  replace hl : lv_has ls 3 [(0, .ref m0), (1, .int x), (2, .int y)] := hl
  generalize hSP : s_M_program uM cn a2 x y = SP
  refine lv_aload_n hx hb d_M_program_0 rfl (lv_at hl 0 rfl) ?_
  refine lv_iconst (v := 0) hx hb d_M_program_1 (by decide) ?_
  refine va_put (D := (dC, dI)) (ci := 6) (v := .int 0) (ty := .int) (C := "VotedTripleModel") (T := F_M) (N := 37) hx hb hw in_M ft_M tyok_M nm_M hown hK hP hD hS 0 rfl rfl 0 (by decide) (hw _ k_724) (fun _ h9 => h9) rfl (by decide +kernel) rfl rfl (Nat.le_of_ble_eq_true rfl) d_M_program_2 (fun H locs hP hD hS => ?_)
  replace hP : va_P (dC, dI) classes [(m0, .inr (6, [.int 0, .int (nI cn), .ref (ga 2), .int (uM 3), .int (uM 4), .int (uM 5), .int (nI sn), .int (uM 7), .ref (ga 8), .ref (ga 9), .ref (ga 10), .ref (ga 11), .ref (ga 12), .ref (ga 13), .ref (ga 14), .ref (ga 15), .ref (ga 16), .ref (ga 17), .ref (ga 18), .ref (ga 19), .ref (ga 20), .ref (ga 21), .ref (ga 22), .ref (ga 23), .int (uM 24), .int (uM 25), .int (nI cm), .int (nI us), .ref (ga 28), .int (nI wt), .ref (ga 30), .ref (ga 31), .ref (ga 32), .int (nI oc), .int (nI ou), .int (nI ow), .ref (ga 36)])), (ga 2, .inl (gc 2, 64, .inl a2))] H := hP
  replace hD : va_D A [(m0, .inr (6, [.int 0, .int (nI cn), .ref (ga 2), .int (uM 3), .int (uM 4), .int (uM 5), .int (nI sn), .int (uM 7), .ref (ga 8), .ref (ga 9), .ref (ga 10), .ref (ga 11), .ref (ga 12), .ref (ga 13), .ref (ga 14), .ref (ga 15), .ref (ga 16), .ref (ga 17), .ref (ga 18), .ref (ga 19), .ref (ga 20), .ref (ga 21), .ref (ga 22), .ref (ga 23), .int (uM 24), .int (uM 25), .int (nI cm), .int (nI us), .ref (ga 28), .int (nI wt), .ref (ga 30), .ref (ga 31), .ref (ga 32), .int (nI oc), .int (nI ou), .int (nI ow), .ref (ga 36)])), (ga 2, .inl (gc 2, 64, .inl a2))] := hD
  refine lv_aload_n hx hb d_M_program_5 rfl (lv_at hl 0 rfl) ?_
  refine va_get (D := (dC, dI)) (ci := 6) (v := .int (uM 3)) (C := "VotedTripleModel") (T := F_M) (N := 37) hx hb hw in_M hown hK hP 0 rfl rfl 3 (by decide) (hw _ k_727) (fun _ h9 => h9) rfl d_M_program_6 ?_
  refine lv_if_ne (tgt := 37) hx hb d_M_program_9 rfl (fun hc1 => ?_) (fun hc1 => ?_)
  · --  ¬ (uM 3) = 0
    refine lv_iconst (v := 0) hx hb d_M_program_37 (by decide) ?_
    have b9 : mrB uM cn x y = false := by simp [mrB, putB, i63, hc1]
    have hP9 := hP.sub (ws' := [(m0, .inr (6, oM ga (upc uM 0 0) cn sn cm us wt oc ou ow)), (ga 2, .inl (gc 2, 64, .inl a2))]) [0, 1] rfl
    have hD9 := hD.sub (ws' := [(m0, .inr (6, oM ga (upc uM 0 0) cn sn cm us wt oc ou ow)), (ga 2, .inl (gc 2, 64, .inl a2))]) [0, 1] (by decide) rfl
    have hK9 := hK.sub (tys' := [(gc 2, .int)]) [0] rfl
    refine W.widen (k := 0) (n := 0) (Nat.le_of_ble_eq_true rfl) (Nat.le_of_ble_eq_true rfl) ?_
    exact W.zret (v := 0) (ty := .boolean) hx hb hr rfl (fun t ht hW => ⟨⟨_, (cn, a2, 0), rfl, ⟨⟨by rw [b9]; rfl, hc, by rw [b9]; simp [pN], by rw [b9]; rfl⟩, (by rw [← hSP, s_M_program]; try (rw [if_neg hc1]); all_goals rfl)⟩, by rw [ht]; exact hP9, va_K.moved hW.alike hK9, hD9⟩, hS.F ht⟩) hS.2.2 d_M_program_38
  · --  (uM 3) = 0
    refine lv_iload_n hx hb d_M_program_12 rfl (lv_at hl 1 rfl) ?_
    refine lv_if_lt (tgt := 37) hx hb d_M_program_13 rfl (fun hc2 => ?_) (fun hc2 => ?_)
    · --  x < 0
      refine lv_iconst (v := 0) hx hb d_M_program_37 (by decide) ?_
      have b9 : mrB uM cn x y = false := by simp [mrB, putB, i63, hc1, hc2]
      have hP9 := hP.sub (ws' := [(m0, .inr (6, oM ga (upc uM 0 0) cn sn cm us wt oc ou ow)), (ga 2, .inl (gc 2, 64, .inl a2))]) [0, 1] rfl
      have hD9 := hD.sub (ws' := [(m0, .inr (6, oM ga (upc uM 0 0) cn sn cm us wt oc ou ow)), (ga 2, .inl (gc 2, 64, .inl a2))]) [0, 1] (by decide) rfl
      have hK9 := hK.sub (tys' := [(gc 2, .int)]) [0] rfl
      refine W.widen (k := 0) (n := 0) (Nat.le_of_ble_eq_true rfl) (Nat.le_of_ble_eq_true rfl) ?_
      exact W.zret (v := 0) (ty := .boolean) hx hb hr rfl (fun t ht hW => ⟨⟨_, (cn, a2, 0), rfl, ⟨⟨by rw [b9]; rfl, hc, by rw [b9]; simp [pN], by rw [b9]; rfl⟩, (by rw [← hSP, s_M_program]; try (rw [if_pos hc1]); try (rw [if_pos hc2]); all_goals rfl)⟩, by rw [ht]; exact hP9, va_K.moved hW.alike hK9, hD9⟩, hS.F ht⟩) hS.2.2 d_M_program_38
    · --  ¬ x < 0
      refine lv_iload_n hx hb d_M_program_16 rfl (lv_at hl 1 rfl) ?_
      refine lv_aload_n hx hb d_M_program_17 rfl (lv_at hl 0 rfl) ?_
      refine va_get (D := (dC, dI)) (ci := 6) (v := .int (nI cn)) (C := "VotedTripleModel") (T := F_M) (N := 37) hx hb hw in_M hown hK hP 0 rfl rfl 1 (by decide) (hw _ k_725) (fun _ h9 => h9) rfl d_M_program_18 ?_
      refine lv_icmp_gt (tgt := 37) hx hb d_M_program_21 rfl (fun hc3 => ?_) (fun hc3 => ?_)
      · --  (nI cn) < x
        refine lv_iconst (v := 0) hx hb d_M_program_37 (by decide) ?_
        have b9 : mrB uM cn x y = false := by simp [mrB, putB, i63, hc1, hc2, hc3]
        have hP9 := hP.sub (ws' := [(m0, .inr (6, oM ga (upc uM 0 0) cn sn cm us wt oc ou ow)), (ga 2, .inl (gc 2, 64, .inl a2))]) [0, 1] rfl
        have hD9 := hD.sub (ws' := [(m0, .inr (6, oM ga (upc uM 0 0) cn sn cm us wt oc ou ow)), (ga 2, .inl (gc 2, 64, .inl a2))]) [0, 1] (by decide) rfl
        have hK9 := hK.sub (tys' := [(gc 2, .int)]) [0] rfl
        refine W.widen (k := 0) (n := 0) (Nat.le_of_ble_eq_true rfl) (Nat.le_of_ble_eq_true rfl) ?_
        exact W.zret (v := 0) (ty := .boolean) hx hb hr rfl (fun t ht hW => ⟨⟨_, (cn, a2, 0), rfl, ⟨⟨by rw [b9]; rfl, hc, by rw [b9]; simp [pN], by rw [b9]; rfl⟩, (by rw [← hSP, s_M_program]; try (rw [if_pos hc1]); try (rw [if_neg hc2]); try (rw [if_pos hc3]); all_goals rfl)⟩, by rw [ht]; exact hP9, va_K.moved hW.alike hK9, hD9⟩, hS.F ht⟩) hS.2.2 d_M_program_38
      · --  ¬ (nI cn) < x
        refine lv_iload_n hx hb d_M_program_24 rfl (lv_at hl 1 rfl) ?_
        refine lv_bipush (v := 63) hx hb d_M_program_25 (by decide) ?_
        refine lv_icmp_gt (tgt := 37) hx hb d_M_program_27 rfl (fun hc4 => ?_) (fun hc4 => ?_)
        · --  63 < x
          refine lv_iconst (v := 0) hx hb d_M_program_37 (by decide) ?_
          have b9 : mrB uM cn x y = false := by simp [mrB, putB, i63, hc1, hc2, hc3, hc4]
          have hP9 := hP.sub (ws' := [(m0, .inr (6, oM ga (upc uM 0 0) cn sn cm us wt oc ou ow)), (ga 2, .inl (gc 2, 64, .inl a2))]) [0, 1] rfl
          have hD9 := hD.sub (ws' := [(m0, .inr (6, oM ga (upc uM 0 0) cn sn cm us wt oc ou ow)), (ga 2, .inl (gc 2, 64, .inl a2))]) [0, 1] (by decide) rfl
          have hK9 := hK.sub (tys' := [(gc 2, .int)]) [0] rfl
          refine W.widen (k := 0) (n := 0) (Nat.le_of_ble_eq_true rfl) (Nat.le_of_ble_eq_true rfl) ?_
          exact W.zret (v := 0) (ty := .boolean) hx hb hr rfl (fun t ht hW => ⟨⟨_, (cn, a2, 0), rfl, ⟨⟨by rw [b9]; rfl, hc, by rw [b9]; simp [pN], by rw [b9]; rfl⟩, (by rw [← hSP, s_M_program]; try (rw [if_pos hc1]); try (rw [if_neg hc2]); try (rw [if_neg hc3]); try (rw [if_pos hc4]); all_goals rfl)⟩, by rw [ht]; exact hP9, va_K.moved hW.alike hK9, hD9⟩, hS.F ht⟩) hS.2.2 d_M_program_38
        · --  ¬ 63 < x
          refine lv_iload_n hx hb d_M_program_30 rfl (lv_at hl 2 rfl) ?_
          refine vp_callSi (va_runS (As := [.int y]) (rest := []) ⟨hx, hb, hml, hown, hw⟩ (c_M_isRight l dC dI y) (va_cwS 1 hw (gdS (k_842) (k_840) (k_841) (k_8)) rfl rfl rfl (by decide +kernel) ⟨Nat.le_of_ble_eq_true rfl, Nat.le_of_ble_eq_true rfl⟩) ⟨fun _ _ _ _ q => q, fun _ _ _ => ⟨rfl, trivial⟩⟩ rfl rfl hl.1 rfl (lv_room (Nat.le_of_ble_eq_true rfl)) d_M_program_31 ⟨Nat.le_of_ble_eq_true rfl, Nat.le_of_ble_eq_true rfl⟩).run (fun r5 hr6 => ?_)
          subst hr6
          refine lv_if_ne (tgt := 39) hx hb d_M_program_34 rfl (fun hc7 => ?_) (fun hc7 => ?_)
          · --  ¬ (bI (isIn y)) = 0
            refine lv_aload_n hx hb d_M_program_39 rfl (lv_at hl 0 rfl) ?_
            refine va_get (D := (dC, dI)) (ci := 6) (v := .ref (ga 2)) (C := "VotedTripleModel") (T := F_M) (N := 37) hx hb hw in_M hown hK hP 0 rfl rfl 2 (by decide) (hw _ k_726) (fun _ h9 => h9) rfl d_M_program_40 ?_
            refine lv_iload_n hx hb d_M_program_43 rfl (lv_at hl 1 rfl) ?_
            refine lv_iload_n hx hb d_M_program_44 rfl (lv_at hl 2 rfl) ?_
            refine va_iast hx hb hK hP hD hS 1 0 rfl rfl (in_of2 (N := 63) rfl hc2 hc4) d_M_program_45 (fun H locs hP hD hS => ?_)
            replace hP : va_P (dC, dI) classes [(m0, .inr (6, [.int 0, .int (nI cn), .ref (ga 2), .int (uM 3), .int (uM 4), .int (uM 5), .int (nI sn), .int (uM 7), .ref (ga 8), .ref (ga 9), .ref (ga 10), .ref (ga 11), .ref (ga 12), .ref (ga 13), .ref (ga 14), .ref (ga 15), .ref (ga 16), .ref (ga 17), .ref (ga 18), .ref (ga 19), .ref (ga 20), .ref (ga 21), .ref (ga 22), .ref (ga 23), .int (uM 24), .int (uM 25), .int (nI cm), .int (nI us), .ref (ga 28), .int (nI wt), .ref (ga 30), .ref (ga 31), .ref (ga 32), .int (nI oc), .int (nI ou), .int (nI ow), .ref (ga 36)])), (ga 2, .inl (gc 2, 64, .inl (upd a2 (Int32.toNatClampNeg x) y)))] H := hP
            replace hD : va_D A [(m0, .inr (6, [.int 0, .int (nI cn), .ref (ga 2), .int (uM 3), .int (uM 4), .int (uM 5), .int (nI sn), .int (uM 7), .ref (ga 8), .ref (ga 9), .ref (ga 10), .ref (ga 11), .ref (ga 12), .ref (ga 13), .ref (ga 14), .ref (ga 15), .ref (ga 16), .ref (ga 17), .ref (ga 18), .ref (ga 19), .ref (ga 20), .ref (ga 21), .ref (ga 22), .ref (ga 23), .int (uM 24), .int (uM 25), .int (nI cm), .int (nI us), .ref (ga 28), .int (nI wt), .ref (ga 30), .ref (ga 31), .ref (ga 32), .int (nI oc), .int (nI ou), .int (nI ow), .ref (ga 36)])), (ga 2, .inl (gc 2, 64, .inl (upd a2 (Int32.toNatClampNeg x) y)))] := hD
            refine lv_iload_n hx hb d_M_program_46 rfl (lv_at hl 1 rfl) ?_
            refine lv_aload_n hx hb d_M_program_47 rfl (lv_at hl 0 rfl) ?_
            refine va_get (D := (dC, dI)) (ci := 6) (v := .int (nI cn)) (C := "VotedTripleModel") (T := F_M) (N := 37) hx hb hw in_M hown hK hP 0 rfl rfl 1 (by decide) (hw _ k_725) (fun _ h9 => h9) rfl d_M_program_48 ?_
            refine lv_icmp_ne (tgt := 64) hx hb d_M_program_51 rfl (fun hc8 => ?_) (fun hc8 => ?_)
            · --  ¬ x = (nI cn)
              refine lv_iconst (v := 1) hx hb d_M_program_64 (by decide) ?_
              have b9 : mrB uM cn x y = true := by simp [mrB, putB, i63, hc1, hc2, hc3, hc4, bI_t hc7]
              have b8 : putB cn x y = true := by simpa [mrB, hc1] using b9
              have hP9 := hP.sub (ws' := [(m0, .inr (6, oM ga (upc uM 0 0) cn sn cm us wt oc ou ow)), (ga 2, .inl (gc 2, 64, .inl (upd a2 (Int32.toNatClampNeg x) y)))]) [0, 1] rfl
              have hD9 := hD.sub (ws' := [(m0, .inr (6, oM ga (upc uM 0 0) cn sn cm us wt oc ou ow)), (ga 2, .inl (gc 2, 64, .inl (upd a2 (Int32.toNatClampNeg x) y)))]) [0, 1] (by decide) rfl
              have hK9 := hK.sub (tys' := [(gc 2, .int)]) [0] rfl
              refine W.widen (k := 0) (n := 0) (Nat.le_of_ble_eq_true rfl) (Nat.le_of_ble_eq_true rfl) ?_
              exact W.zret (v := 1) (ty := .boolean) hx hb hr rfl (fun t ht hW => ⟨⟨_, (cn, upd a2 (Int32.toNatClampNeg x) y, 0), rfl, ⟨⟨by rw [b9]; rfl, (by have h9 := prI_put (i := x) (w := y) hc; rw [b8] at h9; simpa [pN, pF, hc8] using h9), by rw [b9]; simp [pN, hc8], by rw [b9]; rfl⟩, (by rw [← hSP, s_M_program]; try (rw [if_pos hc1]); try (rw [if_neg hc2]); try (rw [if_neg hc3]); try (rw [if_neg hc4]); try (rw [if_neg hc7]); try (rw [if_neg hc8]); all_goals rfl)⟩, by rw [ht]; exact hP9, va_K.moved hW.alike hK9, hD9⟩, hS.F ht⟩) hS.2.2 d_M_program_65
            · --  x = (nI cn)
              refine lv_aload_n hx hb d_M_program_54 rfl (lv_at hl 0 rfl) ?_
              refine lv_dup hx hb d_M_program_55 rfl ?_
              refine va_get (D := (dC, dI)) (ci := 6) (v := .int (nI cn)) (C := "VotedTripleModel") (T := F_M) (N := 37) hx hb hw in_M hown hK hP 0 rfl rfl 1 (by decide) (hw _ k_725) (fun _ h9 => h9) rfl d_M_program_56 ?_
              refine lv_iconst (v := 1) hx hb d_M_program_59 (by decide) ?_
              refine lv_iadd hx hb d_M_program_60 ?_
              rw [nI_1 cn]
              refine va_put (D := (dC, dI)) (ci := 6) (v := .int (nI (cn + 1))) (ty := .int) (C := "VotedTripleModel") (T := F_M) (N := 37) hx hb hw in_M ft_M tyok_M nm_M hown hK hP hD hS 0 rfl rfl 1 (by decide) (hw _ k_725) (fun _ h9 => h9) rfl (by decide +kernel) rfl rfl (Nat.le_of_ble_eq_true rfl) d_M_program_61 (fun H locs hP hD hS => ?_)
              replace hP : va_P (dC, dI) classes [(m0, .inr (6, [.int 0, .int (nI (cn + 1)), .ref (ga 2), .int (uM 3), .int (uM 4), .int (uM 5), .int (nI sn), .int (uM 7), .ref (ga 8), .ref (ga 9), .ref (ga 10), .ref (ga 11), .ref (ga 12), .ref (ga 13), .ref (ga 14), .ref (ga 15), .ref (ga 16), .ref (ga 17), .ref (ga 18), .ref (ga 19), .ref (ga 20), .ref (ga 21), .ref (ga 22), .ref (ga 23), .int (uM 24), .int (uM 25), .int (nI cm), .int (nI us), .ref (ga 28), .int (nI wt), .ref (ga 30), .ref (ga 31), .ref (ga 32), .int (nI oc), .int (nI ou), .int (nI ow), .ref (ga 36)])), (ga 2, .inl (gc 2, 64, .inl (upd a2 (Int32.toNatClampNeg x) y)))] H := hP
              replace hD : va_D A [(m0, .inr (6, [.int 0, .int (nI (cn + 1)), .ref (ga 2), .int (uM 3), .int (uM 4), .int (uM 5), .int (nI sn), .int (uM 7), .ref (ga 8), .ref (ga 9), .ref (ga 10), .ref (ga 11), .ref (ga 12), .ref (ga 13), .ref (ga 14), .ref (ga 15), .ref (ga 16), .ref (ga 17), .ref (ga 18), .ref (ga 19), .ref (ga 20), .ref (ga 21), .ref (ga 22), .ref (ga 23), .int (uM 24), .int (uM 25), .int (nI cm), .int (nI us), .ref (ga 28), .int (nI wt), .ref (ga 30), .ref (ga 31), .ref (ga 32), .int (nI oc), .int (nI ou), .int (nI ow), .ref (ga 36)])), (ga 2, .inl (gc 2, 64, .inl (upd a2 (Int32.toNatClampNeg x) y)))] := hD
              refine lv_iconst (v := 1) hx hb d_M_program_64 (by decide) ?_
              have b9 : mrB uM cn x y = true := by simp [mrB, putB, i63, hc1, hc2, hc3, hc4, bI_t hc7]
              have b8 : putB cn x y = true := by simpa [mrB, hc1] using b9
              have hP9 := hP.sub (ws' := [(m0, .inr (6, oM ga (upc uM 0 0) (cn + 1) sn cm us wt oc ou ow)), (ga 2, .inl (gc 2, 64, .inl (upd a2 (Int32.toNatClampNeg x) y)))]) [0, 1] rfl
              have hD9 := hD.sub (ws' := [(m0, .inr (6, oM ga (upc uM 0 0) (cn + 1) sn cm us wt oc ou ow)), (ga 2, .inl (gc 2, 64, .inl (upd a2 (Int32.toNatClampNeg x) y)))]) [0, 1] (by decide) rfl
              have hK9 := hK.sub (tys' := [(gc 2, .int)]) [0] rfl
              refine W.widen (k := 0) (n := 0) (Nat.le_of_ble_eq_true rfl) (Nat.le_of_ble_eq_true rfl) ?_
              exact W.zret (v := 1) (ty := .boolean) hx hb hr rfl (fun t ht hW => ⟨⟨_, (cn + 1, upd a2 (Int32.toNatClampNeg x) y, 0), rfl, ⟨⟨by rw [b9]; rfl, (by have h9 := prI_put (i := x) (w := y) hc; rw [b8] at h9; simpa [pN, pF, hc8] using h9), by rw [b9]; simp [pN, hc8], by rw [b9]; rfl⟩, (by rw [← hSP, s_M_program]; try (rw [if_pos hc1]); try (rw [if_neg hc2]); try (rw [if_neg hc3]); try (rw [if_neg hc4]); try (rw [if_neg hc7]); try (rw [if_pos hc8]); all_goals rfl)⟩, by rw [ht]; exact hP9, va_K.moved hW.alike hK9, hD9⟩, hS.F ht⟩) hS.2.2 d_M_program_65
          · --  (bI (isIn y)) = 0
            refine lv_iconst (v := 0) hx hb d_M_program_37 (by decide) ?_
            have b9 : mrB uM cn x y = false := by simp [mrB, putB, i63, hc1, hc2, hc3, hc4, bI_f hc7]
            have hP9 := hP.sub (ws' := [(m0, .inr (6, oM ga (upc uM 0 0) cn sn cm us wt oc ou ow)), (ga 2, .inl (gc 2, 64, .inl a2))]) [0, 1] rfl
            have hD9 := hD.sub (ws' := [(m0, .inr (6, oM ga (upc uM 0 0) cn sn cm us wt oc ou ow)), (ga 2, .inl (gc 2, 64, .inl a2))]) [0, 1] (by decide) rfl
            have hK9 := hK.sub (tys' := [(gc 2, .int)]) [0] rfl
            refine W.widen (k := 0) (n := 0) (Nat.le_of_ble_eq_true rfl) (Nat.le_of_ble_eq_true rfl) ?_
            exact W.zret (v := 0) (ty := .boolean) hx hb hr rfl (fun t ht hW => ⟨⟨_, (cn, a2, 0), rfl, ⟨⟨by rw [b9]; rfl, hc, by rw [b9]; simp [pN], by rw [b9]; rfl⟩, (by rw [← hSP, s_M_program]; try (rw [if_pos hc1]); try (rw [if_neg hc2]); try (rw [if_neg hc3]); try (rw [if_neg hc4]); try (rw [if_pos hc7]); all_goals rfl)⟩, by rw [ht]; exact hP9, va_K.moved hW.alike hK9, hD9⟩, hS.F ht⟩) hS.2.2 d_M_program_38
