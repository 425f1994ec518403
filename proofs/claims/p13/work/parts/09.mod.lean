set_option maxHeartbeats 4000000 in
set_option maxRecDepth 100000 in
theorem c_D_findsSpoilt (l : Launch) (dC : Nat → ClassId) (dI : Nat → Nat → Nat) (h0 r9 k9 : Nat) (F : Nat → Int32) (ck : ClassId) (cd : Nat → Int32) (x : Int32) (hpl : vp_in x 32) (t9 : Nat) (sz : Nat) : Met l y_D_findsSpoilt (tbw y_D_findsSpoilt b_D_findsSpoilt 3 (some .boolean)) ({ frames := 2, cells := 0, slots := 0, locals := 42 }) (va_Pc [.ref h0, .int x] (fun U => U.heap.size = sz ∧ va_P (dC, dI) classes [(h0, .inr (2, oD F r9 k9)), (k9, .inl (ck, 32, .inl cd))] U.heap ∧ va_K (dC, dI) classes [(ck, .int)] U ∧ va_D (fun _ => True) [(h0, .inr (2, oD F r9 k9)), (k9, .inl (ck, 32, .inl cd))] ∧ cb t9 (va_A [(h0, .inr (2, oD F r9 k9)), (k9, .inl (ck, 32, .inl cd))] sz) U U.heap)) (va_Qi (fun (r : Int32) (u9 : Int32 × (Nat → Int32)) => match u9 with | (x13, cd2) => (True) ∧ (r, x13, cd2) = s_D_findsSpoilt F cd x) (fun (u9 : Int32 × (Nat → Int32)) t => match u9 with | (x13, cd2) => va_P (dC, dI) classes [(h0, .inr (2, oD (upc F 13 x13) r9 k9)), (k9, .inl (ck, 32, .inl cd2))] t.heap ∧ va_K (dC, dI) classes [(ck, .int)] t ∧ va_D (va_A [(h0, .inr (2, oD F r9 k9)), (k9, .inl (ck, 32, .inl cd))] sz) [(h0, .inr (2, oD (upc F 13 x13) r9 k9)), (k9, .inl (ck, 32, .inl cd2))]) (va_A [(h0, .inr (2, oD F r9 k9)), (k9, .inl (ck, 32, .inl cd))] sz)) 0 0 (va_A [(h0, .inr (2, oD F r9 k9)), (k9, .inl (ck, 32, .inl cd))] sz) := by
  refine Met.ofW (cc := b_D_findsSpoilt) (maxL := 3) (ret := (some .boolean)) (by decide) rfl ?_
  intro p e s m args below meth c s₁ B hml hv
  obtain ⟨rfl, hsz, hP, hK, hD0, hcb⟩ := hv
  have hx := B.exec
  have hb := B.bytes
  have hr := B.returns
  have hts := atoms_spec (ws := (tbw y_D_findsSpoilt b_D_findsSpoilt 3 (some .boolean))) B.pre
  have hw : ∀ z9 ∈ tb, z9.before ([.ref h0, .int x] : List Value).toArray s = true := fun z9 h => hts z9 (List.mem_cons_of_mem _ h)
  have hown : s.vm.findClass "VotedTriple$VotedModule" = some m.cls := findClass_of_methodNamed B.named
  have hlocks := B.notSynchronized
  subst hsz
  replace hD := hD0.self (sz := s.heap.size)
  generalize hAe : va_A [(h0, .inr (2, oD F r9 k9)), (k9, .inl (ck, 32, .inl cd))] s.heap.size = A at hD hcb ⊢
  have hA : ∀ q : Nat, s.heap.size ≤ q → A q := fun q h => by rw [← hAe]; exact Or.inr h
  have hS : va_S A s.heap s.heap [] := va_S.rf
  replace hl := lv_entry ([.ref h0, .int x]) (n := 3) (Nat.le_of_ble_eq_true rfl)
  rw [lg_entry_eq]
  generalize (lg_sl ([.ref h0, .int x]) ++ List.replicate (3 - (lg_sl ([.ref h0, .int x])).length) Slot.unset).toArray = ls at hl ⊢
  replace hl : lv_has ls 3 [(0, .ref h0), (1, .int x)] := hl
  generalize hSP : s_D_findsSpoilt F cd x = SP
  refine lv_aload_n hx hb d_D_findsSpoilt_0 rfl (lv_at hl 0 rfl) ?_
  refine va_get (D := (dC, dI)) (ci := 2) (v := .ref k9) (C := "VotedTriple$VotedModule") (T := F_D) (N := 19) hx hb hw in_D hown hK hP 0 rfl rfl 7 (by decide) (hw _ k_140) (fun _ h9 => h9) rfl d_D_findsSpoilt_1 ?_
  refine lv_iload_n hx hb d_D_findsSpoilt_4 rfl (lv_at hl 1 rfl) ?_
  refine va_iald hx hb hK hP 1 0 rfl rfl hpl d_D_findsSpoilt_5 ?_
  replace hPc := hP.sub (ws' := []) [] rfl
  replace hKc := hK.sub (tys' := []) [] rfl
  refine vp_callSi (va_runS (As := [.int (cd (Int32.toNatClampNeg x))]) (rest := []) ⟨hx, hb, hml, hown, hw⟩ (c_K_exclusiveOr l dC dI t9 (cd (Int32.toNatClampNeg x))) (va_cwS 1 hw (gdS (k_282) (k_526) (k_281) (k_9)) rfl rfl rfl (by decide +kernel) ⟨Nat.le_of_ble_eq_true rfl, Nat.le_of_ble_eq_true rfl⟩) ⟨fun a U g mk q => ⟨q.1, q.2.1, va_K.moved (u := U) (U := U.calling g mk a) (Vm.Alike.refl U.vm) q.2.2.1, cb_vm (u := U) (U := U.calling g mk a) rfl q.2.2.2⟩, fun U hU hW => ⟨rfl, by rw [hU]; exact hPc, va_K.moved hW.alike hKc, by rw [hU]; exact cb_narrow (cb_warm hW (cb_kept hcb (fun a h1 h2 => hS.2.1 a h1 h2))) (fun _ h => h.elim)⟩⟩ rfl rfl hl.1 rfl (lv_room (Nat.le_of_ble_eq_true rfl)) d_D_findsSpoilt_6 ⟨Nat.le_of_ble_eq_true rfl, Nat.le_of_ble_eq_true rfl⟩).run (fun r1 hr2 => ?_)
  obtain ⟨hr2, hr2E⟩ := hr2
  refine lv_istore_n hx hb d_D_findsSpoilt_9 rfl hl (by decide) rfl (fun ls hl => ?_)
  replace hl : lv_has ls 3 [(2, .int r1), (0, .ref h0), (1, .int x)] := hl
  refine lv_aload_n hx hb d_D_findsSpoilt_10 rfl (lv_at hl 1 rfl) ?_
  refine va_get (D := (dC, dI)) (ci := 2) (v := .ref k9) (C := "VotedTriple$VotedModule") (T := F_D) (N := 19) hx hb hw in_D hown hK hP 0 rfl rfl 7 (by decide) (hw _ k_140) (fun _ h9 => h9) rfl d_D_findsSpoilt_11 ?_
  refine lv_iload_n hx hb d_D_findsSpoilt_14 rfl (lv_at hl 2 rfl) ?_
  refine va_iald hx hb hK hP 1 0 rfl rfl hpl d_D_findsSpoilt_15 ?_
  refine vp_callSi (va_runS (As := [.int (cd (Int32.toNatClampNeg x))]) (rest := []) ⟨hx, hb, hml, hown, hw⟩ (c_I_bitCount l dC dI (cd (Int32.toNatClampNeg x))) (va_cwS 1 hw (gdS (k_287) (k_527) (k_286) (k_10)) rfl rfl rfl (by decide +kernel) ⟨Nat.le_of_ble_eq_true rfl, Nat.le_of_ble_eq_true rfl⟩) ⟨fun _ _ _ _ q => q, fun _ _ _ => ⟨rfl, trivial⟩⟩ rfl rfl hl.1 rfl (lv_room (Nat.le_of_ble_eq_true rfl)) d_D_findsSpoilt_16 ⟨Nat.le_of_ble_eq_true rfl, Nat.le_of_ble_eq_true rfl⟩).run (fun r3 hr4 => ?_)
  obtain ⟨hr4, hr4E⟩ := hr4
  refine lv_iconst (v := 1) hx hb d_D_findsSpoilt_19 (by decide) ?_
  refine lv_iand hx hb d_D_findsSpoilt_20 ?_
  refine lv_if_ne (tgt := 34) hx hb d_D_findsSpoilt_21 rfl (fun hc5 => ?_) (fun hc5 => ?_)
  · --  ¬ (r3 &&& (1 : Int32)) = 0
    refine lv_iload_n hx hb d_D_findsSpoilt_34 rfl (lv_at hl 0 rfl) ?_
    refine lv_bipush (v := 22) hx hb d_D_findsSpoilt_35 (by decide) ?_
    refine lv_icmp_lt (tgt := 42) hx hb d_D_findsSpoilt_37 rfl (fun hc6 => ?_) (fun hc6 => ?_)
    · --  r1 < 22
      refine lv_aload_n hx hb d_D_findsSpoilt_42 rfl (lv_at hl 1 rfl) ?_
      refine va_get (D := (dC, dI)) (ci := 2) (v := .ref k9) (C := "VotedTriple$VotedModule") (T := F_D) (N := 19) hx hb hw in_D hown hK hP 0 rfl rfl 7 (by decide) (hw _ k_140) (fun _ h9 => h9) rfl d_D_findsSpoilt_43 ?_
      refine lv_iload_n hx hb d_D_findsSpoilt_46 rfl (lv_at hl 2 rfl) ?_
      refine lv_dup2_11 hx hb d_D_findsSpoilt_47 rfl rfl ?_
      refine va_iald hx hb hK hP 1 0 rfl rfl hpl d_D_findsSpoilt_48 ?_
      refine lv_iconst (v := 1) hx hb d_D_findsSpoilt_49 (by decide) ?_
      refine lv_iload_n hx hb d_D_findsSpoilt_50 rfl (lv_at hl 0 rfl) ?_
      refine lv_ishl hx hb d_D_findsSpoilt_51 ?_
      refine lv_ixor hx hb d_D_findsSpoilt_52 ?_
      refine va_iast hx hb hK hP hD hS 1 0 rfl rfl hpl d_D_findsSpoilt_53 (fun H locs hP hD hS => ?_)
      replace hP : va_P (dC, dI) classes [(h0, .inr (2, oD F r9 k9)), (k9, .inl (ck, 32, .inl (upd cd (Int32.toNatClampNeg x) ((cd (Int32.toNatClampNeg x)) ^^^ ((1 : Int32) <<< (r1 &&& 31))))))] H := hP
      replace hD : va_D A [(h0, .inr (2, oD F r9 k9)), (k9, .inl (ck, 32, .inl (upd cd (Int32.toNatClampNeg x) ((cd (Int32.toNatClampNeg x)) ^^^ ((1 : Int32) <<< (r1 &&& 31))))))] := hD
      refine lv_aload_n hx hb d_D_findsSpoilt_54 rfl (lv_at hl 1 rfl) ?_
      refine lv_dup hx hb d_D_findsSpoilt_55 rfl ?_
      refine va_get (D := (dC, dI)) (ci := 2) (v := .int (F 13)) (C := "VotedTriple$VotedModule") (T := F_D) (N := 19) hx hb hw in_D hown hK hP 0 rfl rfl 13 (by decide) (hw _ k_152) (fun _ h9 => h9) rfl d_D_findsSpoilt_56 ?_
      refine lv_iconst (v := 1) hx hb d_D_findsSpoilt_59 (by decide) ?_
      refine lv_iadd hx hb d_D_findsSpoilt_60 ?_
      refine va_put (D := (dC, dI)) (ci := 2) (v := .int ((F 13) + (1 : Int32))) (ty := .int) (C := "VotedTriple$VotedModule") (T := F_D) (N := 19) hx hb hw in_D ft_D tyok_D nm_D hown hK hP hD hS 0 rfl rfl 13 (by decide) (hw _ k_152) (fun _ h9 => h9) rfl (by decide +kernel) rfl rfl (Nat.le_of_ble_eq_true rfl) d_D_findsSpoilt_61 (fun H locs hP hD hS => ?_)
      replace hP : va_P (dC, dI) classes [(h0, .inr (2, [.ref r9, .int (F 1), .int (F 2), .int (F 3), .int (F 4), .int (F 5), .int (F 6), .ref k9, .int (F 8), .int (F 9), .int (F 10), .int (F 11), .int (F 12), .int ((F 13) + (1 : Int32)), .int (F 14), .int (F 15), .int (F 16), .int (F 17), .int (F 18)])), (k9, .inl (ck, 32, .inl (upd cd (Int32.toNatClampNeg x) ((cd (Int32.toNatClampNeg x)) ^^^ ((1 : Int32) <<< (r1 &&& 31))))))] H := hP
      replace hD : va_D A [(h0, .inr (2, [.ref r9, .int (F 1), .int (F 2), .int (F 3), .int (F 4), .int (F 5), .int (F 6), .ref k9, .int (F 8), .int (F 9), .int (F 10), .int (F 11), .int (F 12), .int ((F 13) + (1 : Int32)), .int (F 14), .int (F 15), .int (F 16), .int (F 17), .int (F 18)])), (k9, .inl (ck, 32, .inl (upd cd (Int32.toNatClampNeg x) ((cd (Int32.toNatClampNeg x)) ^^^ ((1 : Int32) <<< (r1 &&& 31))))))] := hD
      refine lv_iconst (v := 0) hx hb d_D_findsSpoilt_64 (by decide) ?_
      have hP9 := hP.sub (ws' := [(h0, .inr (2, oD (upc F 13 ((F 13) + (1 : Int32))) r9 k9)), (k9, .inl (ck, 32, .inl (upd cd (Int32.toNatClampNeg x) ((cd (Int32.toNatClampNeg x)) ^^^ ((1 : Int32) <<< (r1 &&& 31))))))]) [0, 1] rfl
      have hD9 := hD.sub (ws' := [(h0, .inr (2, oD (upc F 13 ((F 13) + (1 : Int32))) r9 k9)), (k9, .inl (ck, 32, .inl (upd cd (Int32.toNatClampNeg x) ((cd (Int32.toNatClampNeg x)) ^^^ ((1 : Int32) <<< (r1 &&& 31))))))]) [0, 1] (by decide) rfl
      have hK9 := hK.sub (tys' := [(ck, .int)]) [0] rfl
      refine W.widen (k := 0) (n := 0) (Nat.le_of_ble_eq_true rfl) (Nat.le_of_ble_eq_true rfl) ?_
      exact W.zret (v := 0) (ty := .boolean) hx hb hr rfl (fun t ht hW => ⟨⟨_, ((F 13) + (1 : Int32), upd cd (Int32.toNatClampNeg x) ((cd (Int32.toNatClampNeg x)) ^^^ ((1 : Int32) <<< (r1 &&& 31)))), rfl, ⟨trivial, (by rw [← hSP, s_D_findsSpoilt]; try (rw [← hr2E, bnd_eq]); try (rw [← hr4E, bnd_eq]); try (rw [if_neg hc5]); try (rw [if_pos hc6]); all_goals rfl)⟩, by rw [ht]; exact hP9, va_K.moved hW.alike hK9, hD9⟩, hS.F ht⟩) hS.2.2 d_D_findsSpoilt_65
    · --  ¬ r1 < 22
      refine lv_iconst (v := 1) hx hb d_D_findsSpoilt_40 (by decide) ?_
      have hP9 := hP.sub (ws' := [(h0, .inr (2, oD (upc F 13 (F 13)) r9 k9)), (k9, .inl (ck, 32, .inl cd))]) [0, 1] rfl
      have hD9 := hD.sub (ws' := [(h0, .inr (2, oD (upc F 13 (F 13)) r9 k9)), (k9, .inl (ck, 32, .inl cd))]) [0, 1] (by decide) rfl
      have hK9 := hK.sub (tys' := [(ck, .int)]) [0] rfl
      refine W.widen (k := 0) (n := 0) (Nat.le_of_ble_eq_true rfl) (Nat.le_of_ble_eq_true rfl) ?_
      exact W.zret (v := 1) (ty := .boolean) hx hb hr rfl (fun t ht hW => ⟨⟨_, (F 13, cd), rfl, ⟨trivial, (by rw [← hSP, s_D_findsSpoilt]; try (rw [← hr2E, bnd_eq]); try (rw [← hr4E, bnd_eq]); try (rw [if_neg hc5]); try (rw [if_neg hc6]); all_goals rfl)⟩, by rw [ht]; exact hP9, va_K.moved hW.alike hK9, hD9⟩, hS.F ht⟩) hS.2.2 d_D_findsSpoilt_41
  · --  (r3 &&& (1 : Int32)) = 0
    refine lv_iload_n hx hb d_D_findsSpoilt_24 rfl (lv_at hl 0 rfl) ?_
    refine lv_if_eq (tgt := 32) hx hb d_D_findsSpoilt_25 rfl (fun hc7 => ?_) (fun hc7 => ?_)
    · --  r1 = 0
      refine lv_iconst (v := 0) hx hb d_D_findsSpoilt_32 (by decide) ?_
      have hP9 := hP.sub (ws' := [(h0, .inr (2, oD (upc F 13 (F 13)) r9 k9)), (k9, .inl (ck, 32, .inl cd))]) [0, 1] rfl
      have hD9 := hD.sub (ws' := [(h0, .inr (2, oD (upc F 13 (F 13)) r9 k9)), (k9, .inl (ck, 32, .inl cd))]) [0, 1] (by decide) rfl
      have hK9 := hK.sub (tys' := [(ck, .int)]) [0] rfl
      refine W.widen (k := 0) (n := 0) (Nat.le_of_ble_eq_true rfl) (Nat.le_of_ble_eq_true rfl) ?_
      exact W.zret (v := 0) (ty := .boolean) hx hb hr rfl (fun t ht hW => ⟨⟨_, (F 13, cd), rfl, ⟨trivial, (by rw [← hSP, s_D_findsSpoilt]; try (rw [← hr2E, bnd_eq]); try (rw [← hr4E, bnd_eq]); try (rw [if_pos hc5]); try (rw [if_pos hc7]); all_goals rfl)⟩, by rw [ht]; exact hP9, va_K.moved hW.alike hK9, hD9⟩, hS.F ht⟩) hS.2.2 d_D_findsSpoilt_33
    · --  ¬ r1 = 0
      refine lv_iconst (v := 1) hx hb d_D_findsSpoilt_28 (by decide) ?_
      refine lv_goto (tgt := 33) hx hb d_D_findsSpoilt_29 rfl ?_
      have hP9 := hP.sub (ws' := [(h0, .inr (2, oD (upc F 13 (F 13)) r9 k9)), (k9, .inl (ck, 32, .inl cd))]) [0, 1] rfl
      have hD9 := hD.sub (ws' := [(h0, .inr (2, oD (upc F 13 (F 13)) r9 k9)), (k9, .inl (ck, 32, .inl cd))]) [0, 1] (by decide) rfl
      have hK9 := hK.sub (tys' := [(ck, .int)]) [0] rfl
      refine W.widen (k := 0) (n := 0) (Nat.le_of_ble_eq_true rfl) (Nat.le_of_ble_eq_true rfl) ?_
      exact W.zret (v := 1) (ty := .boolean) hx hb hr rfl (fun t ht hW => ⟨⟨_, (F 13, cd), rfl, ⟨trivial, (by rw [← hSP, s_D_findsSpoilt]; try (rw [← hr2E, bnd_eq]); try (rw [← hr4E, bnd_eq]); try (rw [if_pos hc5]); try (rw [if_neg hc7]); all_goals rfl)⟩, by rw [ht]; exact hP9, va_K.moved hW.alike hK9, hD9⟩, hS.F ht⟩) hS.2.2 d_D_findsSpoilt_33

set_option maxHeartbeats 4000000 in
set_option maxRecDepth 100000 in
theorem c_D_writeWord (l : Launch) (dC : Nat → ClassId) (dI : Nat → Nat → Nat) (h0 r9 k9 : Nat) (F : Nat → Int32) (ck : ClassId) (cd : Nat → Int32) (x y : Int32) (hpl : vp_in x 32) (t9 : Nat) (sz : Nat) : Met l y_D_writeWord (tbw y_D_writeWord b_D_writeWord 3 none) ({ frames := 3, cells := 0, slots := 0, locals := 65 }) (va_Pc [.ref h0, .int x, .int y] (fun U => U.heap.size = sz ∧ va_P (dC, dI) classes [(h0, .inr (2, oD F r9 k9)), (k9, .inl (ck, 32, .inl cd))] U.heap ∧ va_K (dC, dI) classes [(ck, .int)] U ∧ va_D (fun _ => True) [(h0, .inr (2, oD F r9 k9)), (k9, .inl (ck, 32, .inl cd))] ∧ cb t9 (va_A [(h0, .inr (2, oD F r9 k9)), (k9, .inl (ck, 32, .inl cd))] sz) U U.heap)) (va_Qv (fun (u9 : (Nat → Int32)) => match u9 with | cd2 => (True) ∧ (cd2) = s_D_writeWord cd x y) (fun (u9 : (Nat → Int32)) t => match u9 with | cd2 => va_P (dC, dI) classes [(h0, .inr (2, oD F r9 k9)), (k9, .inl (ck, 32, .inl cd2))] t.heap ∧ va_K (dC, dI) classes [(ck, .int)] t ∧ va_D (va_A [(h0, .inr (2, oD F r9 k9)), (k9, .inl (ck, 32, .inl cd))] sz) [(h0, .inr (2, oD F r9 k9)), (k9, .inl (ck, 32, .inl cd2))]) (va_A [(h0, .inr (2, oD F r9 k9)), (k9, .inl (ck, 32, .inl cd))] sz)) 0 0 (va_A [(h0, .inr (2, oD F r9 k9)), (k9, .inl (ck, 32, .inl cd))] sz) := by
  refine Met.ofW (cc := b_D_writeWord) (maxL := 3) (ret := none) (by decide) rfl ?_
  intro p e s m args below meth c s₁ B hml hv
  obtain ⟨rfl, hsz, hP, hK, hD0, hcb⟩ := hv
  have hx := B.exec
  have hb := B.bytes
  have hr := B.returns
  have hts := atoms_spec (ws := (tbw y_D_writeWord b_D_writeWord 3 none)) B.pre
  have hw : ∀ z9 ∈ tb, z9.before ([.ref h0, .int x, .int y] : List Value).toArray s = true := fun z9 h => hts z9 (List.mem_cons_of_mem _ h)
  have hown : s.vm.findClass "VotedTriple$VotedModule" = some m.cls := findClass_of_methodNamed B.named
  have hlocks := B.notSynchronized
  subst hsz
  replace hD := hD0.self (sz := s.heap.size)
  generalize hAe : va_A [(h0, .inr (2, oD F r9 k9)), (k9, .inl (ck, 32, .inl cd))] s.heap.size = A at hD hcb ⊢
  have hA : ∀ q : Nat, s.heap.size ≤ q → A q := fun q h => by rw [← hAe]; exact Or.inr h
  have hS : va_S A s.heap s.heap [] := va_S.rf
  replace hl := lv_entry ([.ref h0, .int x, .int y]) (n := 3) (Nat.le_of_ble_eq_true rfl)
  rw [lg_entry_eq]
  generalize (lg_sl ([.ref h0, .int x, .int y]) ++ List.replicate (3 - (lg_sl ([.ref h0, .int x, .int y])).length) Slot.unset).toArray = ls at hl ⊢
  replace hl : lv_has ls 3 [(0, .ref h0), (1, .int x), (2, .int y)] := hl
  generalize hSP : s_D_writeWord cd x y = SP
  refine lv_aload_n hx hb d_D_writeWord_0 rfl (lv_at hl 0 rfl) ?_
  refine va_get (D := (dC, dI)) (ci := 2) (v := .ref k9) (C := "VotedTriple$VotedModule") (T := F_D) (N := 19) hx hb hw in_D hown hK hP 0 rfl rfl 7 (by decide) (hw _ k_140) (fun _ h9 => h9) rfl d_D_writeWord_1 ?_
  refine lv_iload_n hx hb d_D_writeWord_4 rfl (lv_at hl 1 rfl) ?_
  refine lv_iload_n hx hb d_D_writeWord_5 rfl (lv_at hl 2 rfl) ?_
  replace hPc := hP.sub (ws' := []) [] rfl
  replace hKc := hK.sub (tys' := []) [] rfl
  refine vp_callSi (va_runS (As := [.int y]) (rest := [.int x, .ref k9]) ⟨hx, hb, hml, hown, hw⟩ (c_K_ofWord l dC dI t9 y) (va_cwS 1 hw (gdS (k_278) (k_276) (k_277) (k_9)) rfl rfl rfl (by decide +kernel) ⟨Nat.le_of_ble_eq_true rfl, Nat.le_of_ble_eq_true rfl⟩) ⟨fun a U g mk q => ⟨q.1, q.2.1, va_K.moved (u := U) (U := U.calling g mk a) (Vm.Alike.refl U.vm) q.2.2.1, cb_vm (u := U) (U := U.calling g mk a) rfl q.2.2.2⟩, fun U hU hW => ⟨rfl, by rw [hU]; exact hPc, va_K.moved hW.alike hKc, by rw [hU]; exact cb_narrow (cb_warm hW (cb_kept hcb (fun a h1 h2 => hS.2.1 a h1 h2))) (fun _ h => h.elim)⟩⟩ rfl rfl hl.1 rfl (lv_room (Nat.le_of_ble_eq_true rfl)) d_D_writeWord_6 ⟨Nat.le_of_ble_eq_true rfl, Nat.le_of_ble_eq_true rfl⟩).run (fun r1 hr2 => ?_)
  obtain ⟨hr2, hr2E⟩ := hr2
  refine va_iast hx hb hK hP hD hS 1 0 rfl rfl hpl d_D_writeWord_9 (fun H locs hP hD hS => ?_)
  replace hP : va_P (dC, dI) classes [(h0, .inr (2, oD F r9 k9)), (k9, .inl (ck, 32, .inl (upd cd (Int32.toNatClampNeg x) r1)))] H := hP
  replace hD : va_D A [(h0, .inr (2, oD F r9 k9)), (k9, .inl (ck, 32, .inl (upd cd (Int32.toNatClampNeg x) r1)))] := hD
  have hP9 := hP.sub (ws' := [(h0, .inr (2, oD F r9 k9)), (k9, .inl (ck, 32, .inl (upd cd (Int32.toNatClampNeg x) r1)))]) [0, 1] rfl
  have hD9 := hD.sub (ws' := [(h0, .inr (2, oD F r9 k9)), (k9, .inl (ck, 32, .inl (upd cd (Int32.toNatClampNeg x) r1)))]) [0, 1] (by decide) rfl
  have hK9 := hK.sub (tys' := [(ck, .int)]) [0] rfl
  refine W.widen (k := 0) (n := 0) (Nat.le_of_ble_eq_true rfl) (Nat.le_of_ble_eq_true rfl) ?_
  exact W.vret hx hb hr (fun t ht hW => ⟨⟨(upd cd (Int32.toNatClampNeg x) r1), rfl, ⟨trivial, (by rw [← hSP, s_D_writeWord]; try (rw [← hr2E, bnd_eq]); all_goals rfl)⟩, by rw [ht]; exact hP9, va_K.moved hW.alike hK9, hD9⟩, hS.F ht⟩) hS.2.2 d_D_writeWord_10

set_option maxHeartbeats 4000000 in
set_option maxRecDepth 100000 in
theorem c_D_readWord (l : Launch) (dC : Nat → ClassId) (dI : Nat → Nat → Nat) (h0 r9 k9 : Nat) (F : Nat → Int32) (ck : ClassId) (cd : Nat → Int32) (x : Int32) (hpl : vp_in x 32) (t9 : Nat) (sz : Nat) : Met l y_D_readWord (tbw y_D_readWord b_D_readWord 2 (some .int)) ({ frames := 3, cells := 0, slots := 0, locals := 64 }) (va_Pc [.ref h0, .int x] (fun U => U.heap.size = sz ∧ va_P (dC, dI) classes [(h0, .inr (2, oD F r9 k9)), (k9, .inl (ck, 32, .inl cd))] U.heap ∧ va_K (dC, dI) classes [(ck, .int)] U ∧ va_D (fun _ => True) [(h0, .inr (2, oD F r9 k9)), (k9, .inl (ck, 32, .inl cd))] ∧ cb t9 (va_A [(h0, .inr (2, oD F r9 k9)), (k9, .inl (ck, 32, .inl cd))] sz) U U.heap)) (va_Qi (fun (r : Int32) (u9 : (Nat → Int32) × (Nat → Int32)) => match u9 with | (F2, cd2) => (is16 r ∧ agr F F2) ∧ (r, F2, cd2) = s_D_readWord F cd x) (fun (u9 : (Nat → Int32) × (Nat → Int32)) t => match u9 with | (F2, cd2) => va_P (dC, dI) classes [(h0, .inr (2, oD F2 r9 k9)), (k9, .inl (ck, 32, .inl cd2))] t.heap ∧ va_K (dC, dI) classes [(ck, .int)] t ∧ va_D (va_A [(h0, .inr (2, oD F r9 k9)), (k9, .inl (ck, 32, .inl cd))] sz) [(h0, .inr (2, oD F2 r9 k9)), (k9, .inl (ck, 32, .inl cd2))]) (va_A [(h0, .inr (2, oD F r9 k9)), (k9, .inl (ck, 32, .inl cd))] sz)) 0 0 (va_A [(h0, .inr (2, oD F r9 k9)), (k9, .inl (ck, 32, .inl cd))] sz) := by
  refine Met.ofW (cc := b_D_readWord) (maxL := 2) (ret := (some .int)) (by decide) rfl ?_
  intro p e s m args below meth c s₁ B hml hv
  obtain ⟨rfl, hsz, hP, hK, hD0, hcb⟩ := hv
  have hx := B.exec
  have hb := B.bytes
  have hr := B.returns
  have hts := atoms_spec (ws := (tbw y_D_readWord b_D_readWord 2 (some .int))) B.pre
  have hw : ∀ z9 ∈ tb, z9.before ([.ref h0, .int x] : List Value).toArray s = true := fun z9 h => hts z9 (List.mem_cons_of_mem _ h)
  have hown : s.vm.findClass "VotedTriple$VotedModule" = some m.cls := findClass_of_methodNamed B.named
  have hlocks := B.notSynchronized
  subst hsz
  replace hD := hD0.self (sz := s.heap.size)
  generalize hAe : va_A [(h0, .inr (2, oD F r9 k9)), (k9, .inl (ck, 32, .inl cd))] s.heap.size = A at hD hcb ⊢
  have hA : ∀ q : Nat, s.heap.size ≤ q → A q := fun q h => by rw [← hAe]; exact Or.inr h
  have hS : va_S A s.heap s.heap [] := va_S.rf
  replace hl := lv_entry ([.ref h0, .int x]) (n := 2) (Nat.le_of_ble_eq_true rfl)
  rw [lg_entry_eq]
  generalize (lg_sl ([.ref h0, .int x]) ++ List.replicate (2 - (lg_sl ([.ref h0, .int x])).length) Slot.unset).toArray = ls at hl ⊢
  replace hl : lv_has ls 2 [(0, .ref h0), (1, .int x)] := hl
  generalize hSP : s_D_readWord F cd x = SP
  refine lv_aload_n hx hb d_D_readWord_0 rfl (lv_at hl 0 rfl) ?_
  refine lv_iload_n hx hb d_D_readWord_1 rfl (lv_at hl 1 rfl) ?_
  replace hPc := hP.sub (ws' := [(h0, .inr (2, oD F r9 k9)), (k9, .inl (ck, 32, .inl cd))]) [0, 1] rfl
  replace hKc := hK.sub (tys' := [(ck, .int)]) [0] rfl
  replace hDc := hD.sub (ws' := [(h0, .inr (2, oD F r9 k9)), (k9, .inl (ck, 32, .inl cd))]) [0, 1] (by decide) rfl
  replace hFc := va_free (wc := [(h0, .inr (2, oD F r9 k9)), (k9, .inl (ck, 32, .inl cd))]) hD hS hA [0, 1] rfl
  refine va_calli (va_runV (C := "VotedTriple$VotedModule") (As := [.int x]) (rest := []) ⟨hx, hb, hml, hown, hw⟩ (c_D_findsSpoilt l dC dI h0 r9 k9 F ck cd x hpl t9 s.heap.size) (cwV 1 hw (gdV (k_525) (k_522) (k_523) (k_524) (k_7)) rfl rfl rfl (by decide +kernel) ⟨Nat.le_of_ble_eq_true rfl, Nat.le_of_ble_eq_true rfl⟩) ⟨fun a U g mk q => by obtain ⟨q0, q1, qP, qK, qD, qB⟩ := q; exact ⟨q0, q1, qP, va_K.moved (u := U) (U := U.calling g mk a) (Vm.Alike.refl U.vm) qK, qD, cb_vm (u := U) (U := U.calling g mk a) rfl qB⟩, va_recv hK hP rfl (q0 := 0) rfl, fun U hU hW => ⟨rfl, by rw [hU], by rw [hU]; exact hPc, va_K.moved hW.alike hKc, hDc.weaken (fun _ _ _ _ => trivial), by rw [hU]; exact cb_narrow (cb_warm hW (cb_kept hcb (fun a h1 h2 => hS.2.1 a h1 h2))) hFc⟩⟩ rfl rfl hl.1 rfl (lv_room (Nat.le_of_ble_eq_true rfl)) d_D_readWord_2 ⟨Nat.le_of_ble_eq_true rfl, Nat.le_of_ble_eq_true rfl⟩) hS (fun q _ h => hFc q h) hFc (fun r1 u9 t H1 locs ht hvm hr2 hB hz1 hk1 hS => ?_)
  obtain ⟨x133, cd24⟩ := u9
  obtain ⟨hP1, hK1, hD1⟩ := hB
  rw [ht] at hP1
  replace hK1 := va_K.moved hvm.symm hK1
  try dsimp only at hr2 hP1 hK1 hD1
  obtain ⟨hr2, hr2E⟩ := hr2
  obtain ⟨hPz, hDz⟩ := va_join (wr := []) (w1 := [(h0, .inr (2, oD (upc F 13 x133) r9 k9)), (k9, .inl (ck, 32, .inl cd24))]) hP hD [0, 1] [] rfl rfl (by decide) (by decide) hk1 hFc hP1 hD1
  clear hP hD hPc hDc hP1 hD1 hFc
  have hP := hPz
  have hD := hDz
  clear hPz hDz
  replace hK := (hK.sub (tys' := []) [] rfl).app hK1
  clear hK1 hKc
  generalize H1 = H at hP hS ⊢
  replace hP : va_P (dC, dI) classes [(h0, .inr (2, oD (upc F 13 x133) r9 k9)), (k9, .inl (ck, 32, .inl cd24))] H := hP
  replace hD : va_D A [(h0, .inr (2, oD (upc F 13 x133) r9 k9)), (k9, .inl (ck, 32, .inl cd24))] := hD
  replace hK : va_K (dC, dI) classes [(ck, .int)] s := hK
  refine W.widen (k := 0) (n := 0) (Nat.le_of_ble_eq_true rfl) (Nat.le_of_ble_eq_true rfl) ?_
  refine lv_if_eq (tgt := 15) hx hb d_D_readWord_5 rfl (fun hc5 => ?_) (fun hc5 => ?_)
  · --  r1 = 0
    refine lv_aload_n hx hb d_D_readWord_15 rfl (lv_at hl 0 rfl) ?_
    refine va_get (D := (dC, dI)) (ci := 2) (v := .ref k9) (C := "VotedTriple$VotedModule") (T := F_D) (N := 19) hx hb hw in_D hown hK hP 0 rfl rfl 7 (by decide) (hw _ k_140) (fun _ h9 => h9) rfl d_D_readWord_16 ?_
    refine lv_iload_n hx hb d_D_readWord_19 rfl (lv_at hl 1 rfl) ?_
    refine va_iald hx hb hK hP 1 0 rfl rfl hpl d_D_readWord_20 ?_
    refine vp_callSi (va_runS (As := [.int (cd24 (Int32.toNatClampNeg x))]) (rest := []) ⟨hx, hb, hml, hown, hw⟩ (c_K_wordOf l dC dI (cd24 (Int32.toNatClampNeg x))) (va_cwS 1 hw (gdS (k_530) (k_528) (k_529) (k_9)) rfl rfl rfl (by decide +kernel) ⟨Nat.le_of_ble_eq_true rfl, Nat.le_of_ble_eq_true rfl⟩) ⟨fun _ _ _ _ q => q, fun _ _ _ => ⟨rfl, trivial⟩⟩ rfl rfl hl.1 rfl (lv_room (Nat.le_of_ble_eq_true rfl)) d_D_readWord_21 ⟨Nat.le_of_ble_eq_true rfl, Nat.le_of_ble_eq_true rfl⟩).run (fun r6 hr7 => ?_)
    obtain ⟨hr7, hr7E⟩ := hr7
    have hP9 := hP.sub (ws' := [(h0, .inr (2, oD (upc F 13 x133) r9 k9)), (k9, .inl (ck, 32, .inl cd24))]) [0, 1] rfl
    have hD9 := hD.sub (ws' := [(h0, .inr (2, oD (upc F 13 x133) r9 k9)), (k9, .inl (ck, 32, .inl cd24))]) [0, 1] (by decide) rfl
    have hK9 := hK.sub (tys' := [(ck, .int)]) [0] rfl
    refine W.widen (k := 0) (n := 0) (Nat.le_of_ble_eq_true rfl) (Nat.le_of_ble_eq_true rfl) ?_
    exact W.iret (v := r6) hx hb hr (fun t ht hW => ⟨⟨_, (upc F 13 x133, cd24), rfl, ⟨⟨hr7, rfl, rfl, rfl, rfl⟩, (by rw [← hSP, s_D_readWord]; try (rw [← hr2E, bnd_eq]); try dsimp only; try (rw [if_pos hc5]); try (rw [← hr7E, bnd_eq]); all_goals rfl)⟩, by rw [ht]; exact hP9, va_K.moved hW.alike hK9, hD9⟩, hS.F ht⟩) hS.2.2 d_D_readWord_24
  · --  ¬ r1 = 0
    refine lv_aload_n hx hb d_D_readWord_8 rfl (lv_at hl 0 rfl) ?_
    refine lv_iconst (v := 1) hx hb d_D_readWord_9 (by decide) ?_
    refine va_put (D := (dC, dI)) (ci := 2) (v := .int 1) (ty := .boolean) (C := "VotedTriple$VotedModule") (T := F_D) (N := 19) hx hb hw in_D ft_D tyok_D nm_D hown hK hP hD hS 0 rfl rfl 16 (by decide) (hw _ k_158) (fun _ h9 => h9) rfl (by decide +kernel) rfl rfl (Nat.le_of_ble_eq_true rfl) d_D_readWord_10 (fun H locs hP hD hS => ?_)
    replace hP : va_P (dC, dI) classes [(h0, .inr (2, [.ref r9, .int (upc F 13 x133 1), .int (upc F 13 x133 2), .int (upc F 13 x133 3), .int (upc F 13 x133 4), .int (upc F 13 x133 5), .int (upc F 13 x133 6), .ref k9, .int (upc F 13 x133 8), .int (upc F 13 x133 9), .int (upc F 13 x133 10), .int (upc F 13 x133 11), .int (upc F 13 x133 12), .int (upc F 13 x133 13), .int (upc F 13 x133 14), .int (upc F 13 x133 15), .int 1, .int (upc F 13 x133 17), .int (upc F 13 x133 18)])), (k9, .inl (ck, 32, .inl cd24))] H := hP
    replace hD : va_D A [(h0, .inr (2, [.ref r9, .int (upc F 13 x133 1), .int (upc F 13 x133 2), .int (upc F 13 x133 3), .int (upc F 13 x133 4), .int (upc F 13 x133 5), .int (upc F 13 x133 6), .ref k9, .int (upc F 13 x133 8), .int (upc F 13 x133 9), .int (upc F 13 x133 10), .int (upc F 13 x133 11), .int (upc F 13 x133 12), .int (upc F 13 x133 13), .int (upc F 13 x133 14), .int (upc F 13 x133 15), .int 1, .int (upc F 13 x133 17), .int (upc F 13 x133 18)])), (k9, .inl (ck, 32, .inl cd24))] := hD
    refine lv_iconst (v := 0) hx hb d_D_readWord_13 (by decide) ?_
    have hP9 := hP.sub (ws' := [(h0, .inr (2, oD (upc (upc F 13 x133) 16 (1 : Int32)) r9 k9)), (k9, .inl (ck, 32, .inl cd24))]) [0, 1] rfl
    have hD9 := hD.sub (ws' := [(h0, .inr (2, oD (upc (upc F 13 x133) 16 (1 : Int32)) r9 k9)), (k9, .inl (ck, 32, .inl cd24))]) [0, 1] (by decide) rfl
    have hK9 := hK.sub (tys' := [(ck, .int)]) [0] rfl
    refine W.widen (k := 0) (n := 0) (Nat.le_of_ble_eq_true rfl) (Nat.le_of_ble_eq_true rfl) ?_
    exact W.iret (v := 0) hx hb hr (fun t ht hW => ⟨⟨_, (upc (upc F 13 x133) 16 (1 : Int32), cd24), rfl, ⟨⟨is16_0, rfl, rfl, rfl, rfl⟩, (by rw [← hSP, s_D_readWord]; try (rw [← hr2E, bnd_eq]); try dsimp only; try (rw [if_neg hc5]); all_goals rfl)⟩, by rw [ht]; exact hP9, va_K.moved hW.alike hK9, hD9⟩, hS.F ht⟩) hS.2.2 d_D_readWord_14

set_option maxHeartbeats 4000000 in
set_option maxRecDepth 100000 in
theorem c_C_receive_D (l : Launch) (dC : Nat → ClassId) (dI : Nat → Nat → Nat) (h0 r9 k9 : Nat) (F : Nat → Int32) (cr : ClassId) (rg : Nat → Int32) (x : Int32) (hF : optI 8 (F 4)) (hx0 : is16 x) (hg : wdI 8 rg) (sz : Nat) : Met l y_C_receive (tbw y_C_receive b_C_receive 2 none) ({ frames := 0, cells := 0, slots := 0, locals := 0 }) (va_Pc [.ref h0, .int x] (fun U => U.heap.size = sz ∧ va_P (dC, dI) classes [(h0, .inr (2, oD F r9 k9)), (r9, .inl (cr, 8, .inl rg))] U.heap ∧ va_K (dC, dI) classes [(cr, .int)] U ∧ va_D (fun _ => True) [(h0, .inr (2, oD F r9 k9)), (r9, .inl (cr, 8, .inl rg))])) (va_Qv (fun (u9 : (Nat → Int32)) => match u9 with | g => (wdI 8 g) ∧ (g) = s_C_receive_D F rg x) (fun (u9 : (Nat → Int32)) t => match u9 with | g => va_P (dC, dI) classes [(h0, .inr (2, oD F r9 k9)), (r9, .inl (cr, 8, .inl g))] t.heap ∧ va_K (dC, dI) classes [(cr, .int)] t ∧ va_D (va_A [(h0, .inr (2, oD F r9 k9)), (r9, .inl (cr, 8, .inl rg))] sz) [(h0, .inr (2, oD F r9 k9)), (r9, .inl (cr, 8, .inl g))]) (va_A [(h0, .inr (2, oD F r9 k9)), (r9, .inl (cr, 8, .inl rg))] sz)) 0 0 (va_A [(h0, .inr (2, oD F r9 k9)), (r9, .inl (cr, 8, .inl rg))] sz) := by
  refine Met.ofW (cc := b_C_receive) (maxL := 2) (ret := none) (by decide) rfl ?_
  intro p e s m args below meth c s₁ B hml hv
  obtain ⟨rfl, hsz, hP, hK, hD0⟩ := hv
  have hx := B.exec
  have hb := B.bytes
  have hr := B.returns
  have hts := atoms_spec (ws := (tbw y_C_receive b_C_receive 2 none)) B.pre
  have hw : ∀ z9 ∈ tb, z9.before ([.ref h0, .int x] : List Value).toArray s = true := fun z9 h => hts z9 (List.mem_cons_of_mem _ h)
  have hown : s.vm.findClass "VotedTriple$Processor" = some m.cls := findClass_of_methodNamed B.named
  have hlocks := B.notSynchronized
  subst hsz
  replace hD := hD0.self (sz := s.heap.size)
  generalize hAe : va_A [(h0, .inr (2, oD F r9 k9)), (r9, .inl (cr, 8, .inl rg))] s.heap.size = A at hD ⊢
  have hA : ∀ q : Nat, s.heap.size ≤ q → A q := fun q h => by rw [← hAe]; exact Or.inr h
  have hS : va_S A s.heap s.heap [] := va_S.rf
  replace hl := lv_entry ([.ref h0, .int x]) (n := 2) (Nat.le_of_ble_eq_true rfl)
  rw [lg_entry_eq]
  generalize (lg_sl ([.ref h0, .int x]) ++ List.replicate (2 - (lg_sl ([.ref h0, .int x])).length) Slot.unset).toArray = ls at hl ⊢
  replace hl : lv_has ls 2 [(0, .ref h0), (1, .int x)] := hl
  generalize hSP : s_C_receive_D F rg x = SP
  refine lv_aload_n hx hb d_C_receive_0 rfl (lv_at hl 0 rfl) ?_
  refine va_get (D := (dC, dI)) (ci := 2) (v := .int (F 4)) (C := "VotedTriple$VotedModule") (T := F_D) (N := 19) hx hb hw in_D hown hK hP 0 rfl rfl 4 (by decide) (hw _ k_90) (fun _ h9 => h9) rfl d_C_receive_1 ?_
  refine lv_iconst (v := (-1)) hx hb d_C_receive_4 (by decide) ?_
  refine lv_icmp_eq (tgt := 18) hx hb d_C_receive_5 rfl (fun hc1 => ?_) (fun hc1 => ?_)
  · --  (F 4) = (-1)
    have hP9 := hP.sub (ws' := [(h0, .inr (2, oD F r9 k9)), (r9, .inl (cr, 8, .inl rg))]) [0, 1] rfl
    have hD9 := hD.sub (ws' := [(h0, .inr (2, oD F r9 k9)), (r9, .inl (cr, 8, .inl rg))]) [0, 1] (by decide) rfl
    have hK9 := hK.sub (tys' := [(cr, .int)]) [0] rfl
    refine W.widen (k := 0) (n := 0) (Nat.le_of_ble_eq_true rfl) (Nat.le_of_ble_eq_true rfl) ?_
    exact W.vret hx hb hr (fun t ht hW => ⟨⟨(rg), rfl, ⟨hg, (by rw [← hSP, s_C_receive_D]; try (rw [if_pos hc1]); all_goals rfl)⟩, by rw [ht]; exact hP9, va_K.moved hW.alike hK9, hD9⟩, hS.F ht⟩) hS.2.2 d_C_receive_18
  · --  ¬ (F 4) = (-1)
    refine lv_aload_n hx hb d_C_receive_8 rfl (lv_at hl 0 rfl) ?_
    refine va_get (D := (dC, dI)) (ci := 2) (v := .ref r9) (C := "VotedTriple$VotedModule") (T := F_D) (N := 19) hx hb hw in_D hown hK hP 0 rfl rfl 0 (by decide) (hw _ k_70) (fun _ h9 => h9) rfl d_C_receive_9 ?_
    refine lv_aload_n hx hb d_C_receive_12 rfl (lv_at hl 0 rfl) ?_
    refine va_get (D := (dC, dI)) (ci := 2) (v := .int (F 4)) (C := "VotedTriple$VotedModule") (T := F_D) (N := 19) hx hb hw in_D hown hK hP 0 rfl rfl 4 (by decide) (hw _ k_90) (fun _ h9 => h9) rfl d_C_receive_13 ?_
    refine lv_iload_n hx hb d_C_receive_16 rfl (lv_at hl 1 rfl) ?_
    refine va_iast hx hb hK hP hD hS 1 0 rfl rfl (opt_in hF hc1 (by decide)) d_C_receive_17 (fun H locs hP hD hS => ?_)
    replace hP : va_P (dC, dI) classes [(h0, .inr (2, oD F r9 k9)), (r9, .inl (cr, 8, .inl (upd rg (Int32.toNatClampNeg (F 4)) x)))] H := hP
    replace hD : va_D A [(h0, .inr (2, oD F r9 k9)), (r9, .inl (cr, 8, .inl (upd rg (Int32.toNatClampNeg (F 4)) x)))] := hD
    have hP9 := hP.sub (ws' := [(h0, .inr (2, oD F r9 k9)), (r9, .inl (cr, 8, .inl (upd rg (Int32.toNatClampNeg (F 4)) x)))]) [0, 1] rfl
    have hD9 := hD.sub (ws' := [(h0, .inr (2, oD F r9 k9)), (r9, .inl (cr, 8, .inl (upd rg (Int32.toNatClampNeg (F 4)) x)))]) [0, 1] (by decide) rfl
    have hK9 := hK.sub (tys' := [(cr, .int)]) [0] rfl
    refine W.widen (k := 0) (n := 0) (Nat.le_of_ble_eq_true rfl) (Nat.le_of_ble_eq_true rfl) ?_
    exact W.vret hx hb hr (fun t ht hW => ⟨⟨(upd rg (Int32.toNatClampNeg (F 4)) x), rfl, ⟨(rgI_upd hg hx0), (by rw [← hSP, s_C_receive_D]; try (rw [if_neg hc1]); all_goals rfl)⟩, by rw [ht]; exact hP9, va_K.moved hW.alike hK9, hD9⟩, hS.F ht⟩) hS.2.2 d_C_receive_18

set_option maxHeartbeats 4000000 in
set_option maxRecDepth 100000 in
theorem c_C_receive_E (l : Launch) (dC : Nat → ClassId) (dI : Nat → Nat → Nat) (h0 r9 o9 w9 : Nat) (F : Nat → Int32) (cr : ClassId) (rg : Nat → Int32) (x : Int32) (hF : optI 8 (F 4)) (hx0 : is16 x) (hg : wdI 8 rg) (sz : Nat) : Met l y_C_receive (tbw y_C_receive b_C_receive 2 none) ({ frames := 0, cells := 0, slots := 0, locals := 0 }) (va_Pc [.ref h0, .int x] (fun U => U.heap.size = sz ∧ va_P (dC, dI) classes [(h0, .inr (3, oE F r9 o9 w9)), (r9, .inl (cr, 8, .inl rg))] U.heap ∧ va_K (dC, dI) classes [(cr, .int)] U ∧ va_D (fun _ => True) [(h0, .inr (3, oE F r9 o9 w9)), (r9, .inl (cr, 8, .inl rg))])) (va_Qv (fun (u9 : (Nat → Int32)) => match u9 with | g => (wdI 8 g) ∧ (g) = s_C_receive_E F rg x) (fun (u9 : (Nat → Int32)) t => match u9 with | g => va_P (dC, dI) classes [(h0, .inr (3, oE F r9 o9 w9)), (r9, .inl (cr, 8, .inl g))] t.heap ∧ va_K (dC, dI) classes [(cr, .int)] t ∧ va_D (va_A [(h0, .inr (3, oE F r9 o9 w9)), (r9, .inl (cr, 8, .inl rg))] sz) [(h0, .inr (3, oE F r9 o9 w9)), (r9, .inl (cr, 8, .inl g))]) (va_A [(h0, .inr (3, oE F r9 o9 w9)), (r9, .inl (cr, 8, .inl rg))] sz)) 0 0 (va_A [(h0, .inr (3, oE F r9 o9 w9)), (r9, .inl (cr, 8, .inl rg))] sz) := by
  refine Met.ofW (cc := b_C_receive) (maxL := 2) (ret := none) (by decide) rfl ?_
  intro p e s m args below meth c s₁ B hml hv
  obtain ⟨rfl, hsz, hP, hK, hD0⟩ := hv
  have hx := B.exec
  have hb := B.bytes
  have hr := B.returns
  have hts := atoms_spec (ws := (tbw y_C_receive b_C_receive 2 none)) B.pre
  have hw : ∀ z9 ∈ tb, z9.before ([.ref h0, .int x] : List Value).toArray s = true := fun z9 h => hts z9 (List.mem_cons_of_mem _ h)
  have hown : s.vm.findClass "VotedTriple$Processor" = some m.cls := findClass_of_methodNamed B.named
  have hlocks := B.notSynchronized
  subst hsz
  replace hD := hD0.self (sz := s.heap.size)
  generalize hAe : va_A [(h0, .inr (3, oE F r9 o9 w9)), (r9, .inl (cr, 8, .inl rg))] s.heap.size = A at hD ⊢
  have hA : ∀ q : Nat, s.heap.size ≤ q → A q := fun q h => by rw [← hAe]; exact Or.inr h
  have hS : va_S A s.heap s.heap [] := va_S.rf
  replace hl := lv_entry ([.ref h0, .int x]) (n := 2) (Nat.le_of_ble_eq_true rfl)
  rw [lg_entry_eq]
  generalize (lg_sl ([.ref h0, .int x]) ++ List.replicate (2 - (lg_sl ([.ref h0, .int x])).length) Slot.unset).toArray = ls at hl ⊢
  replace hl : lv_has ls 2 [(0, .ref h0), (1, .int x)] := hl
  generalize hSP : s_C_receive_E F rg x = SP
  refine lv_aload_n hx hb d_C_receive_0 rfl (lv_at hl 0 rfl) ?_
  refine va_get (D := (dC, dI)) (ci := 3) (v := .int (F 4)) (C := "VotedTriple$PerfectOne") (T := F_E) (N := 10) hx hb hw in_E hown hK hP 0 rfl rfl 4 (by decide) (hw _ k_90) (fun _ h9 => h9) rfl d_C_receive_1 ?_
  refine lv_iconst (v := (-1)) hx hb d_C_receive_4 (by decide) ?_
  refine lv_icmp_eq (tgt := 18) hx hb d_C_receive_5 rfl (fun hc1 => ?_) (fun hc1 => ?_)
  · --  (F 4) = (-1)
    have hP9 := hP.sub (ws' := [(h0, .inr (3, oE F r9 o9 w9)), (r9, .inl (cr, 8, .inl rg))]) [0, 1] rfl
    have hD9 := hD.sub (ws' := [(h0, .inr (3, oE F r9 o9 w9)), (r9, .inl (cr, 8, .inl rg))]) [0, 1] (by decide) rfl
    have hK9 := hK.sub (tys' := [(cr, .int)]) [0] rfl
    refine W.widen (k := 0) (n := 0) (Nat.le_of_ble_eq_true rfl) (Nat.le_of_ble_eq_true rfl) ?_
    exact W.vret hx hb hr (fun t ht hW => ⟨⟨(rg), rfl, ⟨hg, (by rw [← hSP, s_C_receive_E]; try (rw [if_pos hc1]); all_goals rfl)⟩, by rw [ht]; exact hP9, va_K.moved hW.alike hK9, hD9⟩, hS.F ht⟩) hS.2.2 d_C_receive_18
  · --  ¬ (F 4) = (-1)
    refine lv_aload_n hx hb d_C_receive_8 rfl (lv_at hl 0 rfl) ?_
    refine va_get (D := (dC, dI)) (ci := 3) (v := .ref r9) (C := "VotedTriple$PerfectOne") (T := F_E) (N := 10) hx hb hw in_E hown hK hP 0 rfl rfl 0 (by decide) (hw _ k_70) (fun _ h9 => h9) rfl d_C_receive_9 ?_
    refine lv_aload_n hx hb d_C_receive_12 rfl (lv_at hl 0 rfl) ?_
    refine va_get (D := (dC, dI)) (ci := 3) (v := .int (F 4)) (C := "VotedTriple$PerfectOne") (T := F_E) (N := 10) hx hb hw in_E hown hK hP 0 rfl rfl 4 (by decide) (hw _ k_90) (fun _ h9 => h9) rfl d_C_receive_13 ?_
    refine lv_iload_n hx hb d_C_receive_16 rfl (lv_at hl 1 rfl) ?_
    refine va_iast hx hb hK hP hD hS 1 0 rfl rfl (opt_in hF hc1 (by decide)) d_C_receive_17 (fun H locs hP hD hS => ?_)
    replace hP : va_P (dC, dI) classes [(h0, .inr (3, oE F r9 o9 w9)), (r9, .inl (cr, 8, .inl (upd rg (Int32.toNatClampNeg (F 4)) x)))] H := hP
    replace hD : va_D A [(h0, .inr (3, oE F r9 o9 w9)), (r9, .inl (cr, 8, .inl (upd rg (Int32.toNatClampNeg (F 4)) x)))] := hD
    have hP9 := hP.sub (ws' := [(h0, .inr (3, oE F r9 o9 w9)), (r9, .inl (cr, 8, .inl (upd rg (Int32.toNatClampNeg (F 4)) x)))]) [0, 1] rfl
    have hD9 := hD.sub (ws' := [(h0, .inr (3, oE F r9 o9 w9)), (r9, .inl (cr, 8, .inl (upd rg (Int32.toNatClampNeg (F 4)) x)))]) [0, 1] (by decide) rfl
    have hK9 := hK.sub (tys' := [(cr, .int)]) [0] rfl
    refine W.widen (k := 0) (n := 0) (Nat.le_of_ble_eq_true rfl) (Nat.le_of_ble_eq_true rfl) ?_
    exact W.vret hx hb hr (fun t ht hW => ⟨⟨(upd rg (Int32.toNatClampNeg (F 4)) x), rfl, ⟨(rgI_upd hg hx0), (by rw [← hSP, s_C_receive_E]; try (rw [if_neg hc1]); all_goals rfl)⟩, by rw [ht]; exact hP9, va_K.moved hW.alike hK9, hD9⟩, hS.F ht⟩) hS.2.2 d_C_receive_18
