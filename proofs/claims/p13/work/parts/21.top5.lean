set_option maxHeartbeats 4000000 in
set_option maxRecDepth 100000 in
theorem c_T_compareDigests (l : Launch) (dC : Nat → ClassId) (dI : Nat → Nat → Nat) (h0 : Nat) (p9 : Nat) (a9 : Nat) (e9 : Nat) (n9 : Nat) (o9 : Nat) (ca : ClassId) (da : Nat → Nat) (ra : Nat → Nat) (ka : Nat → Nat) (cr : Nat → ClassId) (uT : Nat → Int32) (F : Nat → Nat → Int32) (g : Nat → Nat → Int32) (hF : f3 F) (sz : Nat) : Met l y_T_compareDigests (tbw y_T_compareDigests b_T_compareDigests 3 (some .boolean)) ({ frames := 3, cells := 0, slots := 0, locals := 64 }) (va_Pc [.ref h0] (fun U => U.heap.size = sz ∧ va_P (dC, dI) classes [(h0, .inr (0, oT uT p9 a9 e9 n9 o9)), (a9, .inl (ca, 3, .inr (.inr (.inr (.inr (mo da)))))), (da 0, .inr (2, oD (F 0) (ra 0) (ka 0))), (ra 0, .inl (cr 0, 8, .inl (g 0))), (da 1, .inr (2, oD (F 1) (ra 1) (ka 1))), (ra 1, .inl (cr 1, 8, .inl (g 1))), (da 2, .inr (2, oD (F 2) (ra 2) (ka 2))), (ra 2, .inl (cr 2, 8, .inl (g 2)))] U.heap ∧ va_K (dC, dI) classes [(ca, .object "VotedTriple$VotedModule"), (cr 0, .int), (cr 1, .int), (cr 2, .int)] U ∧ va_D (fun _ => True) [(h0, .inr (0, oT uT p9 a9 e9 n9 o9)), (a9, .inl (ca, 3, .inr (.inr (.inr (.inr (mo da)))))), (da 0, .inr (2, oD (F 0) (ra 0) (ka 0))), (ra 0, .inl (cr 0, 8, .inl (g 0))), (da 1, .inr (2, oD (F 1) (ra 1) (ka 1))), (ra 1, .inl (cr 1, 8, .inl (g 1))), (da 2, .inr (2, oD (F 2) (ra 2) (ka 2))), (ra 2, .inl (cr 2, 8, .inl (g 2)))])) (va_Qi (fun (r : Int32) (u9 : (Nat → Nat → Int32)) => match u9 with | F2 => (f3 F2) ∧ (r, F2) = s_T_compareDigests uT F g) (fun (u9 : (Nat → Nat → Int32)) t => match u9 with | F2 => va_P (dC, dI) classes [(h0, .inr (0, oT uT p9 a9 e9 n9 o9)), (a9, .inl (ca, 3, .inr (.inr (.inr (.inr (mo da)))))), (da 0, .inr (2, oD (F2 0) (ra 0) (ka 0))), (ra 0, .inl (cr 0, 8, .inl (g 0))), (da 1, .inr (2, oD (F2 1) (ra 1) (ka 1))), (ra 1, .inl (cr 1, 8, .inl (g 1))), (da 2, .inr (2, oD (F2 2) (ra 2) (ka 2))), (ra 2, .inl (cr 2, 8, .inl (g 2)))] t.heap ∧ va_K (dC, dI) classes [(ca, .object "VotedTriple$VotedModule"), (cr 0, .int), (cr 1, .int), (cr 2, .int)] t ∧ va_D (va_A [(h0, .inr (0, oT uT p9 a9 e9 n9 o9)), (a9, .inl (ca, 3, .inr (.inr (.inr (.inr (mo da)))))), (da 0, .inr (2, oD (F 0) (ra 0) (ka 0))), (ra 0, .inl (cr 0, 8, .inl (g 0))), (da 1, .inr (2, oD (F 1) (ra 1) (ka 1))), (ra 1, .inl (cr 1, 8, .inl (g 1))), (da 2, .inr (2, oD (F 2) (ra 2) (ka 2))), (ra 2, .inl (cr 2, 8, .inl (g 2)))] sz) [(h0, .inr (0, oT uT p9 a9 e9 n9 o9)), (a9, .inl (ca, 3, .inr (.inr (.inr (.inr (mo da)))))), (da 0, .inr (2, oD (F2 0) (ra 0) (ka 0))), (ra 0, .inl (cr 0, 8, .inl (g 0))), (da 1, .inr (2, oD (F2 1) (ra 1) (ka 1))), (ra 1, .inl (cr 1, 8, .inl (g 1))), (da 2, .inr (2, oD (F2 2) (ra 2) (ka 2))), (ra 2, .inl (cr 2, 8, .inl (g 2)))]) (va_A [(h0, .inr (0, oT uT p9 a9 e9 n9 o9)), (a9, .inl (ca, 3, .inr (.inr (.inr (.inr (mo da)))))), (da 0, .inr (2, oD (F 0) (ra 0) (ka 0))), (ra 0, .inl (cr 0, 8, .inl (g 0))), (da 1, .inr (2, oD (F 1) (ra 1) (ka 1))), (ra 1, .inl (cr 1, 8, .inl (g 1))), (da 2, .inr (2, oD (F 2) (ra 2) (ka 2))), (ra 2, .inl (cr 2, 8, .inl (g 2)))] sz)) 0 0 (va_A [(h0, .inr (0, oT uT p9 a9 e9 n9 o9)), (a9, .inl (ca, 3, .inr (.inr (.inr (.inr (mo da)))))), (da 0, .inr (2, oD (F 0) (ra 0) (ka 0))), (ra 0, .inl (cr 0, 8, .inl (g 0))), (da 1, .inr (2, oD (F 1) (ra 1) (ka 1))), (ra 1, .inl (cr 1, 8, .inl (g 1))), (da 2, .inr (2, oD (F 2) (ra 2) (ka 2))), (ra 2, .inl (cr 2, 8, .inl (g 2)))] sz) := by
  refine Met.ofW (cc := b_T_compareDigests) (maxL := 3) (ret := (some .boolean)) (by decide) rfl ?_
  intro p e s m args below meth c s₁ B hml hv
  obtain ⟨rfl, hsz, hP, hK, hD0⟩ := hv
  have hx := B.exec
  have hb := B.bytes
  have hr := B.returns
  have hts := atoms_spec (ws := (tbw y_T_compareDigests b_T_compareDigests 3 (some .boolean))) B.pre
  have hw : ∀ z9 ∈ tb, z9.before ([.ref h0] : List Value).toArray s = true := fun z9 h => hts z9 (List.mem_cons_of_mem _ h)
  have hown : s.vm.findClass "VotedTriple" = some m.cls := findClass_of_methodNamed B.named
  have hlocks := B.notSynchronized
  subst hsz
  replace hD := hD0.self (sz := s.heap.size)
  generalize hAe : va_A [(h0, .inr (0, oT uT p9 a9 e9 n9 o9)), (a9, .inl (ca, 3, .inr (.inr (.inr (.inr (mo da)))))), (da 0, .inr (2, oD (F 0) (ra 0) (ka 0))), (ra 0, .inl (cr 0, 8, .inl (g 0))), (da 1, .inr (2, oD (F 1) (ra 1) (ka 1))), (ra 1, .inl (cr 1, 8, .inl (g 1))), (da 2, .inr (2, oD (F 2) (ra 2) (ka 2))), (ra 2, .inl (cr 2, 8, .inl (g 2)))] s.heap.size = A at hD ⊢
  have hA : ∀ q : Nat, s.heap.size ≤ q → A q := fun q h => by rw [← hAe]; exact Or.inr h
  have hS : va_S A s.heap s.heap [] := va_S.rf
  replace hl := lv_entry ([.ref h0]) (n := 3) (Nat.le_of_ble_eq_true rfl)
  rw [lg_entry_eq]
  generalize (lg_sl ([.ref h0]) ++ List.replicate (3 - (lg_sl ([.ref h0])).length) Slot.unset).toArray = ls at hl ⊢
  replace hl : lv_has ls 3 [(0, .ref h0)] := hl
  generalize hSP : s_T_compareDigests uT F g = SP
  have cv75 : ∀ (F : Nat → Nat → Int32) (ls : Array Slot) (H : Heap) (locs : List Loc), f3 F → SP = s_T_compareDigests_cv75 F →  lv_has ls 3 [(0, .ref h0)] → va_P (dC, dI) classes [(h0, .inr (0, oT uT p9 a9 e9 n9 o9)), (a9, .inl (ca, 3, .inr (.inr (.inr (.inr (mo da)))))), (da 0, .inr (2, oD (F 0) (ra 0) (ka 0))), (ra 0, .inl (cr 0, 8, .inl (g 0))), (da 1, .inr (2, oD (F 1) (ra 1) (ka 1))), (ra 1, .inl (cr 1, 8, .inl (g 1))), (da 2, .inr (2, oD (F 2) (ra 2) (ka 2))), (ra 2, .inl (cr 2, 8, .inl (g 2)))] H → va_D A [(h0, .inr (0, oT uT p9 a9 e9 n9 o9)), (a9, .inl (ca, 3, .inr (.inr (.inr (.inr (mo da)))))), (da 0, .inr (2, oD (F 0) (ra 0) (ka 0))), (ra 0, .inl (cr 0, 8, .inl (g 0))), (da 1, .inr (2, oD (F 1) (ra 1) (ka 1))), (ra 1, .inl (cr 1, 8, .inl (g 1))), (da 2, .inr (2, oD (F 2) (ra 2) (ka 2))), (ra 2, .inl (cr 2, 8, .inl (g 2)))] → va_S A s.heap H locs → W p l e (headSpec (tbw y_T_compareDigests b_T_compareDigests 3 (some .boolean)) ({ frames := 3, cells := 0, slots := 0, locals := 64 })).room s m ([.ref h0] : List Value).toArray below meth c H locs 0 0 (MQ below (va_Qi (fun (r : Int32) (u9 : (Nat → Nat → Int32)) => match u9 with | F2 => (f3 F2) ∧ (r, F2) = SP) (fun (u9 : (Nat → Nat → Int32)) t => match u9 with | F2 => va_P (dC, dI) classes [(h0, .inr (0, oT uT p9 a9 e9 n9 o9)), (a9, .inl (ca, 3, .inr (.inr (.inr (.inr (mo da)))))), (da 0, .inr (2, oD (F2 0) (ra 0) (ka 0))), (ra 0, .inl (cr 0, 8, .inl (g 0))), (da 1, .inr (2, oD (F2 1) (ra 1) (ka 1))), (ra 1, .inl (cr 1, 8, .inl (g 1))), (da 2, .inr (2, oD (F2 2) (ra 2) (ka 2))), (ra 2, .inl (cr 2, 8, .inl (g 2)))] t.heap ∧ va_K (dC, dI) classes [(ca, .object "VotedTriple$VotedModule"), (cr 0, .int), (cr 1, .int), (cr 2, .int)] t ∧ va_D A [(h0, .inr (0, oT uT p9 a9 e9 n9 o9)), (a9, .inl (ca, 3, .inr (.inr (.inr (.inr (mo da)))))), (da 0, .inr (2, oD (F2 0) (ra 0) (ka 0))), (ra 0, .inl (cr 0, 8, .inl (g 0))), (da 1, .inr (2, oD (F2 1) (ra 1) (ka 1))), (ra 1, .inl (cr 1, 8, .inl (g 1))), (da 2, .inr (2, oD (F2 2) (ra 2) (ka 2))), (ra 2, .inl (cr 2, 8, .inl (g 2)))]) A) ([.ref h0] : List Value).toArray s 0 0 A) (F0 m 75 ls []) := by
    intro F ls H locs hF hSq0 hl hP hD hS
    refine lv_aload_n hx hb d_T_compareDigests_75 rfl (lv_at hl 0 rfl) ?_
    replace hPc := hP.sub (ws' := [(h0, .inr (0, oT uT p9 a9 e9 n9 o9)), (a9, .inl (ca, 3, .inr (.inr (.inr (.inr (mo da)))))), (da 0, .inr (2, oD (F 0) (ra 0) (ka 0))), (da 1, .inr (2, oD (F 1) (ra 1) (ka 1))), (da 2, .inr (2, oD (F 2) (ra 2) (ka 2)))]) [0, 1, 2, 4, 6] rfl
    replace hKc := hK.sub (tys' := [(ca, .object "VotedTriple$VotedModule")]) [0] rfl
    refine vp_callSi (va_runV (C := "VotedTriple") (As := []) (rest := []) ⟨hx, hb, hml, hown, hw⟩ (c_T_oneOfTheAlikePair l dC dI h0 p9 a9 e9 n9 o9 ca da ra ka uT F) (cwV 0 hw (gdV (k_599) (k_596) (k_598) (ks_11) (k_1)) rfl rfl rfl (by decide +kernel) ⟨Nat.le_of_ble_eq_true rfl, Nat.le_of_ble_eq_true rfl⟩) ⟨fun a U g mk q => ⟨q.1, q.2.1, va_K.moved (u := U) (U := U.calling g mk a) (Vm.Alike.refl U.vm) q.2.2⟩, va_recv hK hP rfl (q0 := 0) rfl, fun U hU hW => ⟨rfl, by rw [hU]; exact hPc, va_K.moved hW.alike hKc⟩⟩ rfl rfl hl.1 rfl (lv_room (Nat.le_of_ble_eq_true rfl)) d_T_compareDigests_76 ⟨Nat.le_of_ble_eq_true rfl, Nat.le_of_ble_eq_true rfl⟩).run (fun r1 hr2 => ?_)
    obtain ⟨hr2, hr2E⟩ := hr2
    rcases hr2 with rfl | rfl | rfl | rfl
    · --  (-1)
      refine lv_istore_n hx hb d_T_compareDigests_79 rfl hl (by decide) rfl (fun ls hl => ?_)
      replace hl : lv_has ls 3 [(2, .int (-1)), (0, .ref h0)] := hl
      refine lv_iload_n hx hb d_T_compareDigests_80 rfl (lv_at hl 0 rfl) ?_
      refine lv_iconst (v := (-1)) hx hb d_T_compareDigests_81 (by decide) ?_
      refine lv_icmp_ne (tgt := 87) hx hb d_T_compareDigests_82 rfl (fun hc3 => by first | exact absurd hc3 (fun hh => hh rfl) | exact absurd (fun hh => hh rfl) hc3) (fun hc3 => ?_)
      refine lv_iconst (v := 0) hx hb d_T_compareDigests_85 (by decide) ?_
      have hP9 := hP.sub (ws' := [(h0, .inr (0, oT uT p9 a9 e9 n9 o9)), (a9, .inl (ca, 3, .inr (.inr (.inr (.inr (mo da)))))), (da 0, .inr (2, oD (F 0) (ra 0) (ka 0))), (ra 0, .inl (cr 0, 8, .inl (g 0))), (da 1, .inr (2, oD (F 1) (ra 1) (ka 1))), (ra 1, .inl (cr 1, 8, .inl (g 1))), (da 2, .inr (2, oD (F 2) (ra 2) (ka 2))), (ra 2, .inl (cr 2, 8, .inl (g 2)))]) [0, 1, 2, 3, 4, 5, 6, 7] rfl
      have hD9 := hD.sub (ws' := [(h0, .inr (0, oT uT p9 a9 e9 n9 o9)), (a9, .inl (ca, 3, .inr (.inr (.inr (.inr (mo da)))))), (da 0, .inr (2, oD (F 0) (ra 0) (ka 0))), (ra 0, .inl (cr 0, 8, .inl (g 0))), (da 1, .inr (2, oD (F 1) (ra 1) (ka 1))), (ra 1, .inl (cr 1, 8, .inl (g 1))), (da 2, .inr (2, oD (F 2) (ra 2) (ka 2))), (ra 2, .inl (cr 2, 8, .inl (g 2)))]) [0, 1, 2, 3, 4, 5, 6, 7] (by decide) rfl
      have hK9 := hK.sub (tys' := [(ca, .object "VotedTriple$VotedModule"), (cr 0, .int), (cr 1, .int), (cr 2, .int)]) [0, 1, 2, 3] rfl
      refine W.widen (k := 0) (n := 0) (Nat.le_of_ble_eq_true rfl) (Nat.le_of_ble_eq_true rfl) ?_
      exact W.zret (v := 0) (ty := .boolean) hx hb hr rfl (fun t ht hW => ⟨⟨_, (F), rfl, ⟨hF, (by rw [hSq0, s_T_compareDigests_cv75]; try (rw [← hr2E, bnd_eq]); try (rw [if_pos rfl]); all_goals rfl)⟩, by rw [ht]; exact hP9, va_K.moved hW.alike hK9, hD9⟩, hS.F ht⟩) hS.2.2 d_T_compareDigests_86
    · --  0
      refine lv_istore_n hx hb d_T_compareDigests_79 rfl hl (by decide) rfl (fun ls hl => ?_)
      replace hl : lv_has ls 3 [(2, .int 0), (0, .ref h0)] := hl
      refine lv_iload_n hx hb d_T_compareDigests_80 rfl (lv_at hl 0 rfl) ?_
      refine lv_iconst (v := (-1)) hx hb d_T_compareDigests_81 (by decide) ?_
      refine lv_icmp_ne (tgt := 87) hx hb d_T_compareDigests_82 rfl (fun hc4 => ?_) (fun hc4 => by first | exact absurd (by decide) hc4 | exact absurd hc4 (by decide))
      refine lv_aload_n hx hb d_T_compareDigests_87 rfl (lv_at hl 1 rfl) ?_
      refine lv_aload_n hx hb d_T_compareDigests_88 rfl (lv_at hl 1 rfl) ?_
      refine va_get (D := (dC, dI)) (ci := 0) (v := .ref a9) (C := "VotedTriple") (T := F_T) (N := 11) hx hb hw in_T hown hK hP 0 rfl rfl 1 (by decide) (hw _ k_195) (fun _ h9 => h9) rfl d_T_compareDigests_89 ?_
      refine lv_iload_n hx hb d_T_compareDigests_92 rfl (lv_at hl 0 rfl) ?_
      refine va_aldq hx hb hK hP 1 0 rfl rfl (by unfold vp_in; decide) d_T_compareDigests_93 ?_
      refine W.eq (g2 := F0 m 94 ls [.ref (da 0), .ref h0]) rfl ?_
      refine va_get (D := (dC, dI)) (ci := 2) (v := .int (F 0 18)) (C := "VotedTriple$VotedModule") (T := F_D) (N := 19) hx hb hw in_D hown hK hP 2 rfl rfl 18 (by decide) (hw _ k_161) (fun _ h9 => h9) rfl d_T_compareDigests_94 ?_
      replace hPc := hP.sub (ws' := [(h0, .inr (0, oT uT p9 a9 e9 n9 o9)), (a9, .inl (ca, 3, .inr (.inr (.inr (.inr (mo da)))))), (da 0, .inr (2, oD (F 0) (ra 0) (ka 0))), (da 1, .inr (2, oD (F 1) (ra 1) (ka 1))), (da 2, .inr (2, oD (F 2) (ra 2) (ka 2)))]) [0, 1, 2, 4, 6] rfl
      replace hKc := hK.sub (tys' := [(ca, .object "VotedTriple$VotedModule")]) [0] rfl
      replace hDc := hD.sub (ws' := [(h0, .inr (0, oT uT p9 a9 e9 n9 o9)), (a9, .inl (ca, 3, .inr (.inr (.inr (.inr (mo da)))))), (da 0, .inr (2, oD (F 0) (ra 0) (ka 0))), (da 1, .inr (2, oD (F 1) (ra 1) (ka 1))), (da 2, .inr (2, oD (F 2) (ra 2) (ka 2)))]) [0, 1, 2, 4, 6] (by decide) rfl
      replace hFc := va_free (wc := [(h0, .inr (0, oT uT p9 a9 e9 n9 o9)), (a9, .inl (ca, 3, .inr (.inr (.inr (.inr (mo da)))))), (da 0, .inr (2, oD (F 0) (ra 0) (ka 0))), (da 1, .inr (2, oD (F 1) (ra 1) (ka 1))), (da 2, .inr (2, oD (F 2) (ra 2) (ka 2)))]) hD hS hA [0, 1, 2, 4, 6] rfl
      refine va_callv (va_runV (C := "VotedTriple") (As := [.int (F 0 18)]) (rest := []) ⟨hx, hb, hml, hown, hw⟩ (c_T_nameAllUnlike l dC dI h0 p9 a9 e9 n9 o9 ca da ra ka uT F (F 0 18) hF H.size) (cwV 1 hw (gdV (k_607) (k_604) (k_606) (ks_13) (k_1)) rfl rfl rfl (by decide +kernel) ⟨Nat.le_of_ble_eq_true rfl, Nat.le_of_ble_eq_true rfl⟩) ⟨fun a U g mk q => by obtain ⟨q0, q1, qP, qK, qD⟩ := q; exact ⟨q0, q1, qP, va_K.moved (u := U) (U := U.calling g mk a) (Vm.Alike.refl U.vm) qK, qD⟩, va_recv hK hP rfl (q0 := 0) rfl, fun U hU hW => ⟨rfl, by rw [hU], by rw [hU]; exact hPc, va_K.moved hW.alike hKc, hDc.weaken (fun _ _ _ _ => trivial)⟩⟩ rfl rfl hl.1 rfl (lv_room (Nat.le_of_ble_eq_true rfl)) d_T_compareDigests_97 ⟨Nat.le_of_ble_eq_true rfl, Nat.le_of_ble_eq_true rfl⟩) hS (fun q _ h => hFc q h) hFc (fun u9 t H1 locs ht hvm hr6 hB hz1 hk1 hS => ?_)
      obtain ⟨F27, rfl⟩ : ∃ z, z = u9 := ⟨_, rfl⟩
      obtain ⟨hP1, hK1, hD1⟩ := hB
      rw [ht] at hP1
      replace hK1 := va_K.moved hvm.symm hK1
      try dsimp only at hr6 hP1 hK1 hD1
      obtain ⟨hr6, hr6E⟩ := hr6
      obtain ⟨hPz, hDz⟩ := va_join (wr := [(ra 0, .inl (cr 0, 8, .inl (g 0))), (ra 1, .inl (cr 1, 8, .inl (g 1))), (ra 2, .inl (cr 2, 8, .inl (g 2)))]) (w1 := [(h0, .inr (0, oT uT p9 a9 e9 n9 o9)), (a9, .inl (ca, 3, .inr (.inr (.inr (.inr (mo da)))))), (da 0, .inr (2, oD (F27 0) (ra 0) (ka 0))), (da 1, .inr (2, oD (F27 1) (ra 1) (ka 1))), (da 2, .inr (2, oD (F27 2) (ra 2) (ka 2)))]) hP hD [0, 1, 2, 4, 6] [3, 5, 7] rfl rfl (by decide) (by decide) hk1 hFc hP1 hD1
      clear hP hD hPc hDc hP1 hD1 hFc
      have hP := hPz
      have hD := hDz
      clear hPz hDz
      replace hK := (hK.sub (tys' := [(cr 0, .int), (cr 1, .int), (cr 2, .int)]) [1, 2, 3] rfl).app hK1
      clear hK1 hKc
      generalize H1 = H at hP hS ⊢
      replace hP : va_P (dC, dI) classes [(ra 0, .inl (cr 0, 8, .inl (g 0))), (ra 1, .inl (cr 1, 8, .inl (g 1))), (ra 2, .inl (cr 2, 8, .inl (g 2))), (h0, .inr (0, oT uT p9 a9 e9 n9 o9)), (a9, .inl (ca, 3, .inr (.inr (.inr (.inr (mo da)))))), (da 0, .inr (2, oD (F27 0) (ra 0) (ka 0))), (da 1, .inr (2, oD (F27 1) (ra 1) (ka 1))), (da 2, .inr (2, oD (F27 2) (ra 2) (ka 2)))] H := hP
      replace hD : va_D A [(ra 0, .inl (cr 0, 8, .inl (g 0))), (ra 1, .inl (cr 1, 8, .inl (g 1))), (ra 2, .inl (cr 2, 8, .inl (g 2))), (h0, .inr (0, oT uT p9 a9 e9 n9 o9)), (a9, .inl (ca, 3, .inr (.inr (.inr (.inr (mo da)))))), (da 0, .inr (2, oD (F27 0) (ra 0) (ka 0))), (da 1, .inr (2, oD (F27 1) (ra 1) (ka 1))), (da 2, .inr (2, oD (F27 2) (ra 2) (ka 2)))] := hD
      replace hK : va_K (dC, dI) classes [(cr 0, .int), (cr 1, .int), (cr 2, .int), (ca, .object "VotedTriple$VotedModule")] s := hK
      refine W.widen (k := 0) (n := 0) (Nat.le_of_ble_eq_true rfl) (Nat.le_of_ble_eq_true rfl) ?_
      refine lv_iconst (v := 1) hx hb d_T_compareDigests_100 (by decide) ?_
      have hP9 := hP.sub (ws' := [(h0, .inr (0, oT uT p9 a9 e9 n9 o9)), (a9, .inl (ca, 3, .inr (.inr (.inr (.inr (mo da)))))), (da 0, .inr (2, oD (F27 0) (ra 0) (ka 0))), (ra 0, .inl (cr 0, 8, .inl (g 0))), (da 1, .inr (2, oD (F27 1) (ra 1) (ka 1))), (ra 1, .inl (cr 1, 8, .inl (g 1))), (da 2, .inr (2, oD (F27 2) (ra 2) (ka 2))), (ra 2, .inl (cr 2, 8, .inl (g 2)))]) [3, 4, 5, 0, 6, 1, 7, 2] rfl
      have hD9 := hD.sub (ws' := [(h0, .inr (0, oT uT p9 a9 e9 n9 o9)), (a9, .inl (ca, 3, .inr (.inr (.inr (.inr (mo da)))))), (da 0, .inr (2, oD (F27 0) (ra 0) (ka 0))), (ra 0, .inl (cr 0, 8, .inl (g 0))), (da 1, .inr (2, oD (F27 1) (ra 1) (ka 1))), (ra 1, .inl (cr 1, 8, .inl (g 1))), (da 2, .inr (2, oD (F27 2) (ra 2) (ka 2))), (ra 2, .inl (cr 2, 8, .inl (g 2)))]) [3, 4, 5, 0, 6, 1, 7, 2] (by decide) rfl
      have hK9 := hK.sub (tys' := [(ca, .object "VotedTriple$VotedModule"), (cr 0, .int), (cr 1, .int), (cr 2, .int)]) [3, 0, 1, 2] rfl
      refine W.widen (k := 0) (n := 0) (Nat.le_of_ble_eq_true rfl) (Nat.le_of_ble_eq_true rfl) ?_
      exact W.zret (v := 1) (ty := .boolean) hx hb hr rfl (fun t ht hW => ⟨⟨_, (F27), rfl, ⟨hr6, (by rw [hSq0, s_T_compareDigests_cv75]; try (rw [← hr2E, bnd_eq]); try (rw [if_neg (by decide)]); try (rw [if_pos rfl]); try (rw [← hr6E, bnd_eq]); all_goals rfl)⟩, by rw [ht]; exact hP9, va_K.moved hW.alike hK9, hD9⟩, hS.F ht⟩) hS.2.2 d_T_compareDigests_101
    · --  1
      refine lv_istore_n hx hb d_T_compareDigests_79 rfl hl (by decide) rfl (fun ls hl => ?_)
      replace hl : lv_has ls 3 [(2, .int 1), (0, .ref h0)] := hl
      refine lv_iload_n hx hb d_T_compareDigests_80 rfl (lv_at hl 0 rfl) ?_
      refine lv_iconst (v := (-1)) hx hb d_T_compareDigests_81 (by decide) ?_
      refine lv_icmp_ne (tgt := 87) hx hb d_T_compareDigests_82 rfl (fun hc8 => ?_) (fun hc8 => by first | exact absurd (by decide) hc8 | exact absurd hc8 (by decide))
      refine lv_aload_n hx hb d_T_compareDigests_87 rfl (lv_at hl 1 rfl) ?_
      refine lv_aload_n hx hb d_T_compareDigests_88 rfl (lv_at hl 1 rfl) ?_
      refine va_get (D := (dC, dI)) (ci := 0) (v := .ref a9) (C := "VotedTriple") (T := F_T) (N := 11) hx hb hw in_T hown hK hP 0 rfl rfl 1 (by decide) (hw _ k_195) (fun _ h9 => h9) rfl d_T_compareDigests_89 ?_
      refine lv_iload_n hx hb d_T_compareDigests_92 rfl (lv_at hl 0 rfl) ?_
      refine va_aldq hx hb hK hP 1 0 rfl rfl (by unfold vp_in; decide) d_T_compareDigests_93 ?_
      refine W.eq (g2 := F0 m 94 ls [.ref (da 1), .ref h0]) rfl ?_
      refine va_get (D := (dC, dI)) (ci := 2) (v := .int (F 1 18)) (C := "VotedTriple$VotedModule") (T := F_D) (N := 19) hx hb hw in_D hown hK hP 4 rfl rfl 18 (by decide) (hw _ k_161) (fun _ h9 => h9) rfl d_T_compareDigests_94 ?_
      replace hPc := hP.sub (ws' := [(h0, .inr (0, oT uT p9 a9 e9 n9 o9)), (a9, .inl (ca, 3, .inr (.inr (.inr (.inr (mo da)))))), (da 0, .inr (2, oD (F 0) (ra 0) (ka 0))), (da 1, .inr (2, oD (F 1) (ra 1) (ka 1))), (da 2, .inr (2, oD (F 2) (ra 2) (ka 2)))]) [0, 1, 2, 4, 6] rfl
      replace hKc := hK.sub (tys' := [(ca, .object "VotedTriple$VotedModule")]) [0] rfl
      replace hDc := hD.sub (ws' := [(h0, .inr (0, oT uT p9 a9 e9 n9 o9)), (a9, .inl (ca, 3, .inr (.inr (.inr (.inr (mo da)))))), (da 0, .inr (2, oD (F 0) (ra 0) (ka 0))), (da 1, .inr (2, oD (F 1) (ra 1) (ka 1))), (da 2, .inr (2, oD (F 2) (ra 2) (ka 2)))]) [0, 1, 2, 4, 6] (by decide) rfl
      replace hFc := va_free (wc := [(h0, .inr (0, oT uT p9 a9 e9 n9 o9)), (a9, .inl (ca, 3, .inr (.inr (.inr (.inr (mo da)))))), (da 0, .inr (2, oD (F 0) (ra 0) (ka 0))), (da 1, .inr (2, oD (F 1) (ra 1) (ka 1))), (da 2, .inr (2, oD (F 2) (ra 2) (ka 2)))]) hD hS hA [0, 1, 2, 4, 6] rfl
      refine va_callv (va_runV (C := "VotedTriple") (As := [.int (F 1 18)]) (rest := []) ⟨hx, hb, hml, hown, hw⟩ (c_T_nameAllUnlike l dC dI h0 p9 a9 e9 n9 o9 ca da ra ka uT F (F 1 18) hF H.size) (cwV 1 hw (gdV (k_607) (k_604) (k_606) (ks_13) (k_1)) rfl rfl rfl (by decide +kernel) ⟨Nat.le_of_ble_eq_true rfl, Nat.le_of_ble_eq_true rfl⟩) ⟨fun a U g mk q => by obtain ⟨q0, q1, qP, qK, qD⟩ := q; exact ⟨q0, q1, qP, va_K.moved (u := U) (U := U.calling g mk a) (Vm.Alike.refl U.vm) qK, qD⟩, va_recv hK hP rfl (q0 := 0) rfl, fun U hU hW => ⟨rfl, by rw [hU], by rw [hU]; exact hPc, va_K.moved hW.alike hKc, hDc.weaken (fun _ _ _ _ => trivial)⟩⟩ rfl rfl hl.1 rfl (lv_room (Nat.le_of_ble_eq_true rfl)) d_T_compareDigests_97 ⟨Nat.le_of_ble_eq_true rfl, Nat.le_of_ble_eq_true rfl⟩) hS (fun q _ h => hFc q h) hFc (fun u9 t H1 locs ht hvm hr10 hB hz1 hk1 hS => ?_)
      obtain ⟨F211, rfl⟩ : ∃ z, z = u9 := ⟨_, rfl⟩
      obtain ⟨hP1, hK1, hD1⟩ := hB
      rw [ht] at hP1
      replace hK1 := va_K.moved hvm.symm hK1
      try dsimp only at hr10 hP1 hK1 hD1
      obtain ⟨hr10, hr10E⟩ := hr10
      obtain ⟨hPz, hDz⟩ := va_join (wr := [(ra 0, .inl (cr 0, 8, .inl (g 0))), (ra 1, .inl (cr 1, 8, .inl (g 1))), (ra 2, .inl (cr 2, 8, .inl (g 2)))]) (w1 := [(h0, .inr (0, oT uT p9 a9 e9 n9 o9)), (a9, .inl (ca, 3, .inr (.inr (.inr (.inr (mo da)))))), (da 0, .inr (2, oD (F211 0) (ra 0) (ka 0))), (da 1, .inr (2, oD (F211 1) (ra 1) (ka 1))), (da 2, .inr (2, oD (F211 2) (ra 2) (ka 2)))]) hP hD [0, 1, 2, 4, 6] [3, 5, 7] rfl rfl (by decide) (by decide) hk1 hFc hP1 hD1
      clear hP hD hPc hDc hP1 hD1 hFc
      have hP := hPz
      have hD := hDz
      clear hPz hDz
      replace hK := (hK.sub (tys' := [(cr 0, .int), (cr 1, .int), (cr 2, .int)]) [1, 2, 3] rfl).app hK1
      clear hK1 hKc
      generalize H1 = H at hP hS ⊢
      replace hP : va_P (dC, dI) classes [(ra 0, .inl (cr 0, 8, .inl (g 0))), (ra 1, .inl (cr 1, 8, .inl (g 1))), (ra 2, .inl (cr 2, 8, .inl (g 2))), (h0, .inr (0, oT uT p9 a9 e9 n9 o9)), (a9, .inl (ca, 3, .inr (.inr (.inr (.inr (mo da)))))), (da 0, .inr (2, oD (F211 0) (ra 0) (ka 0))), (da 1, .inr (2, oD (F211 1) (ra 1) (ka 1))), (da 2, .inr (2, oD (F211 2) (ra 2) (ka 2)))] H := hP
      replace hD : va_D A [(ra 0, .inl (cr 0, 8, .inl (g 0))), (ra 1, .inl (cr 1, 8, .inl (g 1))), (ra 2, .inl (cr 2, 8, .inl (g 2))), (h0, .inr (0, oT uT p9 a9 e9 n9 o9)), (a9, .inl (ca, 3, .inr (.inr (.inr (.inr (mo da)))))), (da 0, .inr (2, oD (F211 0) (ra 0) (ka 0))), (da 1, .inr (2, oD (F211 1) (ra 1) (ka 1))), (da 2, .inr (2, oD (F211 2) (ra 2) (ka 2)))] := hD
      replace hK : va_K (dC, dI) classes [(cr 0, .int), (cr 1, .int), (cr 2, .int), (ca, .object "VotedTriple$VotedModule")] s := hK
      refine W.widen (k := 0) (n := 0) (Nat.le_of_ble_eq_true rfl) (Nat.le_of_ble_eq_true rfl) ?_
      refine lv_iconst (v := 1) hx hb d_T_compareDigests_100 (by decide) ?_
      have hP9 := hP.sub (ws' := [(h0, .inr (0, oT uT p9 a9 e9 n9 o9)), (a9, .inl (ca, 3, .inr (.inr (.inr (.inr (mo da)))))), (da 0, .inr (2, oD (F211 0) (ra 0) (ka 0))), (ra 0, .inl (cr 0, 8, .inl (g 0))), (da 1, .inr (2, oD (F211 1) (ra 1) (ka 1))), (ra 1, .inl (cr 1, 8, .inl (g 1))), (da 2, .inr (2, oD (F211 2) (ra 2) (ka 2))), (ra 2, .inl (cr 2, 8, .inl (g 2)))]) [3, 4, 5, 0, 6, 1, 7, 2] rfl
      have hD9 := hD.sub (ws' := [(h0, .inr (0, oT uT p9 a9 e9 n9 o9)), (a9, .inl (ca, 3, .inr (.inr (.inr (.inr (mo da)))))), (da 0, .inr (2, oD (F211 0) (ra 0) (ka 0))), (ra 0, .inl (cr 0, 8, .inl (g 0))), (da 1, .inr (2, oD (F211 1) (ra 1) (ka 1))), (ra 1, .inl (cr 1, 8, .inl (g 1))), (da 2, .inr (2, oD (F211 2) (ra 2) (ka 2))), (ra 2, .inl (cr 2, 8, .inl (g 2)))]) [3, 4, 5, 0, 6, 1, 7, 2] (by decide) rfl
      have hK9 := hK.sub (tys' := [(ca, .object "VotedTriple$VotedModule"), (cr 0, .int), (cr 1, .int), (cr 2, .int)]) [3, 0, 1, 2] rfl
      refine W.widen (k := 0) (n := 0) (Nat.le_of_ble_eq_true rfl) (Nat.le_of_ble_eq_true rfl) ?_
      exact W.zret (v := 1) (ty := .boolean) hx hb hr rfl (fun t ht hW => ⟨⟨_, (F211), rfl, ⟨hr10, (by rw [hSq0, s_T_compareDigests_cv75]; try (rw [← hr2E, bnd_eq]); try (rw [if_neg (by decide)]); try (rw [if_neg (by decide)]); try (rw [if_pos rfl]); try (rw [← hr10E, bnd_eq]); all_goals rfl)⟩, by rw [ht]; exact hP9, va_K.moved hW.alike hK9, hD9⟩, hS.F ht⟩) hS.2.2 d_T_compareDigests_101
    · --  2
      refine lv_istore_n hx hb d_T_compareDigests_79 rfl hl (by decide) rfl (fun ls hl => ?_)
      replace hl : lv_has ls 3 [(2, .int 2), (0, .ref h0)] := hl
      refine lv_iload_n hx hb d_T_compareDigests_80 rfl (lv_at hl 0 rfl) ?_
      refine lv_iconst (v := (-1)) hx hb d_T_compareDigests_81 (by decide) ?_
      refine lv_icmp_ne (tgt := 87) hx hb d_T_compareDigests_82 rfl (fun hc12 => ?_) (fun hc12 => by first | exact absurd (by decide) hc12 | exact absurd hc12 (by decide))
      refine lv_aload_n hx hb d_T_compareDigests_87 rfl (lv_at hl 1 rfl) ?_
      refine lv_aload_n hx hb d_T_compareDigests_88 rfl (lv_at hl 1 rfl) ?_
      refine va_get (D := (dC, dI)) (ci := 0) (v := .ref a9) (C := "VotedTriple") (T := F_T) (N := 11) hx hb hw in_T hown hK hP 0 rfl rfl 1 (by decide) (hw _ k_195) (fun _ h9 => h9) rfl d_T_compareDigests_89 ?_
      refine lv_iload_n hx hb d_T_compareDigests_92 rfl (lv_at hl 0 rfl) ?_
      refine va_aldq hx hb hK hP 1 0 rfl rfl (by unfold vp_in; decide) d_T_compareDigests_93 ?_
      refine W.eq (g2 := F0 m 94 ls [.ref (da 2), .ref h0]) rfl ?_
      refine va_get (D := (dC, dI)) (ci := 2) (v := .int (F 2 18)) (C := "VotedTriple$VotedModule") (T := F_D) (N := 19) hx hb hw in_D hown hK hP 6 rfl rfl 18 (by decide) (hw _ k_161) (fun _ h9 => h9) rfl d_T_compareDigests_94 ?_
      replace hPc := hP.sub (ws' := [(h0, .inr (0, oT uT p9 a9 e9 n9 o9)), (a9, .inl (ca, 3, .inr (.inr (.inr (.inr (mo da)))))), (da 0, .inr (2, oD (F 0) (ra 0) (ka 0))), (da 1, .inr (2, oD (F 1) (ra 1) (ka 1))), (da 2, .inr (2, oD (F 2) (ra 2) (ka 2)))]) [0, 1, 2, 4, 6] rfl
      replace hKc := hK.sub (tys' := [(ca, .object "VotedTriple$VotedModule")]) [0] rfl
      replace hDc := hD.sub (ws' := [(h0, .inr (0, oT uT p9 a9 e9 n9 o9)), (a9, .inl (ca, 3, .inr (.inr (.inr (.inr (mo da)))))), (da 0, .inr (2, oD (F 0) (ra 0) (ka 0))), (da 1, .inr (2, oD (F 1) (ra 1) (ka 1))), (da 2, .inr (2, oD (F 2) (ra 2) (ka 2)))]) [0, 1, 2, 4, 6] (by decide) rfl
      replace hFc := va_free (wc := [(h0, .inr (0, oT uT p9 a9 e9 n9 o9)), (a9, .inl (ca, 3, .inr (.inr (.inr (.inr (mo da)))))), (da 0, .inr (2, oD (F 0) (ra 0) (ka 0))), (da 1, .inr (2, oD (F 1) (ra 1) (ka 1))), (da 2, .inr (2, oD (F 2) (ra 2) (ka 2)))]) hD hS hA [0, 1, 2, 4, 6] rfl
      refine va_callv (va_runV (C := "VotedTriple") (As := [.int (F 2 18)]) (rest := []) ⟨hx, hb, hml, hown, hw⟩ (c_T_nameAllUnlike l dC dI h0 p9 a9 e9 n9 o9 ca da ra ka uT F (F 2 18) hF H.size) (cwV 1 hw (gdV (k_607) (k_604) (k_606) (ks_13) (k_1)) rfl rfl rfl (by decide +kernel) ⟨Nat.le_of_ble_eq_true rfl, Nat.le_of_ble_eq_true rfl⟩) ⟨fun a U g mk q => by obtain ⟨q0, q1, qP, qK, qD⟩ := q; exact ⟨q0, q1, qP, va_K.moved (u := U) (U := U.calling g mk a) (Vm.Alike.refl U.vm) qK, qD⟩, va_recv hK hP rfl (q0 := 0) rfl, fun U hU hW => ⟨rfl, by rw [hU], by rw [hU]; exact hPc, va_K.moved hW.alike hKc, hDc.weaken (fun _ _ _ _ => trivial)⟩⟩ rfl rfl hl.1 rfl (lv_room (Nat.le_of_ble_eq_true rfl)) d_T_compareDigests_97 ⟨Nat.le_of_ble_eq_true rfl, Nat.le_of_ble_eq_true rfl⟩) hS (fun q _ h => hFc q h) hFc (fun u9 t H1 locs ht hvm hr14 hB hz1 hk1 hS => ?_)
      obtain ⟨F215, rfl⟩ : ∃ z, z = u9 := ⟨_, rfl⟩
      obtain ⟨hP1, hK1, hD1⟩ := hB
      rw [ht] at hP1
      replace hK1 := va_K.moved hvm.symm hK1
      try dsimp only at hr14 hP1 hK1 hD1
      obtain ⟨hr14, hr14E⟩ := hr14
      obtain ⟨hPz, hDz⟩ := va_join (wr := [(ra 0, .inl (cr 0, 8, .inl (g 0))), (ra 1, .inl (cr 1, 8, .inl (g 1))), (ra 2, .inl (cr 2, 8, .inl (g 2)))]) (w1 := [(h0, .inr (0, oT uT p9 a9 e9 n9 o9)), (a9, .inl (ca, 3, .inr (.inr (.inr (.inr (mo da)))))), (da 0, .inr (2, oD (F215 0) (ra 0) (ka 0))), (da 1, .inr (2, oD (F215 1) (ra 1) (ka 1))), (da 2, .inr (2, oD (F215 2) (ra 2) (ka 2)))]) hP hD [0, 1, 2, 4, 6] [3, 5, 7] rfl rfl (by decide) (by decide) hk1 hFc hP1 hD1
      clear hP hD hPc hDc hP1 hD1 hFc
      have hP := hPz
      have hD := hDz
      clear hPz hDz
      replace hK := (hK.sub (tys' := [(cr 0, .int), (cr 1, .int), (cr 2, .int)]) [1, 2, 3] rfl).app hK1
      clear hK1 hKc
      generalize H1 = H at hP hS ⊢
      replace hP : va_P (dC, dI) classes [(ra 0, .inl (cr 0, 8, .inl (g 0))), (ra 1, .inl (cr 1, 8, .inl (g 1))), (ra 2, .inl (cr 2, 8, .inl (g 2))), (h0, .inr (0, oT uT p9 a9 e9 n9 o9)), (a9, .inl (ca, 3, .inr (.inr (.inr (.inr (mo da)))))), (da 0, .inr (2, oD (F215 0) (ra 0) (ka 0))), (da 1, .inr (2, oD (F215 1) (ra 1) (ka 1))), (da 2, .inr (2, oD (F215 2) (ra 2) (ka 2)))] H := hP
      replace hD : va_D A [(ra 0, .inl (cr 0, 8, .inl (g 0))), (ra 1, .inl (cr 1, 8, .inl (g 1))), (ra 2, .inl (cr 2, 8, .inl (g 2))), (h0, .inr (0, oT uT p9 a9 e9 n9 o9)), (a9, .inl (ca, 3, .inr (.inr (.inr (.inr (mo da)))))), (da 0, .inr (2, oD (F215 0) (ra 0) (ka 0))), (da 1, .inr (2, oD (F215 1) (ra 1) (ka 1))), (da 2, .inr (2, oD (F215 2) (ra 2) (ka 2)))] := hD
      replace hK : va_K (dC, dI) classes [(cr 0, .int), (cr 1, .int), (cr 2, .int), (ca, .object "VotedTriple$VotedModule")] s := hK
      refine W.widen (k := 0) (n := 0) (Nat.le_of_ble_eq_true rfl) (Nat.le_of_ble_eq_true rfl) ?_
      refine lv_iconst (v := 1) hx hb d_T_compareDigests_100 (by decide) ?_
      have hP9 := hP.sub (ws' := [(h0, .inr (0, oT uT p9 a9 e9 n9 o9)), (a9, .inl (ca, 3, .inr (.inr (.inr (.inr (mo da)))))), (da 0, .inr (2, oD (F215 0) (ra 0) (ka 0))), (ra 0, .inl (cr 0, 8, .inl (g 0))), (da 1, .inr (2, oD (F215 1) (ra 1) (ka 1))), (ra 1, .inl (cr 1, 8, .inl (g 1))), (da 2, .inr (2, oD (F215 2) (ra 2) (ka 2))), (ra 2, .inl (cr 2, 8, .inl (g 2)))]) [3, 4, 5, 0, 6, 1, 7, 2] rfl
      have hD9 := hD.sub (ws' := [(h0, .inr (0, oT uT p9 a9 e9 n9 o9)), (a9, .inl (ca, 3, .inr (.inr (.inr (.inr (mo da)))))), (da 0, .inr (2, oD (F215 0) (ra 0) (ka 0))), (ra 0, .inl (cr 0, 8, .inl (g 0))), (da 1, .inr (2, oD (F215 1) (ra 1) (ka 1))), (ra 1, .inl (cr 1, 8, .inl (g 1))), (da 2, .inr (2, oD (F215 2) (ra 2) (ka 2))), (ra 2, .inl (cr 2, 8, .inl (g 2)))]) [3, 4, 5, 0, 6, 1, 7, 2] (by decide) rfl
      have hK9 := hK.sub (tys' := [(ca, .object "VotedTriple$VotedModule"), (cr 0, .int), (cr 1, .int), (cr 2, .int)]) [3, 0, 1, 2] rfl
      refine W.widen (k := 0) (n := 0) (Nat.le_of_ble_eq_true rfl) (Nat.le_of_ble_eq_true rfl) ?_
      exact W.zret (v := 1) (ty := .boolean) hx hb hr rfl (fun t ht hW => ⟨⟨_, (F215), rfl, ⟨hr14, (by rw [hSq0, s_T_compareDigests_cv75]; try (rw [← hr2E, bnd_eq]); try (rw [if_neg (by decide)]); try (rw [if_neg (by decide)]); try (rw [if_neg (by decide)]); try (rw [← hr14E, bnd_eq]); all_goals rfl)⟩, by rw [ht]; exact hP9, va_K.moved hW.alike hK9, hD9⟩, hS.F ht⟩) hS.2.2 d_T_compareDigests_101
  have cut24_3 : ∀ (F : Nat → Nat → Int32) (w1 : Int32) (ls : Array Slot) (H : Heap) (locs : List Loc), f3 F → (w1 = 0 ∨ w1 = 1 ∨ w1 = 2) → SP = s_T_compareDigests_cut24_3 F w1 →  lv_has ls 3 [(0, .ref h0), (1, .int w1), (2, .int 3)] → va_P (dC, dI) classes [(h0, .inr (0, oT uT p9 a9 e9 n9 o9)), (a9, .inl (ca, 3, .inr (.inr (.inr (.inr (mo da)))))), (da 0, .inr (2, oD (F 0) (ra 0) (ka 0))), (ra 0, .inl (cr 0, 8, .inl (g 0))), (da 1, .inr (2, oD (F 1) (ra 1) (ka 1))), (ra 1, .inl (cr 1, 8, .inl (g 1))), (da 2, .inr (2, oD (F 2) (ra 2) (ka 2))), (ra 2, .inl (cr 2, 8, .inl (g 2)))] H → va_D A [(h0, .inr (0, oT uT p9 a9 e9 n9 o9)), (a9, .inl (ca, 3, .inr (.inr (.inr (.inr (mo da)))))), (da 0, .inr (2, oD (F 0) (ra 0) (ka 0))), (ra 0, .inl (cr 0, 8, .inl (g 0))), (da 1, .inr (2, oD (F 1) (ra 1) (ka 1))), (ra 1, .inl (cr 1, 8, .inl (g 1))), (da 2, .inr (2, oD (F 2) (ra 2) (ka 2))), (ra 2, .inl (cr 2, 8, .inl (g 2)))] → va_S A s.heap H locs → W p l e (headSpec (tbw y_T_compareDigests b_T_compareDigests 3 (some .boolean)) ({ frames := 3, cells := 0, slots := 0, locals := 64 })).room s m ([.ref h0] : List Value).toArray below meth c H locs 0 0 (MQ below (va_Qi (fun (r : Int32) (u9 : (Nat → Nat → Int32)) => match u9 with | F2 => (f3 F2) ∧ (r, F2) = SP) (fun (u9 : (Nat → Nat → Int32)) t => match u9 with | F2 => va_P (dC, dI) classes [(h0, .inr (0, oT uT p9 a9 e9 n9 o9)), (a9, .inl (ca, 3, .inr (.inr (.inr (.inr (mo da)))))), (da 0, .inr (2, oD (F2 0) (ra 0) (ka 0))), (ra 0, .inl (cr 0, 8, .inl (g 0))), (da 1, .inr (2, oD (F2 1) (ra 1) (ka 1))), (ra 1, .inl (cr 1, 8, .inl (g 1))), (da 2, .inr (2, oD (F2 2) (ra 2) (ka 2))), (ra 2, .inl (cr 2, 8, .inl (g 2)))] t.heap ∧ va_K (dC, dI) classes [(ca, .object "VotedTriple$VotedModule"), (cr 0, .int), (cr 1, .int), (cr 2, .int)] t ∧ va_D A [(h0, .inr (0, oT uT p9 a9 e9 n9 o9)), (a9, .inl (ca, 3, .inr (.inr (.inr (.inr (mo da)))))), (da 0, .inr (2, oD (F2 0) (ra 0) (ka 0))), (ra 0, .inl (cr 0, 8, .inl (g 0))), (da 1, .inr (2, oD (F2 1) (ra 1) (ka 1))), (ra 1, .inl (cr 1, 8, .inl (g 1))), (da 2, .inr (2, oD (F2 2) (ra 2) (ka 2))), (ra 2, .inl (cr 2, 8, .inl (g 2)))]) A) ([.ref h0] : List Value).toArray s 0 0 A) (F0 m 24 ls []) := by
    intro F w1 ls H locs hF h19 hSq0 hl hP hD hS
    refine lv_iload_n hx hb d_T_compareDigests_24 rfl (lv_at hl 2 rfl) ?_
    refine lv_iconst (v := 3) hx hb d_T_compareDigests_25 (by decide) ?_
    refine lv_icmp_ge (tgt := 53) hx hb d_T_compareDigests_26 rfl (fun hc16 => ?_) (fun hc16 => by first | exact absurd (by decide) hc16 | exact absurd hc16 (by decide))
    rcases h19 with rfl | rfl | rfl
    · --  0
      refine lv_aload_n hx hb d_T_compareDigests_53 rfl (lv_at hl 0 rfl) ?_
      refine lv_aload_n hx hb d_T_compareDigests_54 rfl (lv_at hl 0 rfl) ?_
      refine va_get (D := (dC, dI)) (ci := 0) (v := .ref a9) (C := "VotedTriple") (T := F_T) (N := 11) hx hb hw in_T hown hK hP 0 rfl rfl 1 (by decide) (hw _ k_195) (fun _ h9 => h9) rfl d_T_compareDigests_55 ?_
      refine lv_iload_n hx hb d_T_compareDigests_58 rfl (lv_at hl 1 rfl) ?_
      refine va_aldq hx hb hK hP 1 0 rfl rfl (by unfold vp_in; decide) d_T_compareDigests_59 ?_
      refine W.eq (g2 := F0 m 60 ls [.ref (da 0), .ref h0]) rfl ?_
      refine va_get (D := (dC, dI)) (ci := 2) (v := .int (F 0 18)) (C := "VotedTriple$VotedModule") (T := F_D) (N := 19) hx hb hw in_D hown hK hP 2 rfl rfl 18 (by decide) (hw _ k_161) (fun _ h9 => h9) rfl d_T_compareDigests_60 ?_
      replace hPc := hP.sub (ws' := [(h0, .inr (0, oT uT p9 a9 e9 n9 o9)), (a9, .inl (ca, 3, .inr (.inr (.inr (.inr (mo da)))))), (da 0, .inr (2, oD (F 0) (ra 0) (ka 0))), (da 1, .inr (2, oD (F 1) (ra 1) (ka 1))), (da 2, .inr (2, oD (F 2) (ra 2) (ka 2)))]) [0, 1, 2, 4, 6] rfl
      replace hKc := hK.sub (tys' := [(ca, .object "VotedTriple$VotedModule")]) [0] rfl
      refine vp_callSi (va_runV (C := "VotedTriple") (As := [.int (F 0 18)]) (rest := []) ⟨hx, hb, hml, hown, hw⟩ (c_T_countBallots l dC dI h0 p9 a9 e9 n9 o9 ca da ra ka uT F (F 0 18)) (cwV 1 hw (gdV (k_591) (k_588) (k_590) (ks_9) (k_1)) rfl rfl rfl (by decide +kernel) ⟨Nat.le_of_ble_eq_true rfl, Nat.le_of_ble_eq_true rfl⟩) ⟨fun a U g mk q => ⟨q.1, q.2.1, va_K.moved (u := U) (U := U.calling g mk a) (Vm.Alike.refl U.vm) q.2.2⟩, va_recv hK hP rfl (q0 := 0) rfl, fun U hU hW => ⟨rfl, by rw [hU]; exact hPc, va_K.moved hW.alike hKc⟩⟩ rfl rfl hl.1 rfl (lv_room (Nat.le_of_ble_eq_true rfl)) d_T_compareDigests_63 ⟨Nat.le_of_ble_eq_true rfl, Nat.le_of_ble_eq_true rfl⟩).run (fun r17 hr18 => ?_)
      obtain ⟨hr18, hr18E⟩ := hr18
      refine lv_aload_n hx hb d_T_compareDigests_66 rfl (lv_at hl 0 rfl) ?_
      replace hPc := hP.sub (ws' := [(h0, .inr (0, oT uT p9 a9 e9 n9 o9)), (a9, .inl (ca, 3, .inr (.inr (.inr (.inr (mo da)))))), (da 0, .inr (2, oD (F 0) (ra 0) (ka 0))), (da 1, .inr (2, oD (F 1) (ra 1) (ka 1))), (da 2, .inr (2, oD (F 2) (ra 2) (ka 2)))]) [0, 1, 2, 4, 6] rfl
      replace hKc := hK.sub (tys' := [(ca, .object "VotedTriple$VotedModule")]) [0] rfl
      refine vp_callSi (va_runV (C := "VotedTriple") (As := []) (rest := [.int r17]) ⟨hx, hb, hml, hown, hw⟩ (c_T_countTrusted l dC dI h0 p9 a9 e9 n9 o9 ca da ra ka uT F) (cwV 0 hw (gdV (k_595) (k_592) (k_594) (ks_10) (k_1)) rfl rfl rfl (by decide +kernel) ⟨Nat.le_of_ble_eq_true rfl, Nat.le_of_ble_eq_true rfl⟩) ⟨fun a U g mk q => ⟨q.1, q.2.1, va_K.moved (u := U) (U := U.calling g mk a) (Vm.Alike.refl U.vm) q.2.2⟩, va_recv hK hP rfl (q0 := 0) rfl, fun U hU hW => ⟨rfl, by rw [hU]; exact hPc, va_K.moved hW.alike hKc⟩⟩ rfl rfl hl.1 rfl (lv_room (Nat.le_of_ble_eq_true rfl)) d_T_compareDigests_67 ⟨Nat.le_of_ble_eq_true rfl, Nat.le_of_ble_eq_true rfl⟩).run (fun r19 hr20 => ?_)
      obtain ⟨hr20, hr20E⟩ := hr20
      refine lv_icmp_ne (tgt := 75) hx hb d_T_compareDigests_70 rfl (fun hc21 => ?_) (fun hc21 => ?_)
      · --  ¬ r17 = r19
        have hSq : SP = s_T_compareDigests_cv75 F := by rw [hSq0, s_T_compareDigests_cut24_3]; try (rw [if_pos rfl]); try (rw [← hr18E, bnd_eq]); try (rw [← hr20E, bnd_eq]); try (rw [if_neg hc21]); all_goals rfl
        replace hl := lv_sub hl (l' := [(0, .ref h0)]) [0] rfl
        replace hP := hP.sub (ws' := [(h0, .inr (0, oT uT p9 a9 e9 n9 o9)), (a9, .inl (ca, 3, .inr (.inr (.inr (.inr (mo da)))))), (da 0, .inr (2, oD (F 0) (ra 0) (ka 0))), (ra 0, .inl (cr 0, 8, .inl (g 0))), (da 1, .inr (2, oD (F 1) (ra 1) (ka 1))), (ra 1, .inl (cr 1, 8, .inl (g 1))), (da 2, .inr (2, oD (F 2) (ra 2) (ka 2))), (ra 2, .inl (cr 2, 8, .inl (g 2)))]) [0, 1, 2, 3, 4, 5, 6, 7] rfl
        replace hD := hD.sub (ws' := [(h0, .inr (0, oT uT p9 a9 e9 n9 o9)), (a9, .inl (ca, 3, .inr (.inr (.inr (.inr (mo da)))))), (da 0, .inr (2, oD (F 0) (ra 0) (ka 0))), (ra 0, .inl (cr 0, 8, .inl (g 0))), (da 1, .inr (2, oD (F 1) (ra 1) (ka 1))), (ra 1, .inl (cr 1, 8, .inl (g 1))), (da 2, .inr (2, oD (F 2) (ra 2) (ka 2))), (ra 2, .inl (cr 2, 8, .inl (g 2)))]) [0, 1, 2, 3, 4, 5, 6, 7] (by decide) rfl
        exact cv75 F _ _ _ hF hSq hl hP hD hS
      · --  r17 = r19
        refine lv_iconst (v := 1) hx hb d_T_compareDigests_73 (by decide) ?_
        have hP9 := hP.sub (ws' := [(h0, .inr (0, oT uT p9 a9 e9 n9 o9)), (a9, .inl (ca, 3, .inr (.inr (.inr (.inr (mo da)))))), (da 0, .inr (2, oD (F 0) (ra 0) (ka 0))), (ra 0, .inl (cr 0, 8, .inl (g 0))), (da 1, .inr (2, oD (F 1) (ra 1) (ka 1))), (ra 1, .inl (cr 1, 8, .inl (g 1))), (da 2, .inr (2, oD (F 2) (ra 2) (ka 2))), (ra 2, .inl (cr 2, 8, .inl (g 2)))]) [0, 1, 2, 3, 4, 5, 6, 7] rfl
        have hD9 := hD.sub (ws' := [(h0, .inr (0, oT uT p9 a9 e9 n9 o9)), (a9, .inl (ca, 3, .inr (.inr (.inr (.inr (mo da)))))), (da 0, .inr (2, oD (F 0) (ra 0) (ka 0))), (ra 0, .inl (cr 0, 8, .inl (g 0))), (da 1, .inr (2, oD (F 1) (ra 1) (ka 1))), (ra 1, .inl (cr 1, 8, .inl (g 1))), (da 2, .inr (2, oD (F 2) (ra 2) (ka 2))), (ra 2, .inl (cr 2, 8, .inl (g 2)))]) [0, 1, 2, 3, 4, 5, 6, 7] (by decide) rfl
        have hK9 := hK.sub (tys' := [(ca, .object "VotedTriple$VotedModule"), (cr 0, .int), (cr 1, .int), (cr 2, .int)]) [0, 1, 2, 3] rfl
        refine W.widen (k := 0) (n := 0) (Nat.le_of_ble_eq_true rfl) (Nat.le_of_ble_eq_true rfl) ?_
        exact W.zret (v := 1) (ty := .boolean) hx hb hr rfl (fun t ht hW => ⟨⟨_, (F), rfl, ⟨hF, (by rw [hSq0, s_T_compareDigests_cut24_3]; try (rw [if_pos rfl]); try (rw [← hr18E, bnd_eq]); try (rw [← hr20E, bnd_eq]); try (rw [if_pos hc21]); all_goals rfl)⟩, by rw [ht]; exact hP9, va_K.moved hW.alike hK9, hD9⟩, hS.F ht⟩) hS.2.2 d_T_compareDigests_74
    · --  1
      refine lv_aload_n hx hb d_T_compareDigests_53 rfl (lv_at hl 0 rfl) ?_
      refine lv_aload_n hx hb d_T_compareDigests_54 rfl (lv_at hl 0 rfl) ?_
      refine va_get (D := (dC, dI)) (ci := 0) (v := .ref a9) (C := "VotedTriple") (T := F_T) (N := 11) hx hb hw in_T hown hK hP 0 rfl rfl 1 (by decide) (hw _ k_195) (fun _ h9 => h9) rfl d_T_compareDigests_55 ?_
      refine lv_iload_n hx hb d_T_compareDigests_58 rfl (lv_at hl 1 rfl) ?_
      refine va_aldq hx hb hK hP 1 0 rfl rfl (by unfold vp_in; decide) d_T_compareDigests_59 ?_
      refine W.eq (g2 := F0 m 60 ls [.ref (da 1), .ref h0]) rfl ?_
      refine va_get (D := (dC, dI)) (ci := 2) (v := .int (F 1 18)) (C := "VotedTriple$VotedModule") (T := F_D) (N := 19) hx hb hw in_D hown hK hP 4 rfl rfl 18 (by decide) (hw _ k_161) (fun _ h9 => h9) rfl d_T_compareDigests_60 ?_
      replace hPc := hP.sub (ws' := [(h0, .inr (0, oT uT p9 a9 e9 n9 o9)), (a9, .inl (ca, 3, .inr (.inr (.inr (.inr (mo da)))))), (da 0, .inr (2, oD (F 0) (ra 0) (ka 0))), (da 1, .inr (2, oD (F 1) (ra 1) (ka 1))), (da 2, .inr (2, oD (F 2) (ra 2) (ka 2)))]) [0, 1, 2, 4, 6] rfl
      replace hKc := hK.sub (tys' := [(ca, .object "VotedTriple$VotedModule")]) [0] rfl
      refine vp_callSi (va_runV (C := "VotedTriple") (As := [.int (F 1 18)]) (rest := []) ⟨hx, hb, hml, hown, hw⟩ (c_T_countBallots l dC dI h0 p9 a9 e9 n9 o9 ca da ra ka uT F (F 1 18)) (cwV 1 hw (gdV (k_591) (k_588) (k_590) (ks_9) (k_1)) rfl rfl rfl (by decide +kernel) ⟨Nat.le_of_ble_eq_true rfl, Nat.le_of_ble_eq_true rfl⟩) ⟨fun a U g mk q => ⟨q.1, q.2.1, va_K.moved (u := U) (U := U.calling g mk a) (Vm.Alike.refl U.vm) q.2.2⟩, va_recv hK hP rfl (q0 := 0) rfl, fun U hU hW => ⟨rfl, by rw [hU]; exact hPc, va_K.moved hW.alike hKc⟩⟩ rfl rfl hl.1 rfl (lv_room (Nat.le_of_ble_eq_true rfl)) d_T_compareDigests_63 ⟨Nat.le_of_ble_eq_true rfl, Nat.le_of_ble_eq_true rfl⟩).run (fun r22 hr23 => ?_)
      obtain ⟨hr23, hr23E⟩ := hr23
      refine lv_aload_n hx hb d_T_compareDigests_66 rfl (lv_at hl 0 rfl) ?_
      replace hPc := hP.sub (ws' := [(h0, .inr (0, oT uT p9 a9 e9 n9 o9)), (a9, .inl (ca, 3, .inr (.inr (.inr (.inr (mo da)))))), (da 0, .inr (2, oD (F 0) (ra 0) (ka 0))), (da 1, .inr (2, oD (F 1) (ra 1) (ka 1))), (da 2, .inr (2, oD (F 2) (ra 2) (ka 2)))]) [0, 1, 2, 4, 6] rfl
      replace hKc := hK.sub (tys' := [(ca, .object "VotedTriple$VotedModule")]) [0] rfl
      refine vp_callSi (va_runV (C := "VotedTriple") (As := []) (rest := [.int r22]) ⟨hx, hb, hml, hown, hw⟩ (c_T_countTrusted l dC dI h0 p9 a9 e9 n9 o9 ca da ra ka uT F) (cwV 0 hw (gdV (k_595) (k_592) (k_594) (ks_10) (k_1)) rfl rfl rfl (by decide +kernel) ⟨Nat.le_of_ble_eq_true rfl, Nat.le_of_ble_eq_true rfl⟩) ⟨fun a U g mk q => ⟨q.1, q.2.1, va_K.moved (u := U) (U := U.calling g mk a) (Vm.Alike.refl U.vm) q.2.2⟩, va_recv hK hP rfl (q0 := 0) rfl, fun U hU hW => ⟨rfl, by rw [hU]; exact hPc, va_K.moved hW.alike hKc⟩⟩ rfl rfl hl.1 rfl (lv_room (Nat.le_of_ble_eq_true rfl)) d_T_compareDigests_67 ⟨Nat.le_of_ble_eq_true rfl, Nat.le_of_ble_eq_true rfl⟩).run (fun r24 hr25 => ?_)
      obtain ⟨hr25, hr25E⟩ := hr25
      refine lv_icmp_ne (tgt := 75) hx hb d_T_compareDigests_70 rfl (fun hc26 => ?_) (fun hc26 => ?_)
      · --  ¬ r22 = r24
        have hSq : SP = s_T_compareDigests_cv75 F := by rw [hSq0, s_T_compareDigests_cut24_3]; try (rw [if_neg (by decide)]); try (rw [if_pos rfl]); try (rw [← hr23E, bnd_eq]); try (rw [← hr25E, bnd_eq]); try (rw [if_neg hc26]); all_goals rfl
        replace hl := lv_sub hl (l' := [(0, .ref h0)]) [0] rfl
        replace hP := hP.sub (ws' := [(h0, .inr (0, oT uT p9 a9 e9 n9 o9)), (a9, .inl (ca, 3, .inr (.inr (.inr (.inr (mo da)))))), (da 0, .inr (2, oD (F 0) (ra 0) (ka 0))), (ra 0, .inl (cr 0, 8, .inl (g 0))), (da 1, .inr (2, oD (F 1) (ra 1) (ka 1))), (ra 1, .inl (cr 1, 8, .inl (g 1))), (da 2, .inr (2, oD (F 2) (ra 2) (ka 2))), (ra 2, .inl (cr 2, 8, .inl (g 2)))]) [0, 1, 2, 3, 4, 5, 6, 7] rfl
        replace hD := hD.sub (ws' := [(h0, .inr (0, oT uT p9 a9 e9 n9 o9)), (a9, .inl (ca, 3, .inr (.inr (.inr (.inr (mo da)))))), (da 0, .inr (2, oD (F 0) (ra 0) (ka 0))), (ra 0, .inl (cr 0, 8, .inl (g 0))), (da 1, .inr (2, oD (F 1) (ra 1) (ka 1))), (ra 1, .inl (cr 1, 8, .inl (g 1))), (da 2, .inr (2, oD (F 2) (ra 2) (ka 2))), (ra 2, .inl (cr 2, 8, .inl (g 2)))]) [0, 1, 2, 3, 4, 5, 6, 7] (by decide) rfl
        exact cv75 F _ _ _ hF hSq hl hP hD hS
      · --  r22 = r24
        refine lv_iconst (v := 1) hx hb d_T_compareDigests_73 (by decide) ?_
        have hP9 := hP.sub (ws' := [(h0, .inr (0, oT uT p9 a9 e9 n9 o9)), (a9, .inl (ca, 3, .inr (.inr (.inr (.inr (mo da)))))), (da 0, .inr (2, oD (F 0) (ra 0) (ka 0))), (ra 0, .inl (cr 0, 8, .inl (g 0))), (da 1, .inr (2, oD (F 1) (ra 1) (ka 1))), (ra 1, .inl (cr 1, 8, .inl (g 1))), (da 2, .inr (2, oD (F 2) (ra 2) (ka 2))), (ra 2, .inl (cr 2, 8, .inl (g 2)))]) [0, 1, 2, 3, 4, 5, 6, 7] rfl
        have hD9 := hD.sub (ws' := [(h0, .inr (0, oT uT p9 a9 e9 n9 o9)), (a9, .inl (ca, 3, .inr (.inr (.inr (.inr (mo da)))))), (da 0, .inr (2, oD (F 0) (ra 0) (ka 0))), (ra 0, .inl (cr 0, 8, .inl (g 0))), (da 1, .inr (2, oD (F 1) (ra 1) (ka 1))), (ra 1, .inl (cr 1, 8, .inl (g 1))), (da 2, .inr (2, oD (F 2) (ra 2) (ka 2))), (ra 2, .inl (cr 2, 8, .inl (g 2)))]) [0, 1, 2, 3, 4, 5, 6, 7] (by decide) rfl
        have hK9 := hK.sub (tys' := [(ca, .object "VotedTriple$VotedModule"), (cr 0, .int), (cr 1, .int), (cr 2, .int)]) [0, 1, 2, 3] rfl
        refine W.widen (k := 0) (n := 0) (Nat.le_of_ble_eq_true rfl) (Nat.le_of_ble_eq_true rfl) ?_
        exact W.zret (v := 1) (ty := .boolean) hx hb hr rfl (fun t ht hW => ⟨⟨_, (F), rfl, ⟨hF, (by rw [hSq0, s_T_compareDigests_cut24_3]; try (rw [if_neg (by decide)]); try (rw [if_pos rfl]); try (rw [← hr23E, bnd_eq]); try (rw [← hr25E, bnd_eq]); try (rw [if_pos hc26]); all_goals rfl)⟩, by rw [ht]; exact hP9, va_K.moved hW.alike hK9, hD9⟩, hS.F ht⟩) hS.2.2 d_T_compareDigests_74
    · --  2
      refine lv_aload_n hx hb d_T_compareDigests_53 rfl (lv_at hl 0 rfl) ?_
      refine lv_aload_n hx hb d_T_compareDigests_54 rfl (lv_at hl 0 rfl) ?_
      refine va_get (D := (dC, dI)) (ci := 0) (v := .ref a9) (C := "VotedTriple") (T := F_T) (N := 11) hx hb hw in_T hown hK hP 0 rfl rfl 1 (by decide) (hw _ k_195) (fun _ h9 => h9) rfl d_T_compareDigests_55 ?_
      refine lv_iload_n hx hb d_T_compareDigests_58 rfl (lv_at hl 1 rfl) ?_
      refine va_aldq hx hb hK hP 1 0 rfl rfl (by unfold vp_in; decide) d_T_compareDigests_59 ?_
      refine W.eq (g2 := F0 m 60 ls [.ref (da 2), .ref h0]) rfl ?_
      refine va_get (D := (dC, dI)) (ci := 2) (v := .int (F 2 18)) (C := "VotedTriple$VotedModule") (T := F_D) (N := 19) hx hb hw in_D hown hK hP 6 rfl rfl 18 (by decide) (hw _ k_161) (fun _ h9 => h9) rfl d_T_compareDigests_60 ?_
      replace hPc := hP.sub (ws' := [(h0, .inr (0, oT uT p9 a9 e9 n9 o9)), (a9, .inl (ca, 3, .inr (.inr (.inr (.inr (mo da)))))), (da 0, .inr (2, oD (F 0) (ra 0) (ka 0))), (da 1, .inr (2, oD (F 1) (ra 1) (ka 1))), (da 2, .inr (2, oD (F 2) (ra 2) (ka 2)))]) [0, 1, 2, 4, 6] rfl
      replace hKc := hK.sub (tys' := [(ca, .object "VotedTriple$VotedModule")]) [0] rfl
      refine vp_callSi (va_runV (C := "VotedTriple") (As := [.int (F 2 18)]) (rest := []) ⟨hx, hb, hml, hown, hw⟩ (c_T_countBallots l dC dI h0 p9 a9 e9 n9 o9 ca da ra ka uT F (F 2 18)) (cwV 1 hw (gdV (k_591) (k_588) (k_590) (ks_9) (k_1)) rfl rfl rfl (by decide +kernel) ⟨Nat.le_of_ble_eq_true rfl, Nat.le_of_ble_eq_true rfl⟩) ⟨fun a U g mk q => ⟨q.1, q.2.1, va_K.moved (u := U) (U := U.calling g mk a) (Vm.Alike.refl U.vm) q.2.2⟩, va_recv hK hP rfl (q0 := 0) rfl, fun U hU hW => ⟨rfl, by rw [hU]; exact hPc, va_K.moved hW.alike hKc⟩⟩ rfl rfl hl.1 rfl (lv_room (Nat.le_of_ble_eq_true rfl)) d_T_compareDigests_63 ⟨Nat.le_of_ble_eq_true rfl, Nat.le_of_ble_eq_true rfl⟩).run (fun r27 hr28 => ?_)
      obtain ⟨hr28, hr28E⟩ := hr28
      refine lv_aload_n hx hb d_T_compareDigests_66 rfl (lv_at hl 0 rfl) ?_
      replace hPc := hP.sub (ws' := [(h0, .inr (0, oT uT p9 a9 e9 n9 o9)), (a9, .inl (ca, 3, .inr (.inr (.inr (.inr (mo da)))))), (da 0, .inr (2, oD (F 0) (ra 0) (ka 0))), (da 1, .inr (2, oD (F 1) (ra 1) (ka 1))), (da 2, .inr (2, oD (F 2) (ra 2) (ka 2)))]) [0, 1, 2, 4, 6] rfl
      replace hKc := hK.sub (tys' := [(ca, .object "VotedTriple$VotedModule")]) [0] rfl
      refine vp_callSi (va_runV (C := "VotedTriple") (As := []) (rest := [.int r27]) ⟨hx, hb, hml, hown, hw⟩ (c_T_countTrusted l dC dI h0 p9 a9 e9 n9 o9 ca da ra ka uT F) (cwV 0 hw (gdV (k_595) (k_592) (k_594) (ks_10) (k_1)) rfl rfl rfl (by decide +kernel) ⟨Nat.le_of_ble_eq_true rfl, Nat.le_of_ble_eq_true rfl⟩) ⟨fun a U g mk q => ⟨q.1, q.2.1, va_K.moved (u := U) (U := U.calling g mk a) (Vm.Alike.refl U.vm) q.2.2⟩, va_recv hK hP rfl (q0 := 0) rfl, fun U hU hW => ⟨rfl, by rw [hU]; exact hPc, va_K.moved hW.alike hKc⟩⟩ rfl rfl hl.1 rfl (lv_room (Nat.le_of_ble_eq_true rfl)) d_T_compareDigests_67 ⟨Nat.le_of_ble_eq_true rfl, Nat.le_of_ble_eq_true rfl⟩).run (fun r29 hr30 => ?_)
      obtain ⟨hr30, hr30E⟩ := hr30
      refine lv_icmp_ne (tgt := 75) hx hb d_T_compareDigests_70 rfl (fun hc31 => ?_) (fun hc31 => ?_)
      · --  ¬ r27 = r29
        have hSq : SP = s_T_compareDigests_cv75 F := by rw [hSq0, s_T_compareDigests_cut24_3]; try (rw [if_neg (by decide)]); try (rw [if_neg (by decide)]); try (rw [← hr28E, bnd_eq]); try (rw [← hr30E, bnd_eq]); try (rw [if_neg hc31]); all_goals rfl
        replace hl := lv_sub hl (l' := [(0, .ref h0)]) [0] rfl
        replace hP := hP.sub (ws' := [(h0, .inr (0, oT uT p9 a9 e9 n9 o9)), (a9, .inl (ca, 3, .inr (.inr (.inr (.inr (mo da)))))), (da 0, .inr (2, oD (F 0) (ra 0) (ka 0))), (ra 0, .inl (cr 0, 8, .inl (g 0))), (da 1, .inr (2, oD (F 1) (ra 1) (ka 1))), (ra 1, .inl (cr 1, 8, .inl (g 1))), (da 2, .inr (2, oD (F 2) (ra 2) (ka 2))), (ra 2, .inl (cr 2, 8, .inl (g 2)))]) [0, 1, 2, 3, 4, 5, 6, 7] rfl
        replace hD := hD.sub (ws' := [(h0, .inr (0, oT uT p9 a9 e9 n9 o9)), (a9, .inl (ca, 3, .inr (.inr (.inr (.inr (mo da)))))), (da 0, .inr (2, oD (F 0) (ra 0) (ka 0))), (ra 0, .inl (cr 0, 8, .inl (g 0))), (da 1, .inr (2, oD (F 1) (ra 1) (ka 1))), (ra 1, .inl (cr 1, 8, .inl (g 1))), (da 2, .inr (2, oD (F 2) (ra 2) (ka 2))), (ra 2, .inl (cr 2, 8, .inl (g 2)))]) [0, 1, 2, 3, 4, 5, 6, 7] (by decide) rfl
        exact cv75 F _ _ _ hF hSq hl hP hD hS
      · --  r27 = r29
        refine lv_iconst (v := 1) hx hb d_T_compareDigests_73 (by decide) ?_
        have hP9 := hP.sub (ws' := [(h0, .inr (0, oT uT p9 a9 e9 n9 o9)), (a9, .inl (ca, 3, .inr (.inr (.inr (.inr (mo da)))))), (da 0, .inr (2, oD (F 0) (ra 0) (ka 0))), (ra 0, .inl (cr 0, 8, .inl (g 0))), (da 1, .inr (2, oD (F 1) (ra 1) (ka 1))), (ra 1, .inl (cr 1, 8, .inl (g 1))), (da 2, .inr (2, oD (F 2) (ra 2) (ka 2))), (ra 2, .inl (cr 2, 8, .inl (g 2)))]) [0, 1, 2, 3, 4, 5, 6, 7] rfl
        have hD9 := hD.sub (ws' := [(h0, .inr (0, oT uT p9 a9 e9 n9 o9)), (a9, .inl (ca, 3, .inr (.inr (.inr (.inr (mo da)))))), (da 0, .inr (2, oD (F 0) (ra 0) (ka 0))), (ra 0, .inl (cr 0, 8, .inl (g 0))), (da 1, .inr (2, oD (F 1) (ra 1) (ka 1))), (ra 1, .inl (cr 1, 8, .inl (g 1))), (da 2, .inr (2, oD (F 2) (ra 2) (ka 2))), (ra 2, .inl (cr 2, 8, .inl (g 2)))]) [0, 1, 2, 3, 4, 5, 6, 7] (by decide) rfl
        have hK9 := hK.sub (tys' := [(ca, .object "VotedTriple$VotedModule"), (cr 0, .int), (cr 1, .int), (cr 2, .int)]) [0, 1, 2, 3] rfl
        refine W.widen (k := 0) (n := 0) (Nat.le_of_ble_eq_true rfl) (Nat.le_of_ble_eq_true rfl) ?_
        exact W.zret (v := 1) (ty := .boolean) hx hb hr rfl (fun t ht hW => ⟨⟨_, (F), rfl, ⟨hF, (by rw [hSq0, s_T_compareDigests_cut24_3]; try (rw [if_neg (by decide)]); try (rw [if_neg (by decide)]); try (rw [← hr28E, bnd_eq]); try (rw [← hr30E, bnd_eq]); try (rw [if_pos hc31]); all_goals rfl)⟩, by rw [ht]; exact hP9, va_K.moved hW.alike hK9, hD9⟩, hS.F ht⟩) hS.2.2 d_T_compareDigests_74
  have cut24_2 : ∀ (F : Nat → Nat → Int32) (w1 : Int32) (ls : Array Slot) (H : Heap) (locs : List Loc), f3 F → (w1 = 0 ∨ w1 = 1 ∨ w1 = 2) → SP = s_T_compareDigests_cut24_2 g F w1 →  lv_has ls 3 [(0, .ref h0), (1, .int w1), (2, .int 2)] → va_P (dC, dI) classes [(h0, .inr (0, oT uT p9 a9 e9 n9 o9)), (a9, .inl (ca, 3, .inr (.inr (.inr (.inr (mo da)))))), (da 0, .inr (2, oD (F 0) (ra 0) (ka 0))), (ra 0, .inl (cr 0, 8, .inl (g 0))), (da 1, .inr (2, oD (F 1) (ra 1) (ka 1))), (ra 1, .inl (cr 1, 8, .inl (g 1))), (da 2, .inr (2, oD (F 2) (ra 2) (ka 2))), (ra 2, .inl (cr 2, 8, .inl (g 2)))] H → va_D A [(h0, .inr (0, oT uT p9 a9 e9 n9 o9)), (a9, .inl (ca, 3, .inr (.inr (.inr (.inr (mo da)))))), (da 0, .inr (2, oD (F 0) (ra 0) (ka 0))), (ra 0, .inl (cr 0, 8, .inl (g 0))), (da 1, .inr (2, oD (F 1) (ra 1) (ka 1))), (ra 1, .inl (cr 1, 8, .inl (g 1))), (da 2, .inr (2, oD (F 2) (ra 2) (ka 2))), (ra 2, .inl (cr 2, 8, .inl (g 2)))] → va_S A s.heap H locs → W p l e (headSpec (tbw y_T_compareDigests b_T_compareDigests 3 (some .boolean)) ({ frames := 3, cells := 0, slots := 0, locals := 64 })).room s m ([.ref h0] : List Value).toArray below meth c H locs 0 0 (MQ below (va_Qi (fun (r : Int32) (u9 : (Nat → Nat → Int32)) => match u9 with | F2 => (f3 F2) ∧ (r, F2) = SP) (fun (u9 : (Nat → Nat → Int32)) t => match u9 with | F2 => va_P (dC, dI) classes [(h0, .inr (0, oT uT p9 a9 e9 n9 o9)), (a9, .inl (ca, 3, .inr (.inr (.inr (.inr (mo da)))))), (da 0, .inr (2, oD (F2 0) (ra 0) (ka 0))), (ra 0, .inl (cr 0, 8, .inl (g 0))), (da 1, .inr (2, oD (F2 1) (ra 1) (ka 1))), (ra 1, .inl (cr 1, 8, .inl (g 1))), (da 2, .inr (2, oD (F2 2) (ra 2) (ka 2))), (ra 2, .inl (cr 2, 8, .inl (g 2)))] t.heap ∧ va_K (dC, dI) classes [(ca, .object "VotedTriple$VotedModule"), (cr 0, .int), (cr 1, .int), (cr 2, .int)] t ∧ va_D A [(h0, .inr (0, oT uT p9 a9 e9 n9 o9)), (a9, .inl (ca, 3, .inr (.inr (.inr (.inr (mo da)))))), (da 0, .inr (2, oD (F2 0) (ra 0) (ka 0))), (ra 0, .inl (cr 0, 8, .inl (g 0))), (da 1, .inr (2, oD (F2 1) (ra 1) (ka 1))), (ra 1, .inl (cr 1, 8, .inl (g 1))), (da 2, .inr (2, oD (F2 2) (ra 2) (ka 2))), (ra 2, .inl (cr 2, 8, .inl (g 2)))]) A) ([.ref h0] : List Value).toArray s 0 0 A) (F0 m 24 ls []) := by
    intro F w1 ls H locs hF h19 hSq0 hl hP hD hS
    clear cv75
    refine lv_iload_n hx hb d_T_compareDigests_24 rfl (lv_at hl 2 rfl) ?_
    refine lv_iconst (v := 3) hx hb d_T_compareDigests_25 (by decide) ?_
    refine lv_icmp_ge (tgt := 53) hx hb d_T_compareDigests_26 rfl (fun hc32 => by first | exact absurd hc32 (by decide) | exact absurd (by decide) hc32) (fun hc32 => ?_)
    refine lv_aload_n hx hb d_T_compareDigests_29 rfl (lv_at hl 0 rfl) ?_
    refine va_get (D := (dC, dI)) (ci := 0) (v := .ref a9) (C := "VotedTriple") (T := F_T) (N := 11) hx hb hw in_T hown hK hP 0 rfl rfl 1 (by decide) (hw _ k_195) (fun _ h9 => h9) rfl d_T_compareDigests_30 ?_
    refine lv_iload_n hx hb d_T_compareDigests_33 rfl (lv_at hl 2 rfl) ?_
    refine va_aldq hx hb hK hP 1 0 rfl rfl (by unfold vp_in; decide) d_T_compareDigests_34 ?_
    refine W.eq (g2 := F0 m 35 ls [.ref (da 2)]) rfl ?_
    refine lv_aload_n hx hb d_T_compareDigests_35 rfl (lv_at hl 0 rfl) ?_
    refine va_get (D := (dC, dI)) (ci := 0) (v := .ref a9) (C := "VotedTriple") (T := F_T) (N := 11) hx hb hw in_T hown hK hP 0 rfl rfl 1 (by decide) (hw _ k_195) (fun _ h9 => h9) rfl d_T_compareDigests_36 ?_
    refine lv_iload_n hx hb d_T_compareDigests_39 rfl (lv_at hl 2 rfl) ?_
    refine va_aldq hx hb hK hP 1 0 rfl rfl (by unfold vp_in; decide) d_T_compareDigests_40 ?_
    refine W.eq (g2 := F0 m 41 ls [.ref (da 2), .ref (da 2)]) rfl ?_
    replace hPc := hP.sub (ws' := [(da 2, .inr (2, oD (F 2) (ra 2) (ka 2))), (ra 2, .inl (cr 2, 8, .inl (g 2)))]) [6, 7] rfl
    replace hKc := hK.sub (tys' := [(cr 2, .int)]) [3] rfl
    refine vp_callSi (va_runV (C := "VotedTriple$VotedModule") (As := []) (rest := [.ref (da 2)]) ⟨hx, hb, hml, hown, hw⟩ (c_D_digest l dC dI (da 2) (ra 2) (ka 2) (F 2) (cr 2) (g 2)) (cwV 0 hw (gdV (k_642) (k_639) (k_640) (k_641) (k_7)) rfl rfl rfl (by decide +kernel) ⟨Nat.le_of_ble_eq_true rfl, Nat.le_of_ble_eq_true rfl⟩) ⟨fun a U g mk q => ⟨q.1, q.2.1, va_K.moved (u := U) (U := U.calling g mk a) (Vm.Alike.refl U.vm) q.2.2⟩, va_recv hK hP rfl (q0 := 6) rfl, fun U hU hW => ⟨rfl, by rw [hU]; exact hPc, va_K.moved hW.alike hKc⟩⟩ rfl rfl hl.1 rfl (lv_room (Nat.le_of_ble_eq_true rfl)) d_T_compareDigests_41 ⟨Nat.le_of_ble_eq_true rfl, Nat.le_of_ble_eq_true rfl⟩).run (fun r33 hr34 => ?_)
    obtain ⟨hr34, hr34E⟩ := hr34
    refine va_put (D := (dC, dI)) (ci := 2) (v := .int r33) (ty := .int) (C := "VotedTriple$VotedModule") (T := F_D) (N := 19) hx hb hw in_D ft_D tyok_D nm_D hown hK hP hD hS 6 rfl rfl 18 (by decide) (hw _ k_161) (fun _ h9 => h9) rfl (by decide +kernel) rfl rfl (Nat.le_of_ble_eq_true rfl) d_T_compareDigests_44 (fun H locs hP hD hS => ?_)
    replace hP : va_P (dC, dI) classes [(h0, .inr (0, oT uT p9 a9 e9 n9 o9)), (a9, .inl (ca, 3, .inr (.inr (.inr (.inr (mo da)))))), (da 0, .inr (2, oD (F 0) (ra 0) (ka 0))), (ra 0, .inl (cr 0, 8, .inl (g 0))), (da 1, .inr (2, oD (F 1) (ra 1) (ka 1))), (ra 1, .inl (cr 1, 8, .inl (g 1))), (da 2, .inr (2, [.ref (ra 2), .int (F 2 1), .int (F 2 2), .int (F 2 3), .int (F 2 4), .int (F 2 5), .int (F 2 6), .ref (ka 2), .int (F 2 8), .int (F 2 9), .int (F 2 10), .int (F 2 11), .int (F 2 12), .int (F 2 13), .int (F 2 14), .int (F 2 15), .int (F 2 16), .int (F 2 17), .int r33])), (ra 2, .inl (cr 2, 8, .inl (g 2)))] H := hP
    replace hD : va_D A [(h0, .inr (0, oT uT p9 a9 e9 n9 o9)), (a9, .inl (ca, 3, .inr (.inr (.inr (.inr (mo da)))))), (da 0, .inr (2, oD (F 0) (ra 0) (ka 0))), (ra 0, .inl (cr 0, 8, .inl (g 0))), (da 1, .inr (2, oD (F 1) (ra 1) (ka 1))), (ra 1, .inl (cr 1, 8, .inl (g 1))), (da 2, .inr (2, [.ref (ra 2), .int (F 2 1), .int (F 2 2), .int (F 2 3), .int (F 2 4), .int (F 2 5), .int (F 2 6), .ref (ka 2), .int (F 2 8), .int (F 2 9), .int (F 2 10), .int (F 2 11), .int (F 2 12), .int (F 2 13), .int (F 2 14), .int (F 2 15), .int (F 2 16), .int (F 2 17), .int r33])), (ra 2, .inl (cr 2, 8, .inl (g 2)))] := hD
    refine lv_iinc (k := 2) (v := 3) hx hb d_T_compareDigests_47 hl rfl rfl (by decide) rfl (fun ls hl => ?_)
    replace hl : lv_has ls 3 [(2, .int 3), (0, .ref h0), (1, .int w1)] := hl
    refine lv_goto (tgt := 24) hx hb d_T_compareDigests_50 rfl ?_
    have hSq : SP = s_T_compareDigests_cut24_3 (tri (F 0) (F 1) (upc (F 2) 18 r33)) w1 := by rw [hSq0, s_T_compareDigests_cut24_2]; try (rw [← hr34E, bnd_eq]); all_goals rfl
    replace hl := lv_sub hl (l' := [(0, .ref h0), (1, .int w1), (2, .int 3)]) [1, 2, 0] rfl
    replace hP := hP.sub (ws' := [(h0, .inr (0, oT uT p9 a9 e9 n9 o9)), (a9, .inl (ca, 3, .inr (.inr (.inr (.inr (mo da)))))), (da 0, .inr (2, oD (tri (F 0) (F 1) (upc (F 2) 18 r33) 0) (ra 0) (ka 0))), (ra 0, .inl (cr 0, 8, .inl (g 0))), (da 1, .inr (2, oD (tri (F 0) (F 1) (upc (F 2) 18 r33) 1) (ra 1) (ka 1))), (ra 1, .inl (cr 1, 8, .inl (g 1))), (da 2, .inr (2, oD (tri (F 0) (F 1) (upc (F 2) 18 r33) 2) (ra 2) (ka 2))), (ra 2, .inl (cr 2, 8, .inl (g 2)))]) [0, 1, 2, 3, 4, 5, 6, 7] rfl
    replace hD := hD.sub (ws' := [(h0, .inr (0, oT uT p9 a9 e9 n9 o9)), (a9, .inl (ca, 3, .inr (.inr (.inr (.inr (mo da)))))), (da 0, .inr (2, oD (tri (F 0) (F 1) (upc (F 2) 18 r33) 0) (ra 0) (ka 0))), (ra 0, .inl (cr 0, 8, .inl (g 0))), (da 1, .inr (2, oD (tri (F 0) (F 1) (upc (F 2) 18 r33) 1) (ra 1) (ka 1))), (ra 1, .inl (cr 1, 8, .inl (g 1))), (da 2, .inr (2, oD (tri (F 0) (F 1) (upc (F 2) 18 r33) 2) (ra 2) (ka 2))), (ra 2, .inl (cr 2, 8, .inl (g 2)))]) [0, 1, 2, 3, 4, 5, 6, 7] (by decide) rfl
    exact cut24_3 (tri (F 0) (F 1) (upc (F 2) 18 r33)) w1 _ _ _ hF h19 hSq hl hP hD hS
  have cut24_1 : ∀ (F : Nat → Nat → Int32) (w1 : Int32) (ls : Array Slot) (H : Heap) (locs : List Loc), f3 F → (w1 = 0 ∨ w1 = 1 ∨ w1 = 2) → SP = s_T_compareDigests_cut24_1 g F w1 →  lv_has ls 3 [(0, .ref h0), (1, .int w1), (2, .int 1)] → va_P (dC, dI) classes [(h0, .inr (0, oT uT p9 a9 e9 n9 o9)), (a9, .inl (ca, 3, .inr (.inr (.inr (.inr (mo da)))))), (da 0, .inr (2, oD (F 0) (ra 0) (ka 0))), (ra 0, .inl (cr 0, 8, .inl (g 0))), (da 1, .inr (2, oD (F 1) (ra 1) (ka 1))), (ra 1, .inl (cr 1, 8, .inl (g 1))), (da 2, .inr (2, oD (F 2) (ra 2) (ka 2))), (ra 2, .inl (cr 2, 8, .inl (g 2)))] H → va_D A [(h0, .inr (0, oT uT p9 a9 e9 n9 o9)), (a9, .inl (ca, 3, .inr (.inr (.inr (.inr (mo da)))))), (da 0, .inr (2, oD (F 0) (ra 0) (ka 0))), (ra 0, .inl (cr 0, 8, .inl (g 0))), (da 1, .inr (2, oD (F 1) (ra 1) (ka 1))), (ra 1, .inl (cr 1, 8, .inl (g 1))), (da 2, .inr (2, oD (F 2) (ra 2) (ka 2))), (ra 2, .inl (cr 2, 8, .inl (g 2)))] → va_S A s.heap H locs → W p l e (headSpec (tbw y_T_compareDigests b_T_compareDigests 3 (some .boolean)) ({ frames := 3, cells := 0, slots := 0, locals := 64 })).room s m ([.ref h0] : List Value).toArray below meth c H locs 0 0 (MQ below (va_Qi (fun (r : Int32) (u9 : (Nat → Nat → Int32)) => match u9 with | F2 => (f3 F2) ∧ (r, F2) = SP) (fun (u9 : (Nat → Nat → Int32)) t => match u9 with | F2 => va_P (dC, dI) classes [(h0, .inr (0, oT uT p9 a9 e9 n9 o9)), (a9, .inl (ca, 3, .inr (.inr (.inr (.inr (mo da)))))), (da 0, .inr (2, oD (F2 0) (ra 0) (ka 0))), (ra 0, .inl (cr 0, 8, .inl (g 0))), (da 1, .inr (2, oD (F2 1) (ra 1) (ka 1))), (ra 1, .inl (cr 1, 8, .inl (g 1))), (da 2, .inr (2, oD (F2 2) (ra 2) (ka 2))), (ra 2, .inl (cr 2, 8, .inl (g 2)))] t.heap ∧ va_K (dC, dI) classes [(ca, .object "VotedTriple$VotedModule"), (cr 0, .int), (cr 1, .int), (cr 2, .int)] t ∧ va_D A [(h0, .inr (0, oT uT p9 a9 e9 n9 o9)), (a9, .inl (ca, 3, .inr (.inr (.inr (.inr (mo da)))))), (da 0, .inr (2, oD (F2 0) (ra 0) (ka 0))), (ra 0, .inl (cr 0, 8, .inl (g 0))), (da 1, .inr (2, oD (F2 1) (ra 1) (ka 1))), (ra 1, .inl (cr 1, 8, .inl (g 1))), (da 2, .inr (2, oD (F2 2) (ra 2) (ka 2))), (ra 2, .inl (cr 2, 8, .inl (g 2)))]) A) ([.ref h0] : List Value).toArray s 0 0 A) (F0 m 24 ls []) := by
    intro F w1 ls H locs hF h19 hSq0 hl hP hD hS
    clear cv75 cut24_3
    refine lv_iload_n hx hb d_T_compareDigests_24 rfl (lv_at hl 2 rfl) ?_
    refine lv_iconst (v := 3) hx hb d_T_compareDigests_25 (by decide) ?_
    refine lv_icmp_ge (tgt := 53) hx hb d_T_compareDigests_26 rfl (fun hc35 => by first | exact absurd hc35 (by decide) | exact absurd (by decide) hc35) (fun hc35 => ?_)
    refine lv_aload_n hx hb d_T_compareDigests_29 rfl (lv_at hl 0 rfl) ?_
    refine va_get (D := (dC, dI)) (ci := 0) (v := .ref a9) (C := "VotedTriple") (T := F_T) (N := 11) hx hb hw in_T hown hK hP 0 rfl rfl 1 (by decide) (hw _ k_195) (fun _ h9 => h9) rfl d_T_compareDigests_30 ?_
    refine lv_iload_n hx hb d_T_compareDigests_33 rfl (lv_at hl 2 rfl) ?_
    refine va_aldq hx hb hK hP 1 0 rfl rfl (by unfold vp_in; decide) d_T_compareDigests_34 ?_
    refine W.eq (g2 := F0 m 35 ls [.ref (da 1)]) rfl ?_
    refine lv_aload_n hx hb d_T_compareDigests_35 rfl (lv_at hl 0 rfl) ?_
    refine va_get (D := (dC, dI)) (ci := 0) (v := .ref a9) (C := "VotedTriple") (T := F_T) (N := 11) hx hb hw in_T hown hK hP 0 rfl rfl 1 (by decide) (hw _ k_195) (fun _ h9 => h9) rfl d_T_compareDigests_36 ?_
    refine lv_iload_n hx hb d_T_compareDigests_39 rfl (lv_at hl 2 rfl) ?_
    refine va_aldq hx hb hK hP 1 0 rfl rfl (by unfold vp_in; decide) d_T_compareDigests_40 ?_
    refine W.eq (g2 := F0 m 41 ls [.ref (da 1), .ref (da 1)]) rfl ?_
    replace hPc := hP.sub (ws' := [(da 1, .inr (2, oD (F 1) (ra 1) (ka 1))), (ra 1, .inl (cr 1, 8, .inl (g 1)))]) [4, 5] rfl
    replace hKc := hK.sub (tys' := [(cr 1, .int)]) [2] rfl
    refine vp_callSi (va_runV (C := "VotedTriple$VotedModule") (As := []) (rest := [.ref (da 1)]) ⟨hx, hb, hml, hown, hw⟩ (c_D_digest l dC dI (da 1) (ra 1) (ka 1) (F 1) (cr 1) (g 1)) (cwV 0 hw (gdV (k_642) (k_639) (k_640) (k_641) (k_7)) rfl rfl rfl (by decide +kernel) ⟨Nat.le_of_ble_eq_true rfl, Nat.le_of_ble_eq_true rfl⟩) ⟨fun a U g mk q => ⟨q.1, q.2.1, va_K.moved (u := U) (U := U.calling g mk a) (Vm.Alike.refl U.vm) q.2.2⟩, va_recv hK hP rfl (q0 := 4) rfl, fun U hU hW => ⟨rfl, by rw [hU]; exact hPc, va_K.moved hW.alike hKc⟩⟩ rfl rfl hl.1 rfl (lv_room (Nat.le_of_ble_eq_true rfl)) d_T_compareDigests_41 ⟨Nat.le_of_ble_eq_true rfl, Nat.le_of_ble_eq_true rfl⟩).run (fun r36 hr37 => ?_)
    obtain ⟨hr37, hr37E⟩ := hr37
    refine va_put (D := (dC, dI)) (ci := 2) (v := .int r36) (ty := .int) (C := "VotedTriple$VotedModule") (T := F_D) (N := 19) hx hb hw in_D ft_D tyok_D nm_D hown hK hP hD hS 4 rfl rfl 18 (by decide) (hw _ k_161) (fun _ h9 => h9) rfl (by decide +kernel) rfl rfl (Nat.le_of_ble_eq_true rfl) d_T_compareDigests_44 (fun H locs hP hD hS => ?_)
    replace hP : va_P (dC, dI) classes [(h0, .inr (0, oT uT p9 a9 e9 n9 o9)), (a9, .inl (ca, 3, .inr (.inr (.inr (.inr (mo da)))))), (da 0, .inr (2, oD (F 0) (ra 0) (ka 0))), (ra 0, .inl (cr 0, 8, .inl (g 0))), (da 1, .inr (2, [.ref (ra 1), .int (F 1 1), .int (F 1 2), .int (F 1 3), .int (F 1 4), .int (F 1 5), .int (F 1 6), .ref (ka 1), .int (F 1 8), .int (F 1 9), .int (F 1 10), .int (F 1 11), .int (F 1 12), .int (F 1 13), .int (F 1 14), .int (F 1 15), .int (F 1 16), .int (F 1 17), .int r36])), (ra 1, .inl (cr 1, 8, .inl (g 1))), (da 2, .inr (2, oD (F 2) (ra 2) (ka 2))), (ra 2, .inl (cr 2, 8, .inl (g 2)))] H := hP
    replace hD : va_D A [(h0, .inr (0, oT uT p9 a9 e9 n9 o9)), (a9, .inl (ca, 3, .inr (.inr (.inr (.inr (mo da)))))), (da 0, .inr (2, oD (F 0) (ra 0) (ka 0))), (ra 0, .inl (cr 0, 8, .inl (g 0))), (da 1, .inr (2, [.ref (ra 1), .int (F 1 1), .int (F 1 2), .int (F 1 3), .int (F 1 4), .int (F 1 5), .int (F 1 6), .ref (ka 1), .int (F 1 8), .int (F 1 9), .int (F 1 10), .int (F 1 11), .int (F 1 12), .int (F 1 13), .int (F 1 14), .int (F 1 15), .int (F 1 16), .int (F 1 17), .int r36])), (ra 1, .inl (cr 1, 8, .inl (g 1))), (da 2, .inr (2, oD (F 2) (ra 2) (ka 2))), (ra 2, .inl (cr 2, 8, .inl (g 2)))] := hD
    refine lv_iinc (k := 2) (v := 2) hx hb d_T_compareDigests_47 hl rfl rfl (by decide) rfl (fun ls hl => ?_)
    replace hl : lv_has ls 3 [(2, .int 2), (0, .ref h0), (1, .int w1)] := hl
    refine lv_goto (tgt := 24) hx hb d_T_compareDigests_50 rfl ?_
    have hSq : SP = s_T_compareDigests_cut24_2 g (tri (F 0) (upc (F 1) 18 r36) (F 2)) w1 := by rw [hSq0, s_T_compareDigests_cut24_1]; try (rw [← hr37E, bnd_eq]); all_goals rfl
    replace hl := lv_sub hl (l' := [(0, .ref h0), (1, .int w1), (2, .int 2)]) [1, 2, 0] rfl
    replace hP := hP.sub (ws' := [(h0, .inr (0, oT uT p9 a9 e9 n9 o9)), (a9, .inl (ca, 3, .inr (.inr (.inr (.inr (mo da)))))), (da 0, .inr (2, oD (tri (F 0) (upc (F 1) 18 r36) (F 2) 0) (ra 0) (ka 0))), (ra 0, .inl (cr 0, 8, .inl (g 0))), (da 1, .inr (2, oD (tri (F 0) (upc (F 1) 18 r36) (F 2) 1) (ra 1) (ka 1))), (ra 1, .inl (cr 1, 8, .inl (g 1))), (da 2, .inr (2, oD (tri (F 0) (upc (F 1) 18 r36) (F 2) 2) (ra 2) (ka 2))), (ra 2, .inl (cr 2, 8, .inl (g 2)))]) [0, 1, 2, 3, 4, 5, 6, 7] rfl
    replace hD := hD.sub (ws' := [(h0, .inr (0, oT uT p9 a9 e9 n9 o9)), (a9, .inl (ca, 3, .inr (.inr (.inr (.inr (mo da)))))), (da 0, .inr (2, oD (tri (F 0) (upc (F 1) 18 r36) (F 2) 0) (ra 0) (ka 0))), (ra 0, .inl (cr 0, 8, .inl (g 0))), (da 1, .inr (2, oD (tri (F 0) (upc (F 1) 18 r36) (F 2) 1) (ra 1) (ka 1))), (ra 1, .inl (cr 1, 8, .inl (g 1))), (da 2, .inr (2, oD (tri (F 0) (upc (F 1) 18 r36) (F 2) 2) (ra 2) (ka 2))), (ra 2, .inl (cr 2, 8, .inl (g 2)))]) [0, 1, 2, 3, 4, 5, 6, 7] (by decide) rfl
    exact cut24_2 (tri (F 0) (upc (F 1) 18 r36) (F 2)) w1 _ _ _ hF h19 hSq hl hP hD hS
  have cut24_0 : ∀ (F : Nat → Nat → Int32) (w1 : Int32) (ls : Array Slot) (H : Heap) (locs : List Loc), f3 F → (w1 = 0 ∨ w1 = 1 ∨ w1 = 2) → SP = s_T_compareDigests_cut24_0 g F w1 →  lv_has ls 3 [(0, .ref h0), (1, .int w1), (2, .int 0)] → va_P (dC, dI) classes [(h0, .inr (0, oT uT p9 a9 e9 n9 o9)), (a9, .inl (ca, 3, .inr (.inr (.inr (.inr (mo da)))))), (da 0, .inr (2, oD (F 0) (ra 0) (ka 0))), (ra 0, .inl (cr 0, 8, .inl (g 0))), (da 1, .inr (2, oD (F 1) (ra 1) (ka 1))), (ra 1, .inl (cr 1, 8, .inl (g 1))), (da 2, .inr (2, oD (F 2) (ra 2) (ka 2))), (ra 2, .inl (cr 2, 8, .inl (g 2)))] H → va_D A [(h0, .inr (0, oT uT p9 a9 e9 n9 o9)), (a9, .inl (ca, 3, .inr (.inr (.inr (.inr (mo da)))))), (da 0, .inr (2, oD (F 0) (ra 0) (ka 0))), (ra 0, .inl (cr 0, 8, .inl (g 0))), (da 1, .inr (2, oD (F 1) (ra 1) (ka 1))), (ra 1, .inl (cr 1, 8, .inl (g 1))), (da 2, .inr (2, oD (F 2) (ra 2) (ka 2))), (ra 2, .inl (cr 2, 8, .inl (g 2)))] → va_S A s.heap H locs → W p l e (headSpec (tbw y_T_compareDigests b_T_compareDigests 3 (some .boolean)) ({ frames := 3, cells := 0, slots := 0, locals := 64 })).room s m ([.ref h0] : List Value).toArray below meth c H locs 0 0 (MQ below (va_Qi (fun (r : Int32) (u9 : (Nat → Nat → Int32)) => match u9 with | F2 => (f3 F2) ∧ (r, F2) = SP) (fun (u9 : (Nat → Nat → Int32)) t => match u9 with | F2 => va_P (dC, dI) classes [(h0, .inr (0, oT uT p9 a9 e9 n9 o9)), (a9, .inl (ca, 3, .inr (.inr (.inr (.inr (mo da)))))), (da 0, .inr (2, oD (F2 0) (ra 0) (ka 0))), (ra 0, .inl (cr 0, 8, .inl (g 0))), (da 1, .inr (2, oD (F2 1) (ra 1) (ka 1))), (ra 1, .inl (cr 1, 8, .inl (g 1))), (da 2, .inr (2, oD (F2 2) (ra 2) (ka 2))), (ra 2, .inl (cr 2, 8, .inl (g 2)))] t.heap ∧ va_K (dC, dI) classes [(ca, .object "VotedTriple$VotedModule"), (cr 0, .int), (cr 1, .int), (cr 2, .int)] t ∧ va_D A [(h0, .inr (0, oT uT p9 a9 e9 n9 o9)), (a9, .inl (ca, 3, .inr (.inr (.inr (.inr (mo da)))))), (da 0, .inr (2, oD (F2 0) (ra 0) (ka 0))), (ra 0, .inl (cr 0, 8, .inl (g 0))), (da 1, .inr (2, oD (F2 1) (ra 1) (ka 1))), (ra 1, .inl (cr 1, 8, .inl (g 1))), (da 2, .inr (2, oD (F2 2) (ra 2) (ka 2))), (ra 2, .inl (cr 2, 8, .inl (g 2)))]) A) ([.ref h0] : List Value).toArray s 0 0 A) (F0 m 24 ls []) := by
    intro F w1 ls H locs hF h19 hSq0 hl hP hD hS
    clear cv75 cut24_3 cut24_2
    refine lv_iload_n hx hb d_T_compareDigests_24 rfl (lv_at hl 2 rfl) ?_
    refine lv_iconst (v := 3) hx hb d_T_compareDigests_25 (by decide) ?_
    refine lv_icmp_ge (tgt := 53) hx hb d_T_compareDigests_26 rfl (fun hc38 => by first | exact absurd hc38 (by decide) | exact absurd (by decide) hc38) (fun hc38 => ?_)
    refine lv_aload_n hx hb d_T_compareDigests_29 rfl (lv_at hl 0 rfl) ?_
    refine va_get (D := (dC, dI)) (ci := 0) (v := .ref a9) (C := "VotedTriple") (T := F_T) (N := 11) hx hb hw in_T hown hK hP 0 rfl rfl 1 (by decide) (hw _ k_195) (fun _ h9 => h9) rfl d_T_compareDigests_30 ?_
    refine lv_iload_n hx hb d_T_compareDigests_33 rfl (lv_at hl 2 rfl) ?_
    refine va_aldq hx hb hK hP 1 0 rfl rfl (by unfold vp_in; decide) d_T_compareDigests_34 ?_
    refine W.eq (g2 := F0 m 35 ls [.ref (da 0)]) rfl ?_
    refine lv_aload_n hx hb d_T_compareDigests_35 rfl (lv_at hl 0 rfl) ?_
    refine va_get (D := (dC, dI)) (ci := 0) (v := .ref a9) (C := "VotedTriple") (T := F_T) (N := 11) hx hb hw in_T hown hK hP 0 rfl rfl 1 (by decide) (hw _ k_195) (fun _ h9 => h9) rfl d_T_compareDigests_36 ?_
    refine lv_iload_n hx hb d_T_compareDigests_39 rfl (lv_at hl 2 rfl) ?_
    refine va_aldq hx hb hK hP 1 0 rfl rfl (by unfold vp_in; decide) d_T_compareDigests_40 ?_
    refine W.eq (g2 := F0 m 41 ls [.ref (da 0), .ref (da 0)]) rfl ?_
    replace hPc := hP.sub (ws' := [(da 0, .inr (2, oD (F 0) (ra 0) (ka 0))), (ra 0, .inl (cr 0, 8, .inl (g 0)))]) [2, 3] rfl
    replace hKc := hK.sub (tys' := [(cr 0, .int)]) [1] rfl
    refine vp_callSi (va_runV (C := "VotedTriple$VotedModule") (As := []) (rest := [.ref (da 0)]) ⟨hx, hb, hml, hown, hw⟩ (c_D_digest l dC dI (da 0) (ra 0) (ka 0) (F 0) (cr 0) (g 0)) (cwV 0 hw (gdV (k_642) (k_639) (k_640) (k_641) (k_7)) rfl rfl rfl (by decide +kernel) ⟨Nat.le_of_ble_eq_true rfl, Nat.le_of_ble_eq_true rfl⟩) ⟨fun a U g mk q => ⟨q.1, q.2.1, va_K.moved (u := U) (U := U.calling g mk a) (Vm.Alike.refl U.vm) q.2.2⟩, va_recv hK hP rfl (q0 := 2) rfl, fun U hU hW => ⟨rfl, by rw [hU]; exact hPc, va_K.moved hW.alike hKc⟩⟩ rfl rfl hl.1 rfl (lv_room (Nat.le_of_ble_eq_true rfl)) d_T_compareDigests_41 ⟨Nat.le_of_ble_eq_true rfl, Nat.le_of_ble_eq_true rfl⟩).run (fun r39 hr40 => ?_)
    obtain ⟨hr40, hr40E⟩ := hr40
    refine va_put (D := (dC, dI)) (ci := 2) (v := .int r39) (ty := .int) (C := "VotedTriple$VotedModule") (T := F_D) (N := 19) hx hb hw in_D ft_D tyok_D nm_D hown hK hP hD hS 2 rfl rfl 18 (by decide) (hw _ k_161) (fun _ h9 => h9) rfl (by decide +kernel) rfl rfl (Nat.le_of_ble_eq_true rfl) d_T_compareDigests_44 (fun H locs hP hD hS => ?_)
    replace hP : va_P (dC, dI) classes [(h0, .inr (0, oT uT p9 a9 e9 n9 o9)), (a9, .inl (ca, 3, .inr (.inr (.inr (.inr (mo da)))))), (da 0, .inr (2, [.ref (ra 0), .int (F 0 1), .int (F 0 2), .int (F 0 3), .int (F 0 4), .int (F 0 5), .int (F 0 6), .ref (ka 0), .int (F 0 8), .int (F 0 9), .int (F 0 10), .int (F 0 11), .int (F 0 12), .int (F 0 13), .int (F 0 14), .int (F 0 15), .int (F 0 16), .int (F 0 17), .int r39])), (ra 0, .inl (cr 0, 8, .inl (g 0))), (da 1, .inr (2, oD (F 1) (ra 1) (ka 1))), (ra 1, .inl (cr 1, 8, .inl (g 1))), (da 2, .inr (2, oD (F 2) (ra 2) (ka 2))), (ra 2, .inl (cr 2, 8, .inl (g 2)))] H := hP
    replace hD : va_D A [(h0, .inr (0, oT uT p9 a9 e9 n9 o9)), (a9, .inl (ca, 3, .inr (.inr (.inr (.inr (mo da)))))), (da 0, .inr (2, [.ref (ra 0), .int (F 0 1), .int (F 0 2), .int (F 0 3), .int (F 0 4), .int (F 0 5), .int (F 0 6), .ref (ka 0), .int (F 0 8), .int (F 0 9), .int (F 0 10), .int (F 0 11), .int (F 0 12), .int (F 0 13), .int (F 0 14), .int (F 0 15), .int (F 0 16), .int (F 0 17), .int r39])), (ra 0, .inl (cr 0, 8, .inl (g 0))), (da 1, .inr (2, oD (F 1) (ra 1) (ka 1))), (ra 1, .inl (cr 1, 8, .inl (g 1))), (da 2, .inr (2, oD (F 2) (ra 2) (ka 2))), (ra 2, .inl (cr 2, 8, .inl (g 2)))] := hD
    refine lv_iinc (k := 2) (v := 1) hx hb d_T_compareDigests_47 hl rfl rfl (by decide) rfl (fun ls hl => ?_)
    replace hl : lv_has ls 3 [(2, .int 1), (0, .ref h0), (1, .int w1)] := hl
    refine lv_goto (tgt := 24) hx hb d_T_compareDigests_50 rfl ?_
    have hSq : SP = s_T_compareDigests_cut24_1 g (tri (upc (F 0) 18 r39) (F 1) (F 2)) w1 := by rw [hSq0, s_T_compareDigests_cut24_0]; try (rw [← hr40E, bnd_eq]); all_goals rfl
    replace hl := lv_sub hl (l' := [(0, .ref h0), (1, .int w1), (2, .int 1)]) [1, 2, 0] rfl
    replace hP := hP.sub (ws' := [(h0, .inr (0, oT uT p9 a9 e9 n9 o9)), (a9, .inl (ca, 3, .inr (.inr (.inr (.inr (mo da)))))), (da 0, .inr (2, oD (tri (upc (F 0) 18 r39) (F 1) (F 2) 0) (ra 0) (ka 0))), (ra 0, .inl (cr 0, 8, .inl (g 0))), (da 1, .inr (2, oD (tri (upc (F 0) 18 r39) (F 1) (F 2) 1) (ra 1) (ka 1))), (ra 1, .inl (cr 1, 8, .inl (g 1))), (da 2, .inr (2, oD (tri (upc (F 0) 18 r39) (F 1) (F 2) 2) (ra 2) (ka 2))), (ra 2, .inl (cr 2, 8, .inl (g 2)))]) [0, 1, 2, 3, 4, 5, 6, 7] rfl
    replace hD := hD.sub (ws' := [(h0, .inr (0, oT uT p9 a9 e9 n9 o9)), (a9, .inl (ca, 3, .inr (.inr (.inr (.inr (mo da)))))), (da 0, .inr (2, oD (tri (upc (F 0) 18 r39) (F 1) (F 2) 0) (ra 0) (ka 0))), (ra 0, .inl (cr 0, 8, .inl (g 0))), (da 1, .inr (2, oD (tri (upc (F 0) 18 r39) (F 1) (F 2) 1) (ra 1) (ka 1))), (ra 1, .inl (cr 1, 8, .inl (g 1))), (da 2, .inr (2, oD (tri (upc (F 0) 18 r39) (F 1) (F 2) 2) (ra 2) (ka 2))), (ra 2, .inl (cr 2, 8, .inl (g 2)))]) [0, 1, 2, 3, 4, 5, 6, 7] (by decide) rfl
    exact cut24_1 (tri (upc (F 0) 18 r39) (F 1) (F 2)) w1 _ _ _ hF h19 hSq hl hP hD hS
  clear cv75 cut24_3 cut24_2 cut24_1
  refine lv_aload_n hx hb d_T_compareDigests_0 rfl (lv_at hl 0 rfl) ?_
  replace hPc := hP.sub (ws' := [(h0, .inr (0, oT uT p9 a9 e9 n9 o9)), (a9, .inl (ca, 3, .inr (.inr (.inr (.inr (mo da)))))), (da 0, .inr (2, oD (F 0) (ra 0) (ka 0))), (da 1, .inr (2, oD (F 1) (ra 1) (ka 1))), (da 2, .inr (2, oD (F 2) (ra 2) (ka 2)))]) [0, 1, 2, 4, 6] rfl
  replace hKc := hK.sub (tys' := [(ca, .object "VotedTriple$VotedModule")]) [0] rfl
  refine vp_callSi (va_runV (C := "VotedTriple") (As := []) (rest := []) ⟨hx, hb, hml, hown, hw⟩ (c_T_lowestTrusted l dC dI h0 p9 a9 e9 n9 o9 ca da ra ka uT F) (cwV 0 hw (gdV (k_579) (k_576) (k_578) (ks_8) (k_1)) rfl rfl rfl (by decide +kernel) ⟨Nat.le_of_ble_eq_true rfl, Nat.le_of_ble_eq_true rfl⟩) ⟨fun a U g mk q => ⟨q.1, q.2.1, va_K.moved (u := U) (U := U.calling g mk a) (Vm.Alike.refl U.vm) q.2.2⟩, va_recv hK hP rfl (q0 := 0) rfl, fun U hU hW => ⟨rfl, by rw [hU]; exact hPc, va_K.moved hW.alike hKc⟩⟩ rfl rfl hl.1 rfl (lv_room (Nat.le_of_ble_eq_true rfl)) d_T_compareDigests_1 ⟨Nat.le_of_ble_eq_true rfl, Nat.le_of_ble_eq_true rfl⟩).run (fun r41 hr42 => ?_)
  obtain ⟨hr42, hr42E⟩ := hr42
  rcases hr42 with rfl | ⟨rfl, hlo43⟩ | ⟨rfl, hlo43⟩ | ⟨rfl, hlo43⟩
  · --  (-1)
    refine lv_istore_n hx hb d_T_compareDigests_4 rfl hl (by decide) rfl (fun ls hl => ?_)
    replace hl : lv_has ls 3 [(1, .int (-1)), (0, .ref h0)] := hl
    refine lv_aload_n hx hb d_T_compareDigests_5 rfl (lv_at hl 1 rfl) ?_
    refine va_get (D := (dC, dI)) (ci := 0) (v := .int (uT 8)) (C := "VotedTriple") (T := F_T) (N := 11) hx hb hw in_T hown hK hP 0 rfl rfl 8 (by decide) (hw _ k_202) (fun _ h9 => h9) rfl d_T_compareDigests_6 ?_
    refine lv_bipush (v := 16) hx hb d_T_compareDigests_9 (by decide) ?_
    refine lv_irem hx hb d_T_compareDigests_11 (by decide) ?_
    refine lv_if_ne (tgt := 20) hx hb d_T_compareDigests_12 rfl (fun hc44 => ?_) (fun hc44 => ?_)
    · --  ¬ ((uT 8) - (uT 8) / (16 : Int32) * (16 : Int32)) = 0
      refine lv_iconst (v := 1) hx hb d_T_compareDigests_20 (by decide) ?_
      have hP9 := hP.sub (ws' := [(h0, .inr (0, oT uT p9 a9 e9 n9 o9)), (a9, .inl (ca, 3, .inr (.inr (.inr (.inr (mo da)))))), (da 0, .inr (2, oD (F 0) (ra 0) (ka 0))), (ra 0, .inl (cr 0, 8, .inl (g 0))), (da 1, .inr (2, oD (F 1) (ra 1) (ka 1))), (ra 1, .inl (cr 1, 8, .inl (g 1))), (da 2, .inr (2, oD (F 2) (ra 2) (ka 2))), (ra 2, .inl (cr 2, 8, .inl (g 2)))]) [0, 1, 2, 3, 4, 5, 6, 7] rfl
      have hD9 := hD.sub (ws' := [(h0, .inr (0, oT uT p9 a9 e9 n9 o9)), (a9, .inl (ca, 3, .inr (.inr (.inr (.inr (mo da)))))), (da 0, .inr (2, oD (F 0) (ra 0) (ka 0))), (ra 0, .inl (cr 0, 8, .inl (g 0))), (da 1, .inr (2, oD (F 1) (ra 1) (ka 1))), (ra 1, .inl (cr 1, 8, .inl (g 1))), (da 2, .inr (2, oD (F 2) (ra 2) (ka 2))), (ra 2, .inl (cr 2, 8, .inl (g 2)))]) [0, 1, 2, 3, 4, 5, 6, 7] (by decide) rfl
      have hK9 := hK.sub (tys' := [(ca, .object "VotedTriple$VotedModule"), (cr 0, .int), (cr 1, .int), (cr 2, .int)]) [0, 1, 2, 3] rfl
      refine W.widen (k := 0) (n := 0) (Nat.le_of_ble_eq_true rfl) (Nat.le_of_ble_eq_true rfl) ?_
      exact W.zret (v := 1) (ty := .boolean) hx hb hr rfl (fun t ht hW => ⟨⟨_, (F), rfl, ⟨hF, (by rw [← hSP, s_T_compareDigests]; try (rw [← hr42E, bnd_eq]); try (rw [if_pos rfl]); try (rw [if_neg hc44]); all_goals rfl)⟩, by rw [ht]; exact hP9, va_K.moved hW.alike hK9, hD9⟩, hS.F ht⟩) hS.2.2 d_T_compareDigests_21
    · --  ((uT 8) - (uT 8) / (16 : Int32) * (16 : Int32)) = 0
      refine lv_iload_n hx hb d_T_compareDigests_15 rfl (lv_at hl 0 rfl) ?_
      refine lv_iconst (v := (-1)) hx hb d_T_compareDigests_16 (by decide) ?_
      refine lv_icmp_ne (tgt := 22) hx hb d_T_compareDigests_17 rfl (fun hc45 => by first | exact absurd hc45 (fun hh => hh rfl) | exact absurd (fun hh => hh rfl) hc45) (fun hc45 => ?_)
      refine lv_iconst (v := 1) hx hb d_T_compareDigests_20 (by decide) ?_
      have hP9 := hP.sub (ws' := [(h0, .inr (0, oT uT p9 a9 e9 n9 o9)), (a9, .inl (ca, 3, .inr (.inr (.inr (.inr (mo da)))))), (da 0, .inr (2, oD (F 0) (ra 0) (ka 0))), (ra 0, .inl (cr 0, 8, .inl (g 0))), (da 1, .inr (2, oD (F 1) (ra 1) (ka 1))), (ra 1, .inl (cr 1, 8, .inl (g 1))), (da 2, .inr (2, oD (F 2) (ra 2) (ka 2))), (ra 2, .inl (cr 2, 8, .inl (g 2)))]) [0, 1, 2, 3, 4, 5, 6, 7] rfl
      have hD9 := hD.sub (ws' := [(h0, .inr (0, oT uT p9 a9 e9 n9 o9)), (a9, .inl (ca, 3, .inr (.inr (.inr (.inr (mo da)))))), (da 0, .inr (2, oD (F 0) (ra 0) (ka 0))), (ra 0, .inl (cr 0, 8, .inl (g 0))), (da 1, .inr (2, oD (F 1) (ra 1) (ka 1))), (ra 1, .inl (cr 1, 8, .inl (g 1))), (da 2, .inr (2, oD (F 2) (ra 2) (ka 2))), (ra 2, .inl (cr 2, 8, .inl (g 2)))]) [0, 1, 2, 3, 4, 5, 6, 7] (by decide) rfl
      have hK9 := hK.sub (tys' := [(ca, .object "VotedTriple$VotedModule"), (cr 0, .int), (cr 1, .int), (cr 2, .int)]) [0, 1, 2, 3] rfl
      refine W.widen (k := 0) (n := 0) (Nat.le_of_ble_eq_true rfl) (Nat.le_of_ble_eq_true rfl) ?_
      exact W.zret (v := 1) (ty := .boolean) hx hb hr rfl (fun t ht hW => ⟨⟨_, (F), rfl, ⟨hF, (by rw [← hSP, s_T_compareDigests]; try (rw [← hr42E, bnd_eq]); try (rw [if_pos rfl]); try (rw [if_pos hc44]); all_goals rfl)⟩, by rw [ht]; exact hP9, va_K.moved hW.alike hK9, hD9⟩, hS.F ht⟩) hS.2.2 d_T_compareDigests_21
  · --  0
    refine lv_istore_n hx hb d_T_compareDigests_4 rfl hl (by decide) rfl (fun ls hl => ?_)
    replace hl : lv_has ls 3 [(1, .int 0), (0, .ref h0)] := hl
    refine lv_aload_n hx hb d_T_compareDigests_5 rfl (lv_at hl 1 rfl) ?_
    refine va_get (D := (dC, dI)) (ci := 0) (v := .int (uT 8)) (C := "VotedTriple") (T := F_T) (N := 11) hx hb hw in_T hown hK hP 0 rfl rfl 8 (by decide) (hw _ k_202) (fun _ h9 => h9) rfl d_T_compareDigests_6 ?_
    refine lv_bipush (v := 16) hx hb d_T_compareDigests_9 (by decide) ?_
    refine lv_irem hx hb d_T_compareDigests_11 (by decide) ?_
    refine lv_if_ne (tgt := 20) hx hb d_T_compareDigests_12 rfl (fun hc46 => ?_) (fun hc46 => ?_)
    · --  ¬ ((uT 8) - (uT 8) / (16 : Int32) * (16 : Int32)) = 0
      refine lv_iconst (v := 1) hx hb d_T_compareDigests_20 (by decide) ?_
      have hP9 := hP.sub (ws' := [(h0, .inr (0, oT uT p9 a9 e9 n9 o9)), (a9, .inl (ca, 3, .inr (.inr (.inr (.inr (mo da)))))), (da 0, .inr (2, oD (F 0) (ra 0) (ka 0))), (ra 0, .inl (cr 0, 8, .inl (g 0))), (da 1, .inr (2, oD (F 1) (ra 1) (ka 1))), (ra 1, .inl (cr 1, 8, .inl (g 1))), (da 2, .inr (2, oD (F 2) (ra 2) (ka 2))), (ra 2, .inl (cr 2, 8, .inl (g 2)))]) [0, 1, 2, 3, 4, 5, 6, 7] rfl
      have hD9 := hD.sub (ws' := [(h0, .inr (0, oT uT p9 a9 e9 n9 o9)), (a9, .inl (ca, 3, .inr (.inr (.inr (.inr (mo da)))))), (da 0, .inr (2, oD (F 0) (ra 0) (ka 0))), (ra 0, .inl (cr 0, 8, .inl (g 0))), (da 1, .inr (2, oD (F 1) (ra 1) (ka 1))), (ra 1, .inl (cr 1, 8, .inl (g 1))), (da 2, .inr (2, oD (F 2) (ra 2) (ka 2))), (ra 2, .inl (cr 2, 8, .inl (g 2)))]) [0, 1, 2, 3, 4, 5, 6, 7] (by decide) rfl
      have hK9 := hK.sub (tys' := [(ca, .object "VotedTriple$VotedModule"), (cr 0, .int), (cr 1, .int), (cr 2, .int)]) [0, 1, 2, 3] rfl
      refine W.widen (k := 0) (n := 0) (Nat.le_of_ble_eq_true rfl) (Nat.le_of_ble_eq_true rfl) ?_
      exact W.zret (v := 1) (ty := .boolean) hx hb hr rfl (fun t ht hW => ⟨⟨_, (F), rfl, ⟨hF, (by rw [← hSP, s_T_compareDigests]; try (rw [← hr42E, bnd_eq]); try (rw [if_neg (by decide)]); try (rw [if_pos rfl]); try (rw [if_neg hc46]); all_goals rfl)⟩, by rw [ht]; exact hP9, va_K.moved hW.alike hK9, hD9⟩, hS.F ht⟩) hS.2.2 d_T_compareDigests_21
    · --  ((uT 8) - (uT 8) / (16 : Int32) * (16 : Int32)) = 0
      refine lv_iload_n hx hb d_T_compareDigests_15 rfl (lv_at hl 0 rfl) ?_
      refine lv_iconst (v := (-1)) hx hb d_T_compareDigests_16 (by decide) ?_
      refine lv_icmp_ne (tgt := 22) hx hb d_T_compareDigests_17 rfl (fun hc47 => ?_) (fun hc47 => by first | exact absurd (by decide) hc47 | exact absurd hc47 (by decide))
      refine lv_iconst (v := 0) hx hb d_T_compareDigests_22 (by decide) ?_
      refine lv_istore_n hx hb d_T_compareDigests_23 rfl hl (by decide) rfl (fun ls hl => ?_)
      replace hl : lv_has ls 3 [(2, .int 0), (1, .int 0), (0, .ref h0)] := hl
      have hSq : SP = s_T_compareDigests_cut24_0 g F 0 := by rw [← hSP, s_T_compareDigests]; try (rw [← hr42E, bnd_eq]); try (rw [if_neg (by decide)]); try (rw [if_pos rfl]); try (rw [if_pos hc46]); all_goals rfl
      replace hl := lv_sub hl (l' := [(0, .ref h0), (1, .int 0), (2, .int 0)]) [2, 1, 0] rfl
      replace hP := hP.sub (ws' := [(h0, .inr (0, oT uT p9 a9 e9 n9 o9)), (a9, .inl (ca, 3, .inr (.inr (.inr (.inr (mo da)))))), (da 0, .inr (2, oD (F 0) (ra 0) (ka 0))), (ra 0, .inl (cr 0, 8, .inl (g 0))), (da 1, .inr (2, oD (F 1) (ra 1) (ka 1))), (ra 1, .inl (cr 1, 8, .inl (g 1))), (da 2, .inr (2, oD (F 2) (ra 2) (ka 2))), (ra 2, .inl (cr 2, 8, .inl (g 2)))]) [0, 1, 2, 3, 4, 5, 6, 7] rfl
      replace hD := hD.sub (ws' := [(h0, .inr (0, oT uT p9 a9 e9 n9 o9)), (a9, .inl (ca, 3, .inr (.inr (.inr (.inr (mo da)))))), (da 0, .inr (2, oD (F 0) (ra 0) (ka 0))), (ra 0, .inl (cr 0, 8, .inl (g 0))), (da 1, .inr (2, oD (F 1) (ra 1) (ka 1))), (ra 1, .inl (cr 1, 8, .inl (g 1))), (da 2, .inr (2, oD (F 2) (ra 2) (ka 2))), (ra 2, .inl (cr 2, 8, .inl (g 2)))]) [0, 1, 2, 3, 4, 5, 6, 7] (by decide) rfl
      exact cut24_0 F 0 _ _ _ hF (Or.inl rfl) hSq hl hP hD hS
  · --  1
    refine lv_istore_n hx hb d_T_compareDigests_4 rfl hl (by decide) rfl (fun ls hl => ?_)
    replace hl : lv_has ls 3 [(1, .int 1), (0, .ref h0)] := hl
    refine lv_aload_n hx hb d_T_compareDigests_5 rfl (lv_at hl 1 rfl) ?_
    refine va_get (D := (dC, dI)) (ci := 0) (v := .int (uT 8)) (C := "VotedTriple") (T := F_T) (N := 11) hx hb hw in_T hown hK hP 0 rfl rfl 8 (by decide) (hw _ k_202) (fun _ h9 => h9) rfl d_T_compareDigests_6 ?_
    refine lv_bipush (v := 16) hx hb d_T_compareDigests_9 (by decide) ?_
    refine lv_irem hx hb d_T_compareDigests_11 (by decide) ?_
    refine lv_if_ne (tgt := 20) hx hb d_T_compareDigests_12 rfl (fun hc48 => ?_) (fun hc48 => ?_)
    · --  ¬ ((uT 8) - (uT 8) / (16 : Int32) * (16 : Int32)) = 0
      refine lv_iconst (v := 1) hx hb d_T_compareDigests_20 (by decide) ?_
      have hP9 := hP.sub (ws' := [(h0, .inr (0, oT uT p9 a9 e9 n9 o9)), (a9, .inl (ca, 3, .inr (.inr (.inr (.inr (mo da)))))), (da 0, .inr (2, oD (F 0) (ra 0) (ka 0))), (ra 0, .inl (cr 0, 8, .inl (g 0))), (da 1, .inr (2, oD (F 1) (ra 1) (ka 1))), (ra 1, .inl (cr 1, 8, .inl (g 1))), (da 2, .inr (2, oD (F 2) (ra 2) (ka 2))), (ra 2, .inl (cr 2, 8, .inl (g 2)))]) [0, 1, 2, 3, 4, 5, 6, 7] rfl
      have hD9 := hD.sub (ws' := [(h0, .inr (0, oT uT p9 a9 e9 n9 o9)), (a9, .inl (ca, 3, .inr (.inr (.inr (.inr (mo da)))))), (da 0, .inr (2, oD (F 0) (ra 0) (ka 0))), (ra 0, .inl (cr 0, 8, .inl (g 0))), (da 1, .inr (2, oD (F 1) (ra 1) (ka 1))), (ra 1, .inl (cr 1, 8, .inl (g 1))), (da 2, .inr (2, oD (F 2) (ra 2) (ka 2))), (ra 2, .inl (cr 2, 8, .inl (g 2)))]) [0, 1, 2, 3, 4, 5, 6, 7] (by decide) rfl
      have hK9 := hK.sub (tys' := [(ca, .object "VotedTriple$VotedModule"), (cr 0, .int), (cr 1, .int), (cr 2, .int)]) [0, 1, 2, 3] rfl
      refine W.widen (k := 0) (n := 0) (Nat.le_of_ble_eq_true rfl) (Nat.le_of_ble_eq_true rfl) ?_
      exact W.zret (v := 1) (ty := .boolean) hx hb hr rfl (fun t ht hW => ⟨⟨_, (F), rfl, ⟨hF, (by rw [← hSP, s_T_compareDigests]; try (rw [← hr42E, bnd_eq]); try (rw [if_neg (by decide)]); try (rw [if_neg (by decide)]); try (rw [if_pos rfl]); try (rw [if_neg hc48]); all_goals rfl)⟩, by rw [ht]; exact hP9, va_K.moved hW.alike hK9, hD9⟩, hS.F ht⟩) hS.2.2 d_T_compareDigests_21
    · --  ((uT 8) - (uT 8) / (16 : Int32) * (16 : Int32)) = 0
      refine lv_iload_n hx hb d_T_compareDigests_15 rfl (lv_at hl 0 rfl) ?_
      refine lv_iconst (v := (-1)) hx hb d_T_compareDigests_16 (by decide) ?_
      refine lv_icmp_ne (tgt := 22) hx hb d_T_compareDigests_17 rfl (fun hc49 => ?_) (fun hc49 => by first | exact absurd (by decide) hc49 | exact absurd hc49 (by decide))
      refine lv_iconst (v := 0) hx hb d_T_compareDigests_22 (by decide) ?_
      refine lv_istore_n hx hb d_T_compareDigests_23 rfl hl (by decide) rfl (fun ls hl => ?_)
      replace hl : lv_has ls 3 [(2, .int 0), (1, .int 1), (0, .ref h0)] := hl
      have hSq : SP = s_T_compareDigests_cut24_0 g F 1 := by rw [← hSP, s_T_compareDigests]; try (rw [← hr42E, bnd_eq]); try (rw [if_neg (by decide)]); try (rw [if_neg (by decide)]); try (rw [if_pos rfl]); try (rw [if_pos hc48]); all_goals rfl
      replace hl := lv_sub hl (l' := [(0, .ref h0), (1, .int 1), (2, .int 0)]) [2, 1, 0] rfl
      replace hP := hP.sub (ws' := [(h0, .inr (0, oT uT p9 a9 e9 n9 o9)), (a9, .inl (ca, 3, .inr (.inr (.inr (.inr (mo da)))))), (da 0, .inr (2, oD (F 0) (ra 0) (ka 0))), (ra 0, .inl (cr 0, 8, .inl (g 0))), (da 1, .inr (2, oD (F 1) (ra 1) (ka 1))), (ra 1, .inl (cr 1, 8, .inl (g 1))), (da 2, .inr (2, oD (F 2) (ra 2) (ka 2))), (ra 2, .inl (cr 2, 8, .inl (g 2)))]) [0, 1, 2, 3, 4, 5, 6, 7] rfl
      replace hD := hD.sub (ws' := [(h0, .inr (0, oT uT p9 a9 e9 n9 o9)), (a9, .inl (ca, 3, .inr (.inr (.inr (.inr (mo da)))))), (da 0, .inr (2, oD (F 0) (ra 0) (ka 0))), (ra 0, .inl (cr 0, 8, .inl (g 0))), (da 1, .inr (2, oD (F 1) (ra 1) (ka 1))), (ra 1, .inl (cr 1, 8, .inl (g 1))), (da 2, .inr (2, oD (F 2) (ra 2) (ka 2))), (ra 2, .inl (cr 2, 8, .inl (g 2)))]) [0, 1, 2, 3, 4, 5, 6, 7] (by decide) rfl
      exact cut24_0 F 1 _ _ _ hF (Or.inr (Or.inl rfl)) hSq hl hP hD hS
  · --  2
    refine lv_istore_n hx hb d_T_compareDigests_4 rfl hl (by decide) rfl (fun ls hl => ?_)
    replace hl : lv_has ls 3 [(1, .int 2), (0, .ref h0)] := hl
    refine lv_aload_n hx hb d_T_compareDigests_5 rfl (lv_at hl 1 rfl) ?_
    refine va_get (D := (dC, dI)) (ci := 0) (v := .int (uT 8)) (C := "VotedTriple") (T := F_T) (N := 11) hx hb hw in_T hown hK hP 0 rfl rfl 8 (by decide) (hw _ k_202) (fun _ h9 => h9) rfl d_T_compareDigests_6 ?_
    refine lv_bipush (v := 16) hx hb d_T_compareDigests_9 (by decide) ?_
    refine lv_irem hx hb d_T_compareDigests_11 (by decide) ?_
    refine lv_if_ne (tgt := 20) hx hb d_T_compareDigests_12 rfl (fun hc50 => ?_) (fun hc50 => ?_)
    · --  ¬ ((uT 8) - (uT 8) / (16 : Int32) * (16 : Int32)) = 0
      refine lv_iconst (v := 1) hx hb d_T_compareDigests_20 (by decide) ?_
      have hP9 := hP.sub (ws' := [(h0, .inr (0, oT uT p9 a9 e9 n9 o9)), (a9, .inl (ca, 3, .inr (.inr (.inr (.inr (mo da)))))), (da 0, .inr (2, oD (F 0) (ra 0) (ka 0))), (ra 0, .inl (cr 0, 8, .inl (g 0))), (da 1, .inr (2, oD (F 1) (ra 1) (ka 1))), (ra 1, .inl (cr 1, 8, .inl (g 1))), (da 2, .inr (2, oD (F 2) (ra 2) (ka 2))), (ra 2, .inl (cr 2, 8, .inl (g 2)))]) [0, 1, 2, 3, 4, 5, 6, 7] rfl
      have hD9 := hD.sub (ws' := [(h0, .inr (0, oT uT p9 a9 e9 n9 o9)), (a9, .inl (ca, 3, .inr (.inr (.inr (.inr (mo da)))))), (da 0, .inr (2, oD (F 0) (ra 0) (ka 0))), (ra 0, .inl (cr 0, 8, .inl (g 0))), (da 1, .inr (2, oD (F 1) (ra 1) (ka 1))), (ra 1, .inl (cr 1, 8, .inl (g 1))), (da 2, .inr (2, oD (F 2) (ra 2) (ka 2))), (ra 2, .inl (cr 2, 8, .inl (g 2)))]) [0, 1, 2, 3, 4, 5, 6, 7] (by decide) rfl
      have hK9 := hK.sub (tys' := [(ca, .object "VotedTriple$VotedModule"), (cr 0, .int), (cr 1, .int), (cr 2, .int)]) [0, 1, 2, 3] rfl
      refine W.widen (k := 0) (n := 0) (Nat.le_of_ble_eq_true rfl) (Nat.le_of_ble_eq_true rfl) ?_
      exact W.zret (v := 1) (ty := .boolean) hx hb hr rfl (fun t ht hW => ⟨⟨_, (F), rfl, ⟨hF, (by rw [← hSP, s_T_compareDigests]; try (rw [← hr42E, bnd_eq]); try (rw [if_neg (by decide)]); try (rw [if_neg (by decide)]); try (rw [if_neg (by decide)]); try (rw [if_neg hc50]); all_goals rfl)⟩, by rw [ht]; exact hP9, va_K.moved hW.alike hK9, hD9⟩, hS.F ht⟩) hS.2.2 d_T_compareDigests_21
    · --  ((uT 8) - (uT 8) / (16 : Int32) * (16 : Int32)) = 0
      refine lv_iload_n hx hb d_T_compareDigests_15 rfl (lv_at hl 0 rfl) ?_
      refine lv_iconst (v := (-1)) hx hb d_T_compareDigests_16 (by decide) ?_
      refine lv_icmp_ne (tgt := 22) hx hb d_T_compareDigests_17 rfl (fun hc51 => ?_) (fun hc51 => by first | exact absurd (by decide) hc51 | exact absurd hc51 (by decide))
      refine lv_iconst (v := 0) hx hb d_T_compareDigests_22 (by decide) ?_
      refine lv_istore_n hx hb d_T_compareDigests_23 rfl hl (by decide) rfl (fun ls hl => ?_)
      replace hl : lv_has ls 3 [(2, .int 0), (1, .int 2), (0, .ref h0)] := hl
      have hSq : SP = s_T_compareDigests_cut24_0 g F 2 := by rw [← hSP, s_T_compareDigests]; try (rw [← hr42E, bnd_eq]); try (rw [if_neg (by decide)]); try (rw [if_neg (by decide)]); try (rw [if_neg (by decide)]); try (rw [if_pos hc50]); all_goals rfl
      replace hl := lv_sub hl (l' := [(0, .ref h0), (1, .int 2), (2, .int 0)]) [2, 1, 0] rfl
      replace hP := hP.sub (ws' := [(h0, .inr (0, oT uT p9 a9 e9 n9 o9)), (a9, .inl (ca, 3, .inr (.inr (.inr (.inr (mo da)))))), (da 0, .inr (2, oD (F 0) (ra 0) (ka 0))), (ra 0, .inl (cr 0, 8, .inl (g 0))), (da 1, .inr (2, oD (F 1) (ra 1) (ka 1))), (ra 1, .inl (cr 1, 8, .inl (g 1))), (da 2, .inr (2, oD (F 2) (ra 2) (ka 2))), (ra 2, .inl (cr 2, 8, .inl (g 2)))]) [0, 1, 2, 3, 4, 5, 6, 7] rfl
      replace hD := hD.sub (ws' := [(h0, .inr (0, oT uT p9 a9 e9 n9 o9)), (a9, .inl (ca, 3, .inr (.inr (.inr (.inr (mo da)))))), (da 0, .inr (2, oD (F 0) (ra 0) (ka 0))), (ra 0, .inl (cr 0, 8, .inl (g 0))), (da 1, .inr (2, oD (F 1) (ra 1) (ka 1))), (ra 1, .inl (cr 1, 8, .inl (g 1))), (da 2, .inr (2, oD (F 2) (ra 2) (ka 2))), (ra 2, .inl (cr 2, 8, .inl (g 2)))]) [0, 1, 2, 3, 4, 5, 6, 7] (by decide) rfl
      exact cut24_0 F 2 _ _ _ hF (Or.inr (Or.inr rfl)) hSq hl hP hD hS

set_option maxHeartbeats 4000000 in
set_option maxRecDepth 100000 in
theorem c_T_blameNamed (l : Launch) (dC : Nat → ClassId) (dI : Nat → Nat → Nat) (h0 : Nat) (p9 : Nat) (a9 : Nat) (e9 : Nat) (n9 : Nat) (o9 : Nat) (ca : ClassId) (da : Nat → Nat) (ra : Nat → Nat) (ka : Nat → Nat) (uT : Nat → Int32) (F : Nat → Nat → Int32) (hF : f3 F) (sz : Nat) : Met l y_T_blameNamed (tbw y_T_blameNamed b_T_blameNamed 2 (some .boolean)) ({ frames := 1, cells := 0, slots := 0, locals := 22 }) (va_Pc [.ref h0] (fun U => U.heap.size = sz ∧ va_P (dC, dI) classes [(h0, .inr (0, oT uT p9 a9 e9 n9 o9)), (a9, .inl (ca, 3, .inr (.inr (.inr (.inr (mo da)))))), (da 0, .inr (2, oD (F 0) (ra 0) (ka 0))), (da 1, .inr (2, oD (F 1) (ra 1) (ka 1))), (da 2, .inr (2, oD (F 2) (ra 2) (ka 2)))] U.heap ∧ va_K (dC, dI) classes [(ca, .object "VotedTriple$VotedModule")] U ∧ va_D (fun _ => True) [(h0, .inr (0, oT uT p9 a9 e9 n9 o9)), (a9, .inl (ca, 3, .inr (.inr (.inr (.inr (mo da)))))), (da 0, .inr (2, oD (F 0) (ra 0) (ka 0))), (da 1, .inr (2, oD (F 1) (ra 1) (ka 1))), (da 2, .inr (2, oD (F 2) (ra 2) (ka 2)))])) (va_Qi (fun (r : Int32) (u9 : (Nat → Nat → Int32)) => match u9 with | F2 => (f3 F2) ∧ (r, F2) = s_T_blameNamed uT F) (fun (u9 : (Nat → Nat → Int32)) t => match u9 with | F2 => va_P (dC, dI) classes [(h0, .inr (0, oT uT p9 a9 e9 n9 o9)), (a9, .inl (ca, 3, .inr (.inr (.inr (.inr (mo da)))))), (da 0, .inr (2, oD (F2 0) (ra 0) (ka 0))), (da 1, .inr (2, oD (F2 1) (ra 1) (ka 1))), (da 2, .inr (2, oD (F2 2) (ra 2) (ka 2)))] t.heap ∧ va_K (dC, dI) classes [(ca, .object "VotedTriple$VotedModule")] t ∧ va_D (va_A [(h0, .inr (0, oT uT p9 a9 e9 n9 o9)), (a9, .inl (ca, 3, .inr (.inr (.inr (.inr (mo da)))))), (da 0, .inr (2, oD (F 0) (ra 0) (ka 0))), (da 1, .inr (2, oD (F 1) (ra 1) (ka 1))), (da 2, .inr (2, oD (F 2) (ra 2) (ka 2)))] sz) [(h0, .inr (0, oT uT p9 a9 e9 n9 o9)), (a9, .inl (ca, 3, .inr (.inr (.inr (.inr (mo da)))))), (da 0, .inr (2, oD (F2 0) (ra 0) (ka 0))), (da 1, .inr (2, oD (F2 1) (ra 1) (ka 1))), (da 2, .inr (2, oD (F2 2) (ra 2) (ka 2)))]) (va_A [(h0, .inr (0, oT uT p9 a9 e9 n9 o9)), (a9, .inl (ca, 3, .inr (.inr (.inr (.inr (mo da)))))), (da 0, .inr (2, oD (F 0) (ra 0) (ka 0))), (da 1, .inr (2, oD (F 1) (ra 1) (ka 1))), (da 2, .inr (2, oD (F 2) (ra 2) (ka 2)))] sz)) 0 0 (va_A [(h0, .inr (0, oT uT p9 a9 e9 n9 o9)), (a9, .inl (ca, 3, .inr (.inr (.inr (.inr (mo da)))))), (da 0, .inr (2, oD (F 0) (ra 0) (ka 0))), (da 1, .inr (2, oD (F 1) (ra 1) (ka 1))), (da 2, .inr (2, oD (F 2) (ra 2) (ka 2)))] sz) := by
  refine Met.ofW (cc := b_T_blameNamed) (maxL := 2) (ret := (some .boolean)) (by decide) rfl ?_
  intro p e s m args below meth c s₁ B hml hv
  obtain ⟨rfl, hsz, hP, hK, hD0⟩ := hv
  have hx := B.exec
  have hb := B.bytes
  have hr := B.returns
  have hts := atoms_spec (ws := (tbw y_T_blameNamed b_T_blameNamed 2 (some .boolean))) B.pre
  have hw : ∀ z9 ∈ tb, z9.before ([.ref h0] : List Value).toArray s = true := fun z9 h => hts z9 (List.mem_cons_of_mem _ h)
  have hown : s.vm.findClass "VotedTriple" = some m.cls := findClass_of_methodNamed B.named
  have hlocks := B.notSynchronized
  subst hsz
  replace hD := hD0.self (sz := s.heap.size)
  generalize hAe : va_A [(h0, .inr (0, oT uT p9 a9 e9 n9 o9)), (a9, .inl (ca, 3, .inr (.inr (.inr (.inr (mo da)))))), (da 0, .inr (2, oD (F 0) (ra 0) (ka 0))), (da 1, .inr (2, oD (F 1) (ra 1) (ka 1))), (da 2, .inr (2, oD (F 2) (ra 2) (ka 2)))] s.heap.size = A at hD ⊢
  have hA : ∀ q : Nat, s.heap.size ≤ q → A q := fun q h => by rw [← hAe]; exact Or.inr h
  have hS : va_S A s.heap s.heap [] := va_S.rf
  replace hl := lv_entry ([.ref h0]) (n := 2) (Nat.le_of_ble_eq_true rfl)
  rw [lg_entry_eq]
  generalize (lg_sl ([.ref h0]) ++ List.replicate (2 - (lg_sl ([.ref h0])).length) Slot.unset).toArray = ls at hl ⊢
  replace hl : lv_has ls 2 [(0, .ref h0)] := hl
  generalize hSP : s_T_blameNamed uT F = SP
  have cut2_3 : ∀ (F : Nat → Nat → Int32) (ls : Array Slot) (H : Heap) (locs : List Loc), f3 F → SP = s_T_blameNamed_cut2_3 uT F →  lv_has ls 2 [(0, .ref h0), (1, .int 3)] → va_P (dC, dI) classes [(h0, .inr (0, oT uT p9 a9 e9 n9 o9)), (a9, .inl (ca, 3, .inr (.inr (.inr (.inr (mo da)))))), (da 0, .inr (2, oD (F 0) (ra 0) (ka 0))), (da 1, .inr (2, oD (F 1) (ra 1) (ka 1))), (da 2, .inr (2, oD (F 2) (ra 2) (ka 2)))] H → va_D A [(h0, .inr (0, oT uT p9 a9 e9 n9 o9)), (a9, .inl (ca, 3, .inr (.inr (.inr (.inr (mo da)))))), (da 0, .inr (2, oD (F 0) (ra 0) (ka 0))), (da 1, .inr (2, oD (F 1) (ra 1) (ka 1))), (da 2, .inr (2, oD (F 2) (ra 2) (ka 2)))] → va_S A s.heap H locs → W p l e (headSpec (tbw y_T_blameNamed b_T_blameNamed 2 (some .boolean)) ({ frames := 1, cells := 0, slots := 0, locals := 22 })).room s m ([.ref h0] : List Value).toArray below meth c H locs 0 0 (MQ below (va_Qi (fun (r : Int32) (u9 : (Nat → Nat → Int32)) => match u9 with | F2 => (f3 F2) ∧ (r, F2) = SP) (fun (u9 : (Nat → Nat → Int32)) t => match u9 with | F2 => va_P (dC, dI) classes [(h0, .inr (0, oT uT p9 a9 e9 n9 o9)), (a9, .inl (ca, 3, .inr (.inr (.inr (.inr (mo da)))))), (da 0, .inr (2, oD (F2 0) (ra 0) (ka 0))), (da 1, .inr (2, oD (F2 1) (ra 1) (ka 1))), (da 2, .inr (2, oD (F2 2) (ra 2) (ka 2)))] t.heap ∧ va_K (dC, dI) classes [(ca, .object "VotedTriple$VotedModule")] t ∧ va_D A [(h0, .inr (0, oT uT p9 a9 e9 n9 o9)), (a9, .inl (ca, 3, .inr (.inr (.inr (.inr (mo da)))))), (da 0, .inr (2, oD (F2 0) (ra 0) (ka 0))), (da 1, .inr (2, oD (F2 1) (ra 1) (ka 1))), (da 2, .inr (2, oD (F2 2) (ra 2) (ka 2)))]) A) ([.ref h0] : List Value).toArray s 0 0 A) (F0 m 2 ls []) := by
    intro F ls H locs hF hSq0 hl hP hD hS
    refine lv_iload_n hx hb d_T_blameNamed_2 rfl (lv_at hl 1 rfl) ?_
    refine lv_iconst (v := 3) hx hb d_T_blameNamed_3 (by decide) ?_
    refine lv_icmp_ge (tgt := 34) hx hb d_T_blameNamed_4 rfl (fun hc1 => ?_) (fun hc1 => by first | exact absurd (by decide) hc1 | exact absurd hc1 (by decide))
    refine lv_aload_n hx hb d_T_blameNamed_34 rfl (lv_at hl 0 rfl) ?_
    refine lv_aload_n hx hb d_T_blameNamed_35 rfl (lv_at hl 0 rfl) ?_
    replace hPc := hP.sub (ws' := [(h0, .inr (0, oT uT p9 a9 e9 n9 o9)), (a9, .inl (ca, 3, .inr (.inr (.inr (.inr (mo da)))))), (da 0, .inr (2, oD (F 0) (ra 0) (ka 0))), (da 1, .inr (2, oD (F 1) (ra 1) (ka 1))), (da 2, .inr (2, oD (F 2) (ra 2) (ka 2)))]) [0, 1, 2, 3, 4] rfl
    replace hKc := hK.sub (tys' := [(ca, .object "VotedTriple$VotedModule")]) [0] rfl
    refine vp_callSi (va_runV (C := "VotedTriple") (As := []) (rest := [.ref h0]) ⟨hx, hb, hml, hown, hw⟩ (c_T_countInStep l dC dI h0 p9 a9 e9 n9 o9 ca da ra ka uT F) (cwV 0 hw (gdV (k_351) (k_348) (k_350) (ks_1) (k_1)) rfl rfl rfl (by decide +kernel) ⟨Nat.le_of_ble_eq_true rfl, Nat.le_of_ble_eq_true rfl⟩) ⟨fun a U g mk q => ⟨q.1, q.2.1, va_K.moved (u := U) (U := U.calling g mk a) (Vm.Alike.refl U.vm) q.2.2⟩, va_recv hK hP rfl (q0 := 0) rfl, fun U hU hW => ⟨rfl, by rw [hU]; exact hPc, va_K.moved hW.alike hKc⟩⟩ rfl rfl hl.1 rfl (lv_room (Nat.le_of_ble_eq_true rfl)) d_T_blameNamed_36 ⟨Nat.le_of_ble_eq_true rfl, Nat.le_of_ble_eq_true rfl⟩).run (fun r2 hr3 => ?_)
    obtain ⟨hr3, hr3E⟩ := hr3
    replace hPc := hP.sub (ws' := [(h0, .inr (0, oT uT p9 a9 e9 n9 o9))]) [0] rfl
    replace hKc := hK.sub (tys' := []) [] rfl
    refine vp_callSi (va_runV (C := "VotedTriple") (As := [.int r2]) (rest := []) ⟨hx, hb, hml, hown, hw⟩ (c_T_canGoOnWith l dC dI h0 p9 a9 e9 n9 o9 uT r2) (cwV 1 hw (gdV (k_355) (k_352) (k_354) (ks_2) (k_1)) rfl rfl rfl (by decide +kernel) ⟨Nat.le_of_ble_eq_true rfl, Nat.le_of_ble_eq_true rfl⟩) ⟨fun a U g mk q => ⟨q.1, q.2.1, va_K.moved (u := U) (U := U.calling g mk a) (Vm.Alike.refl U.vm) q.2.2⟩, va_recv hK hP rfl (q0 := 0) rfl, fun U hU hW => ⟨rfl, by rw [hU]; exact hPc, va_K.moved hW.alike hKc⟩⟩ rfl rfl hl.1 rfl (lv_room (Nat.le_of_ble_eq_true rfl)) d_T_blameNamed_39 ⟨Nat.le_of_ble_eq_true rfl, Nat.le_of_ble_eq_true rfl⟩).run (fun r4 hr5 => ?_)
    subst hr5
    have hP9 := hP.sub (ws' := [(h0, .inr (0, oT uT p9 a9 e9 n9 o9)), (a9, .inl (ca, 3, .inr (.inr (.inr (.inr (mo da)))))), (da 0, .inr (2, oD (F 0) (ra 0) (ka 0))), (da 1, .inr (2, oD (F 1) (ra 1) (ka 1))), (da 2, .inr (2, oD (F 2) (ra 2) (ka 2)))]) [0, 1, 2, 3, 4] rfl
    have hD9 := hD.sub (ws' := [(h0, .inr (0, oT uT p9 a9 e9 n9 o9)), (a9, .inl (ca, 3, .inr (.inr (.inr (.inr (mo da)))))), (da 0, .inr (2, oD (F 0) (ra 0) (ka 0))), (da 1, .inr (2, oD (F 1) (ra 1) (ka 1))), (da 2, .inr (2, oD (F 2) (ra 2) (ka 2)))]) [0, 1, 2, 3, 4] (by decide) rfl
    have hK9 := hK.sub (tys' := [(ca, .object "VotedTriple$VotedModule")]) [0] rfl
    refine W.widen (k := 0) (n := 0) (Nat.le_of_ble_eq_true rfl) (Nat.le_of_ble_eq_true rfl) ?_
    exact W.zret (v := (bI (cgB uT r2))) (ty := .boolean) hx hb hr (nz_bI _) (fun t ht hW => ⟨⟨_, (F), rfl, ⟨hF, (by rw [hSq0, s_T_blameNamed_cut2_3]; try (rw [← hr3E, bnd_eq]); all_goals rfl)⟩, by rw [ht]; exact hP9, va_K.moved hW.alike hK9, hD9⟩, hS.F ht⟩) hS.2.2 d_T_blameNamed_42
  have cut2_2 : ∀ (F : Nat → Nat → Int32) (ls : Array Slot) (H : Heap) (locs : List Loc), f3 F → SP = s_T_blameNamed_cut2_2 uT F →  lv_has ls 2 [(0, .ref h0), (1, .int 2)] → va_P (dC, dI) classes [(h0, .inr (0, oT uT p9 a9 e9 n9 o9)), (a9, .inl (ca, 3, .inr (.inr (.inr (.inr (mo da)))))), (da 0, .inr (2, oD (F 0) (ra 0) (ka 0))), (da 1, .inr (2, oD (F 1) (ra 1) (ka 1))), (da 2, .inr (2, oD (F 2) (ra 2) (ka 2)))] H → va_D A [(h0, .inr (0, oT uT p9 a9 e9 n9 o9)), (a9, .inl (ca, 3, .inr (.inr (.inr (.inr (mo da)))))), (da 0, .inr (2, oD (F 0) (ra 0) (ka 0))), (da 1, .inr (2, oD (F 1) (ra 1) (ka 1))), (da 2, .inr (2, oD (F 2) (ra 2) (ka 2)))] → va_S A s.heap H locs → W p l e (headSpec (tbw y_T_blameNamed b_T_blameNamed 2 (some .boolean)) ({ frames := 1, cells := 0, slots := 0, locals := 22 })).room s m ([.ref h0] : List Value).toArray below meth c H locs 0 0 (MQ below (va_Qi (fun (r : Int32) (u9 : (Nat → Nat → Int32)) => match u9 with | F2 => (f3 F2) ∧ (r, F2) = SP) (fun (u9 : (Nat → Nat → Int32)) t => match u9 with | F2 => va_P (dC, dI) classes [(h0, .inr (0, oT uT p9 a9 e9 n9 o9)), (a9, .inl (ca, 3, .inr (.inr (.inr (.inr (mo da)))))), (da 0, .inr (2, oD (F2 0) (ra 0) (ka 0))), (da 1, .inr (2, oD (F2 1) (ra 1) (ka 1))), (da 2, .inr (2, oD (F2 2) (ra 2) (ka 2)))] t.heap ∧ va_K (dC, dI) classes [(ca, .object "VotedTriple$VotedModule")] t ∧ va_D A [(h0, .inr (0, oT uT p9 a9 e9 n9 o9)), (a9, .inl (ca, 3, .inr (.inr (.inr (.inr (mo da)))))), (da 0, .inr (2, oD (F2 0) (ra 0) (ka 0))), (da 1, .inr (2, oD (F2 1) (ra 1) (ka 1))), (da 2, .inr (2, oD (F2 2) (ra 2) (ka 2)))]) A) ([.ref h0] : List Value).toArray s 0 0 A) (F0 m 2 ls []) := by
    intro F ls H locs hF hSq0 hl hP hD hS
    refine lv_iload_n hx hb d_T_blameNamed_2 rfl (lv_at hl 1 rfl) ?_
    refine lv_iconst (v := 3) hx hb d_T_blameNamed_3 (by decide) ?_
    refine lv_icmp_ge (tgt := 34) hx hb d_T_blameNamed_4 rfl (fun hc6 => by first | exact absurd hc6 (by decide) | exact absurd (by decide) hc6) (fun hc6 => ?_)
    refine lv_aload_n hx hb d_T_blameNamed_7 rfl (lv_at hl 0 rfl) ?_
    refine va_get (D := (dC, dI)) (ci := 0) (v := .ref a9) (C := "VotedTriple") (T := F_T) (N := 11) hx hb hw in_T hown hK hP 0 rfl rfl 1 (by decide) (hw _ k_195) (fun _ h9 => h9) rfl d_T_blameNamed_8 ?_
    refine lv_iload_n hx hb d_T_blameNamed_11 rfl (lv_at hl 1 rfl) ?_
    refine va_aldq hx hb hK hP 1 0 rfl rfl (by unfold vp_in; decide) d_T_blameNamed_12 ?_
    refine W.eq (g2 := F0 m 13 ls [.ref (da 2)]) rfl ?_
    refine va_get (D := (dC, dI)) (ci := 2) (v := .int (F 2 15)) (C := "VotedTriple$VotedModule") (T := F_D) (N := 19) hx hb hw in_D hown hK hP 4 rfl rfl 15 (by decide) (hw _ k_157) (fun _ h9 => h9) rfl d_T_blameNamed_13 ?_
    refine lv_if_eq (tgt := 28) hx hb d_T_blameNamed_16 rfl (fun hc7 => ?_) (fun hc7 => ?_)
    · --  (F 2 15) = 0
      refine lv_iinc (k := 1) (v := 3) hx hb d_T_blameNamed_28 hl rfl rfl (by decide) rfl (fun ls hl => ?_)
      replace hl : lv_has ls 2 [(1, .int 3), (0, .ref h0)] := hl
      refine lv_goto (tgt := 2) hx hb d_T_blameNamed_31 rfl ?_
      have hSq : SP = s_T_blameNamed_cut2_3 uT F := by rw [hSq0, s_T_blameNamed_cut2_2]; try (rw [if_pos hc7]); all_goals rfl
      replace hl := lv_sub hl (l' := [(0, .ref h0), (1, .int 3)]) [1, 0] rfl
      replace hP := hP.sub (ws' := [(h0, .inr (0, oT uT p9 a9 e9 n9 o9)), (a9, .inl (ca, 3, .inr (.inr (.inr (.inr (mo da)))))), (da 0, .inr (2, oD (F 0) (ra 0) (ka 0))), (da 1, .inr (2, oD (F 1) (ra 1) (ka 1))), (da 2, .inr (2, oD (F 2) (ra 2) (ka 2)))]) [0, 1, 2, 3, 4] rfl
      replace hD := hD.sub (ws' := [(h0, .inr (0, oT uT p9 a9 e9 n9 o9)), (a9, .inl (ca, 3, .inr (.inr (.inr (.inr (mo da)))))), (da 0, .inr (2, oD (F 0) (ra 0) (ka 0))), (da 1, .inr (2, oD (F 1) (ra 1) (ka 1))), (da 2, .inr (2, oD (F 2) (ra 2) (ka 2)))]) [0, 1, 2, 3, 4] (by decide) rfl
      exact cut2_3 F _ _ _ hF hSq hl hP hD hS
    · --  ¬ (F 2 15) = 0
      refine lv_aload_n hx hb d_T_blameNamed_19 rfl (lv_at hl 0 rfl) ?_
      refine va_get (D := (dC, dI)) (ci := 0) (v := .ref a9) (C := "VotedTriple") (T := F_T) (N := 11) hx hb hw in_T hown hK hP 0 rfl rfl 1 (by decide) (hw _ k_195) (fun _ h9 => h9) rfl d_T_blameNamed_20 ?_
      refine lv_iload_n hx hb d_T_blameNamed_23 rfl (lv_at hl 1 rfl) ?_
      refine va_aldq hx hb hK hP 1 0 rfl rfl (by unfold vp_in; decide) d_T_blameNamed_24 ?_
      refine W.eq (g2 := F0 m 25 ls [.ref (da 2)]) rfl ?_
      replace hPc := hP.sub (ws' := [(da 2, .inr (2, oD (F 2) (ra 2) (ka 2)))]) [4] rfl
      replace hKc := hK.sub (tys' := []) [] rfl
      replace hDc := hD.sub (ws' := [(da 2, .inr (2, oD (F 2) (ra 2) (ka 2)))]) [4] (by decide) rfl
      replace hFc := va_free (wc := [(da 2, .inr (2, oD (F 2) (ra 2) (ka 2)))]) hD hS hA [4] rfl
      refine va_callv (va_runV (C := "VotedTriple$VotedModule") (As := []) (rest := []) ⟨hx, hb, hml, hown, hw⟩ (c_D_takeBlame l dC dI (da 2) (ra 2) (ka 2) (F 2) hF.2.2 H.size) (cwV 0 hw (gdV (k_651) (k_648) (k_649) (k_650) (k_7)) rfl rfl rfl (by decide +kernel) ⟨Nat.le_of_ble_eq_true rfl, Nat.le_of_ble_eq_true rfl⟩) ⟨fun a U g mk q => by obtain ⟨q0, q1, qP, qK, qD⟩ := q; exact ⟨q0, q1, qP, va_K.moved (u := U) (U := U.calling g mk a) (Vm.Alike.refl U.vm) qK, qD⟩, va_recv hK hP rfl (q0 := 4) rfl, fun U hU hW => ⟨rfl, by rw [hU], by rw [hU]; exact hPc, va_K.moved hW.alike hKc, hDc.weaken (fun _ _ _ _ => trivial)⟩⟩ rfl rfl hl.1 rfl (lv_room (Nat.le_of_ble_eq_true rfl)) d_T_blameNamed_25 ⟨Nat.le_of_ble_eq_true rfl, Nat.le_of_ble_eq_true rfl⟩) hS (fun q _ h => hFc q h) hFc (fun u9 t H1 locs ht hvm hr9 hB hz1 hk1 hS => ?_)
      obtain ⟨F210, rfl⟩ : ∃ z, z = u9 := ⟨_, rfl⟩
      obtain ⟨hP1, hK1, hD1⟩ := hB
      rw [ht] at hP1
      replace hK1 := va_K.moved hvm.symm hK1
      try dsimp only at hr9 hP1 hK1 hD1
      obtain ⟨hr9, hr9E⟩ := hr9
      obtain ⟨hPz, hDz⟩ := va_join (wr := [(h0, .inr (0, oT uT p9 a9 e9 n9 o9)), (a9, .inl (ca, 3, .inr (.inr (.inr (.inr (mo da)))))), (da 0, .inr (2, oD (F 0) (ra 0) (ka 0))), (da 1, .inr (2, oD (F 1) (ra 1) (ka 1)))]) (w1 := [(da 2, .inr (2, oD F210 (ra 2) (ka 2)))]) hP hD [4] [0, 1, 2, 3] rfl rfl (by decide) (by decide) hk1 hFc hP1 hD1
      clear hP hD hPc hDc hP1 hD1 hFc
      have hP := hPz
      have hD := hDz
      clear hPz hDz
      replace hK := (hK.sub (tys' := [(ca, .object "VotedTriple$VotedModule")]) [0] rfl).app hK1
      clear hK1 hKc
      generalize H1 = H at hP hS ⊢
      replace hP : va_P (dC, dI) classes [(h0, .inr (0, oT uT p9 a9 e9 n9 o9)), (a9, .inl (ca, 3, .inr (.inr (.inr (.inr (mo da)))))), (da 0, .inr (2, oD (F 0) (ra 0) (ka 0))), (da 1, .inr (2, oD (F 1) (ra 1) (ka 1))), (da 2, .inr (2, oD F210 (ra 2) (ka 2)))] H := hP
      replace hD : va_D A [(h0, .inr (0, oT uT p9 a9 e9 n9 o9)), (a9, .inl (ca, 3, .inr (.inr (.inr (.inr (mo da)))))), (da 0, .inr (2, oD (F 0) (ra 0) (ka 0))), (da 1, .inr (2, oD (F 1) (ra 1) (ka 1))), (da 2, .inr (2, oD F210 (ra 2) (ka 2)))] := hD
      replace hK : va_K (dC, dI) classes [(ca, .object "VotedTriple$VotedModule")] s := hK
      refine W.widen (k := 0) (n := 0) (Nat.le_of_ble_eq_true rfl) (Nat.le_of_ble_eq_true rfl) ?_
      refine lv_iinc (k := 1) (v := 3) hx hb d_T_blameNamed_28 hl rfl rfl (by decide) rfl (fun ls hl => ?_)
      replace hl : lv_has ls 2 [(1, .int 3), (0, .ref h0)] := hl
      refine lv_goto (tgt := 2) hx hb d_T_blameNamed_31 rfl ?_
      have hSq : SP = s_T_blameNamed_cut2_3 uT (tri (F 0) (F 1) F210) := by rw [hSq0, s_T_blameNamed_cut2_2]; try (rw [if_neg hc7]); try (rw [← hr9E, bnd_eq]); all_goals rfl
      replace hl := lv_sub hl (l' := [(0, .ref h0), (1, .int 3)]) [1, 0] rfl
      replace hP := hP.sub (ws' := [(h0, .inr (0, oT uT p9 a9 e9 n9 o9)), (a9, .inl (ca, 3, .inr (.inr (.inr (.inr (mo da)))))), (da 0, .inr (2, oD (tri (F 0) (F 1) F210 0) (ra 0) (ka 0))), (da 1, .inr (2, oD (tri (F 0) (F 1) F210 1) (ra 1) (ka 1))), (da 2, .inr (2, oD (tri (F 0) (F 1) F210 2) (ra 2) (ka 2)))]) [0, 1, 2, 3, 4] rfl
      replace hD := hD.sub (ws' := [(h0, .inr (0, oT uT p9 a9 e9 n9 o9)), (a9, .inl (ca, 3, .inr (.inr (.inr (.inr (mo da)))))), (da 0, .inr (2, oD (tri (F 0) (F 1) F210 0) (ra 0) (ka 0))), (da 1, .inr (2, oD (tri (F 0) (F 1) F210 1) (ra 1) (ka 1))), (da 2, .inr (2, oD (tri (F 0) (F 1) F210 2) (ra 2) (ka 2)))]) [0, 1, 2, 3, 4] (by decide) rfl
      exact cut2_3 (tri (F 0) (F 1) F210) _ _ _ (⟨hF.1, hF.2.1, hr9⟩) hSq hl hP hD hS
  have cut2_1 : ∀ (F : Nat → Nat → Int32) (ls : Array Slot) (H : Heap) (locs : List Loc), f3 F → SP = s_T_blameNamed_cut2_1 uT F →  lv_has ls 2 [(0, .ref h0), (1, .int 1)] → va_P (dC, dI) classes [(h0, .inr (0, oT uT p9 a9 e9 n9 o9)), (a9, .inl (ca, 3, .inr (.inr (.inr (.inr (mo da)))))), (da 0, .inr (2, oD (F 0) (ra 0) (ka 0))), (da 1, .inr (2, oD (F 1) (ra 1) (ka 1))), (da 2, .inr (2, oD (F 2) (ra 2) (ka 2)))] H → va_D A [(h0, .inr (0, oT uT p9 a9 e9 n9 o9)), (a9, .inl (ca, 3, .inr (.inr (.inr (.inr (mo da)))))), (da 0, .inr (2, oD (F 0) (ra 0) (ka 0))), (da 1, .inr (2, oD (F 1) (ra 1) (ka 1))), (da 2, .inr (2, oD (F 2) (ra 2) (ka 2)))] → va_S A s.heap H locs → W p l e (headSpec (tbw y_T_blameNamed b_T_blameNamed 2 (some .boolean)) ({ frames := 1, cells := 0, slots := 0, locals := 22 })).room s m ([.ref h0] : List Value).toArray below meth c H locs 0 0 (MQ below (va_Qi (fun (r : Int32) (u9 : (Nat → Nat → Int32)) => match u9 with | F2 => (f3 F2) ∧ (r, F2) = SP) (fun (u9 : (Nat → Nat → Int32)) t => match u9 with | F2 => va_P (dC, dI) classes [(h0, .inr (0, oT uT p9 a9 e9 n9 o9)), (a9, .inl (ca, 3, .inr (.inr (.inr (.inr (mo da)))))), (da 0, .inr (2, oD (F2 0) (ra 0) (ka 0))), (da 1, .inr (2, oD (F2 1) (ra 1) (ka 1))), (da 2, .inr (2, oD (F2 2) (ra 2) (ka 2)))] t.heap ∧ va_K (dC, dI) classes [(ca, .object "VotedTriple$VotedModule")] t ∧ va_D A [(h0, .inr (0, oT uT p9 a9 e9 n9 o9)), (a9, .inl (ca, 3, .inr (.inr (.inr (.inr (mo da)))))), (da 0, .inr (2, oD (F2 0) (ra 0) (ka 0))), (da 1, .inr (2, oD (F2 1) (ra 1) (ka 1))), (da 2, .inr (2, oD (F2 2) (ra 2) (ka 2)))]) A) ([.ref h0] : List Value).toArray s 0 0 A) (F0 m 2 ls []) := by
    intro F ls H locs hF hSq0 hl hP hD hS
    clear cut2_3
    refine lv_iload_n hx hb d_T_blameNamed_2 rfl (lv_at hl 1 rfl) ?_
    refine lv_iconst (v := 3) hx hb d_T_blameNamed_3 (by decide) ?_
    refine lv_icmp_ge (tgt := 34) hx hb d_T_blameNamed_4 rfl (fun hc11 => by first | exact absurd hc11 (by decide) | exact absurd (by decide) hc11) (fun hc11 => ?_)
    refine lv_aload_n hx hb d_T_blameNamed_7 rfl (lv_at hl 0 rfl) ?_
    refine va_get (D := (dC, dI)) (ci := 0) (v := .ref a9) (C := "VotedTriple") (T := F_T) (N := 11) hx hb hw in_T hown hK hP 0 rfl rfl 1 (by decide) (hw _ k_195) (fun _ h9 => h9) rfl d_T_blameNamed_8 ?_
    refine lv_iload_n hx hb d_T_blameNamed_11 rfl (lv_at hl 1 rfl) ?_
    refine va_aldq hx hb hK hP 1 0 rfl rfl (by unfold vp_in; decide) d_T_blameNamed_12 ?_
    refine W.eq (g2 := F0 m 13 ls [.ref (da 1)]) rfl ?_
    refine va_get (D := (dC, dI)) (ci := 2) (v := .int (F 1 15)) (C := "VotedTriple$VotedModule") (T := F_D) (N := 19) hx hb hw in_D hown hK hP 3 rfl rfl 15 (by decide) (hw _ k_157) (fun _ h9 => h9) rfl d_T_blameNamed_13 ?_
    refine lv_if_eq (tgt := 28) hx hb d_T_blameNamed_16 rfl (fun hc12 => ?_) (fun hc12 => ?_)
    · --  (F 1 15) = 0
      refine lv_iinc (k := 1) (v := 2) hx hb d_T_blameNamed_28 hl rfl rfl (by decide) rfl (fun ls hl => ?_)
      replace hl : lv_has ls 2 [(1, .int 2), (0, .ref h0)] := hl
      refine lv_goto (tgt := 2) hx hb d_T_blameNamed_31 rfl ?_
      have hSq : SP = s_T_blameNamed_cut2_2 uT F := by rw [hSq0, s_T_blameNamed_cut2_1]; try (rw [if_pos hc12]); all_goals rfl
      replace hl := lv_sub hl (l' := [(0, .ref h0), (1, .int 2)]) [1, 0] rfl
      replace hP := hP.sub (ws' := [(h0, .inr (0, oT uT p9 a9 e9 n9 o9)), (a9, .inl (ca, 3, .inr (.inr (.inr (.inr (mo da)))))), (da 0, .inr (2, oD (F 0) (ra 0) (ka 0))), (da 1, .inr (2, oD (F 1) (ra 1) (ka 1))), (da 2, .inr (2, oD (F 2) (ra 2) (ka 2)))]) [0, 1, 2, 3, 4] rfl
      replace hD := hD.sub (ws' := [(h0, .inr (0, oT uT p9 a9 e9 n9 o9)), (a9, .inl (ca, 3, .inr (.inr (.inr (.inr (mo da)))))), (da 0, .inr (2, oD (F 0) (ra 0) (ka 0))), (da 1, .inr (2, oD (F 1) (ra 1) (ka 1))), (da 2, .inr (2, oD (F 2) (ra 2) (ka 2)))]) [0, 1, 2, 3, 4] (by decide) rfl
      exact cut2_2 F _ _ _ hF hSq hl hP hD hS
    · --  ¬ (F 1 15) = 0
      refine lv_aload_n hx hb d_T_blameNamed_19 rfl (lv_at hl 0 rfl) ?_
      refine va_get (D := (dC, dI)) (ci := 0) (v := .ref a9) (C := "VotedTriple") (T := F_T) (N := 11) hx hb hw in_T hown hK hP 0 rfl rfl 1 (by decide) (hw _ k_195) (fun _ h9 => h9) rfl d_T_blameNamed_20 ?_
      refine lv_iload_n hx hb d_T_blameNamed_23 rfl (lv_at hl 1 rfl) ?_
      refine va_aldq hx hb hK hP 1 0 rfl rfl (by unfold vp_in; decide) d_T_blameNamed_24 ?_
      refine W.eq (g2 := F0 m 25 ls [.ref (da 1)]) rfl ?_
      replace hPc := hP.sub (ws' := [(da 1, .inr (2, oD (F 1) (ra 1) (ka 1)))]) [3] rfl
      replace hKc := hK.sub (tys' := []) [] rfl
      replace hDc := hD.sub (ws' := [(da 1, .inr (2, oD (F 1) (ra 1) (ka 1)))]) [3] (by decide) rfl
      replace hFc := va_free (wc := [(da 1, .inr (2, oD (F 1) (ra 1) (ka 1)))]) hD hS hA [3] rfl
      refine va_callv (va_runV (C := "VotedTriple$VotedModule") (As := []) (rest := []) ⟨hx, hb, hml, hown, hw⟩ (c_D_takeBlame l dC dI (da 1) (ra 1) (ka 1) (F 1) hF.2.1 H.size) (cwV 0 hw (gdV (k_651) (k_648) (k_649) (k_650) (k_7)) rfl rfl rfl (by decide +kernel) ⟨Nat.le_of_ble_eq_true rfl, Nat.le_of_ble_eq_true rfl⟩) ⟨fun a U g mk q => by obtain ⟨q0, q1, qP, qK, qD⟩ := q; exact ⟨q0, q1, qP, va_K.moved (u := U) (U := U.calling g mk a) (Vm.Alike.refl U.vm) qK, qD⟩, va_recv hK hP rfl (q0 := 3) rfl, fun U hU hW => ⟨rfl, by rw [hU], by rw [hU]; exact hPc, va_K.moved hW.alike hKc, hDc.weaken (fun _ _ _ _ => trivial)⟩⟩ rfl rfl hl.1 rfl (lv_room (Nat.le_of_ble_eq_true rfl)) d_T_blameNamed_25 ⟨Nat.le_of_ble_eq_true rfl, Nat.le_of_ble_eq_true rfl⟩) hS (fun q _ h => hFc q h) hFc (fun u9 t H1 locs ht hvm hr14 hB hz1 hk1 hS => ?_)
      obtain ⟨F215, rfl⟩ : ∃ z, z = u9 := ⟨_, rfl⟩
      obtain ⟨hP1, hK1, hD1⟩ := hB
      rw [ht] at hP1
      replace hK1 := va_K.moved hvm.symm hK1
      try dsimp only at hr14 hP1 hK1 hD1
      obtain ⟨hr14, hr14E⟩ := hr14
      obtain ⟨hPz, hDz⟩ := va_join (wr := [(h0, .inr (0, oT uT p9 a9 e9 n9 o9)), (a9, .inl (ca, 3, .inr (.inr (.inr (.inr (mo da)))))), (da 0, .inr (2, oD (F 0) (ra 0) (ka 0))), (da 2, .inr (2, oD (F 2) (ra 2) (ka 2)))]) (w1 := [(da 1, .inr (2, oD F215 (ra 1) (ka 1)))]) hP hD [3] [0, 1, 2, 4] rfl rfl (by decide) (by decide) hk1 hFc hP1 hD1
      clear hP hD hPc hDc hP1 hD1 hFc
      have hP := hPz
      have hD := hDz
      clear hPz hDz
      replace hK := (hK.sub (tys' := [(ca, .object "VotedTriple$VotedModule")]) [0] rfl).app hK1
      clear hK1 hKc
      generalize H1 = H at hP hS ⊢
      replace hP : va_P (dC, dI) classes [(h0, .inr (0, oT uT p9 a9 e9 n9 o9)), (a9, .inl (ca, 3, .inr (.inr (.inr (.inr (mo da)))))), (da 0, .inr (2, oD (F 0) (ra 0) (ka 0))), (da 2, .inr (2, oD (F 2) (ra 2) (ka 2))), (da 1, .inr (2, oD F215 (ra 1) (ka 1)))] H := hP
      replace hD : va_D A [(h0, .inr (0, oT uT p9 a9 e9 n9 o9)), (a9, .inl (ca, 3, .inr (.inr (.inr (.inr (mo da)))))), (da 0, .inr (2, oD (F 0) (ra 0) (ka 0))), (da 2, .inr (2, oD (F 2) (ra 2) (ka 2))), (da 1, .inr (2, oD F215 (ra 1) (ka 1)))] := hD
      replace hK : va_K (dC, dI) classes [(ca, .object "VotedTriple$VotedModule")] s := hK
      refine W.widen (k := 0) (n := 0) (Nat.le_of_ble_eq_true rfl) (Nat.le_of_ble_eq_true rfl) ?_
      refine lv_iinc (k := 1) (v := 2) hx hb d_T_blameNamed_28 hl rfl rfl (by decide) rfl (fun ls hl => ?_)
      replace hl : lv_has ls 2 [(1, .int 2), (0, .ref h0)] := hl
      refine lv_goto (tgt := 2) hx hb d_T_blameNamed_31 rfl ?_
      have hSq : SP = s_T_blameNamed_cut2_2 uT (tri (F 0) F215 (F 2)) := by rw [hSq0, s_T_blameNamed_cut2_1]; try (rw [if_neg hc12]); try (rw [← hr14E, bnd_eq]); all_goals rfl
      replace hl := lv_sub hl (l' := [(0, .ref h0), (1, .int 2)]) [1, 0] rfl
      replace hP := hP.sub (ws' := [(h0, .inr (0, oT uT p9 a9 e9 n9 o9)), (a9, .inl (ca, 3, .inr (.inr (.inr (.inr (mo da)))))), (da 0, .inr (2, oD (tri (F 0) F215 (F 2) 0) (ra 0) (ka 0))), (da 1, .inr (2, oD (tri (F 0) F215 (F 2) 1) (ra 1) (ka 1))), (da 2, .inr (2, oD (tri (F 0) F215 (F 2) 2) (ra 2) (ka 2)))]) [0, 1, 2, 4, 3] rfl
      replace hD := hD.sub (ws' := [(h0, .inr (0, oT uT p9 a9 e9 n9 o9)), (a9, .inl (ca, 3, .inr (.inr (.inr (.inr (mo da)))))), (da 0, .inr (2, oD (tri (F 0) F215 (F 2) 0) (ra 0) (ka 0))), (da 1, .inr (2, oD (tri (F 0) F215 (F 2) 1) (ra 1) (ka 1))), (da 2, .inr (2, oD (tri (F 0) F215 (F 2) 2) (ra 2) (ka 2)))]) [0, 1, 2, 4, 3] (by decide) rfl
      exact cut2_2 (tri (F 0) F215 (F 2)) _ _ _ (⟨hF.1, hr14, hF.2.2⟩) hSq hl hP hD hS
  clear cut2_3 cut2_2
  refine lv_iconst (v := 0) hx hb d_T_blameNamed_0 (by decide) ?_
  refine lv_istore_n hx hb d_T_blameNamed_1 rfl hl (by decide) rfl (fun ls hl => ?_)
  replace hl : lv_has ls 2 [(1, .int 0), (0, .ref h0)] := hl
  refine lv_iload_n hx hb d_T_blameNamed_2 rfl (lv_at hl 0 rfl) ?_
  refine lv_iconst (v := 3) hx hb d_T_blameNamed_3 (by decide) ?_
  refine lv_icmp_ge (tgt := 34) hx hb d_T_blameNamed_4 rfl (fun hc16 => by first | exact absurd hc16 (by decide) | exact absurd (by decide) hc16) (fun hc16 => ?_)
  refine lv_aload_n hx hb d_T_blameNamed_7 rfl (lv_at hl 1 rfl) ?_
  refine va_get (D := (dC, dI)) (ci := 0) (v := .ref a9) (C := "VotedTriple") (T := F_T) (N := 11) hx hb hw in_T hown hK hP 0 rfl rfl 1 (by decide) (hw _ k_195) (fun _ h9 => h9) rfl d_T_blameNamed_8 ?_
  refine lv_iload_n hx hb d_T_blameNamed_11 rfl (lv_at hl 0 rfl) ?_
  refine va_aldq hx hb hK hP 1 0 rfl rfl (by unfold vp_in; decide) d_T_blameNamed_12 ?_
  refine W.eq (g2 := F0 m 13 ls [.ref (da 0)]) rfl ?_
  refine va_get (D := (dC, dI)) (ci := 2) (v := .int (F 0 15)) (C := "VotedTriple$VotedModule") (T := F_D) (N := 19) hx hb hw in_D hown hK hP 2 rfl rfl 15 (by decide) (hw _ k_157) (fun _ h9 => h9) rfl d_T_blameNamed_13 ?_
  refine lv_if_eq (tgt := 28) hx hb d_T_blameNamed_16 rfl (fun hc17 => ?_) (fun hc17 => ?_)
  · --  (F 0 15) = 0
    refine lv_iinc (k := 0) (v := 1) hx hb d_T_blameNamed_28 hl rfl rfl (by decide) rfl (fun ls hl => ?_)
    replace hl : lv_has ls 2 [(1, .int 1), (0, .ref h0)] := hl
    refine lv_goto (tgt := 2) hx hb d_T_blameNamed_31 rfl ?_
    have hSq : SP = s_T_blameNamed_cut2_1 uT F := by rw [← hSP, s_T_blameNamed]; try (rw [if_pos hc17]); all_goals rfl
    replace hl := lv_sub hl (l' := [(0, .ref h0), (1, .int 1)]) [1, 0] rfl
    replace hP := hP.sub (ws' := [(h0, .inr (0, oT uT p9 a9 e9 n9 o9)), (a9, .inl (ca, 3, .inr (.inr (.inr (.inr (mo da)))))), (da 0, .inr (2, oD (F 0) (ra 0) (ka 0))), (da 1, .inr (2, oD (F 1) (ra 1) (ka 1))), (da 2, .inr (2, oD (F 2) (ra 2) (ka 2)))]) [0, 1, 2, 3, 4] rfl
    replace hD := hD.sub (ws' := [(h0, .inr (0, oT uT p9 a9 e9 n9 o9)), (a9, .inl (ca, 3, .inr (.inr (.inr (.inr (mo da)))))), (da 0, .inr (2, oD (F 0) (ra 0) (ka 0))), (da 1, .inr (2, oD (F 1) (ra 1) (ka 1))), (da 2, .inr (2, oD (F 2) (ra 2) (ka 2)))]) [0, 1, 2, 3, 4] (by decide) rfl
    exact cut2_1 F _ _ _ hF hSq hl hP hD hS
  · --  ¬ (F 0 15) = 0
    refine lv_aload_n hx hb d_T_blameNamed_19 rfl (lv_at hl 1 rfl) ?_
    refine va_get (D := (dC, dI)) (ci := 0) (v := .ref a9) (C := "VotedTriple") (T := F_T) (N := 11) hx hb hw in_T hown hK hP 0 rfl rfl 1 (by decide) (hw _ k_195) (fun _ h9 => h9) rfl d_T_blameNamed_20 ?_
    refine lv_iload_n hx hb d_T_blameNamed_23 rfl (lv_at hl 0 rfl) ?_
    refine va_aldq hx hb hK hP 1 0 rfl rfl (by unfold vp_in; decide) d_T_blameNamed_24 ?_
    refine W.eq (g2 := F0 m 25 ls [.ref (da 0)]) rfl ?_
    replace hPc := hP.sub (ws' := [(da 0, .inr (2, oD (F 0) (ra 0) (ka 0)))]) [2] rfl
    replace hKc := hK.sub (tys' := []) [] rfl
    replace hDc := hD.sub (ws' := [(da 0, .inr (2, oD (F 0) (ra 0) (ka 0)))]) [2] (by decide) rfl
    replace hFc := va_free (wc := [(da 0, .inr (2, oD (F 0) (ra 0) (ka 0)))]) hD hS hA [2] rfl
    refine va_callv (va_runV (C := "VotedTriple$VotedModule") (As := []) (rest := []) ⟨hx, hb, hml, hown, hw⟩ (c_D_takeBlame l dC dI (da 0) (ra 0) (ka 0) (F 0) hF.1 s.heap.size) (cwV 0 hw (gdV (k_651) (k_648) (k_649) (k_650) (k_7)) rfl rfl rfl (by decide +kernel) ⟨Nat.le_of_ble_eq_true rfl, Nat.le_of_ble_eq_true rfl⟩) ⟨fun a U g mk q => by obtain ⟨q0, q1, qP, qK, qD⟩ := q; exact ⟨q0, q1, qP, va_K.moved (u := U) (U := U.calling g mk a) (Vm.Alike.refl U.vm) qK, qD⟩, va_recv hK hP rfl (q0 := 2) rfl, fun U hU hW => ⟨rfl, by rw [hU], by rw [hU]; exact hPc, va_K.moved hW.alike hKc, hDc.weaken (fun _ _ _ _ => trivial)⟩⟩ rfl rfl hl.1 rfl (lv_room (Nat.le_of_ble_eq_true rfl)) d_T_blameNamed_25 ⟨Nat.le_of_ble_eq_true rfl, Nat.le_of_ble_eq_true rfl⟩) hS (fun q _ h => hFc q h) hFc (fun u9 t H1 locs ht hvm hr19 hB hz1 hk1 hS => ?_)
    obtain ⟨F220, rfl⟩ : ∃ z, z = u9 := ⟨_, rfl⟩
    obtain ⟨hP1, hK1, hD1⟩ := hB
    rw [ht] at hP1
    replace hK1 := va_K.moved hvm.symm hK1
    try dsimp only at hr19 hP1 hK1 hD1
    obtain ⟨hr19, hr19E⟩ := hr19
    obtain ⟨hPz, hDz⟩ := va_join (wr := [(h0, .inr (0, oT uT p9 a9 e9 n9 o9)), (a9, .inl (ca, 3, .inr (.inr (.inr (.inr (mo da)))))), (da 1, .inr (2, oD (F 1) (ra 1) (ka 1))), (da 2, .inr (2, oD (F 2) (ra 2) (ka 2)))]) (w1 := [(da 0, .inr (2, oD F220 (ra 0) (ka 0)))]) hP hD [2] [0, 1, 3, 4] rfl rfl (by decide) (by decide) hk1 hFc hP1 hD1
    clear hP hD hPc hDc hP1 hD1 hFc
    have hP := hPz
    have hD := hDz
    clear hPz hDz
    replace hK := (hK.sub (tys' := [(ca, .object "VotedTriple$VotedModule")]) [0] rfl).app hK1
    clear hK1 hKc
    generalize H1 = H at hP hS ⊢
    replace hP : va_P (dC, dI) classes [(h0, .inr (0, oT uT p9 a9 e9 n9 o9)), (a9, .inl (ca, 3, .inr (.inr (.inr (.inr (mo da)))))), (da 1, .inr (2, oD (F 1) (ra 1) (ka 1))), (da 2, .inr (2, oD (F 2) (ra 2) (ka 2))), (da 0, .inr (2, oD F220 (ra 0) (ka 0)))] H := hP
    replace hD : va_D A [(h0, .inr (0, oT uT p9 a9 e9 n9 o9)), (a9, .inl (ca, 3, .inr (.inr (.inr (.inr (mo da)))))), (da 1, .inr (2, oD (F 1) (ra 1) (ka 1))), (da 2, .inr (2, oD (F 2) (ra 2) (ka 2))), (da 0, .inr (2, oD F220 (ra 0) (ka 0)))] := hD
    replace hK : va_K (dC, dI) classes [(ca, .object "VotedTriple$VotedModule")] s := hK
    refine W.widen (k := 0) (n := 0) (Nat.le_of_ble_eq_true rfl) (Nat.le_of_ble_eq_true rfl) ?_
    refine lv_iinc (k := 0) (v := 1) hx hb d_T_blameNamed_28 hl rfl rfl (by decide) rfl (fun ls hl => ?_)
    replace hl : lv_has ls 2 [(1, .int 1), (0, .ref h0)] := hl
    refine lv_goto (tgt := 2) hx hb d_T_blameNamed_31 rfl ?_
    have hSq : SP = s_T_blameNamed_cut2_1 uT (tri F220 (F 1) (F 2)) := by rw [← hSP, s_T_blameNamed]; try (rw [if_neg hc17]); try (rw [← hr19E, bnd_eq]); all_goals rfl
    replace hl := lv_sub hl (l' := [(0, .ref h0), (1, .int 1)]) [1, 0] rfl
    replace hP := hP.sub (ws' := [(h0, .inr (0, oT uT p9 a9 e9 n9 o9)), (a9, .inl (ca, 3, .inr (.inr (.inr (.inr (mo da)))))), (da 0, .inr (2, oD (tri F220 (F 1) (F 2) 0) (ra 0) (ka 0))), (da 1, .inr (2, oD (tri F220 (F 1) (F 2) 1) (ra 1) (ka 1))), (da 2, .inr (2, oD (tri F220 (F 1) (F 2) 2) (ra 2) (ka 2)))]) [0, 1, 4, 2, 3] rfl
    replace hD := hD.sub (ws' := [(h0, .inr (0, oT uT p9 a9 e9 n9 o9)), (a9, .inl (ca, 3, .inr (.inr (.inr (.inr (mo da)))))), (da 0, .inr (2, oD (tri F220 (F 1) (F 2) 0) (ra 0) (ka 0))), (da 1, .inr (2, oD (tri F220 (F 1) (F 2) 1) (ra 1) (ka 1))), (da 2, .inr (2, oD (tri F220 (F 1) (F 2) 2) (ra 2) (ka 2)))]) [0, 1, 4, 2, 3] (by decide) rfl
    exact cut2_1 (tri F220 (F 1) (F 2)) _ _ _ (⟨hr19, hF.2.1, hF.2.2⟩) hSq hl hP hD hS

set_option maxHeartbeats 4000000 in
set_option maxRecDepth 100000 in
theorem c_T_copyOn (l : Launch) (dC : Nat → ClassId) (dI : Nat → Nat → Nat) (h0 : Nat) (p9 : Nat) (a9 : Nat) (e9 : Nat) (n9 : Nat) (o9 : Nat) (ca : ClassId) (da : Nat → Nat) (ra : Nat → Nat) (ka : Nat → Nat) (cr : Nat → ClassId) (ck : Nat → ClassId) (uT : Nat → Int32) (F : Nat → Nat → Int32) (g : Nat → Nat → Int32) (v : Nat → Nat → Int32) (hF : f3 F) (hg : g3 g) (sz : Nat) : Met l y_T_copyOn (tbw y_T_copyOn b_T_copyOn 3 none) ({ frames := 2, cells := 0, slots := 0, locals := 41 }) (va_Pc [.ref h0] (fun U => U.heap.size = sz ∧ va_P (dC, dI) classes [(h0, .inr (0, oT uT p9 a9 e9 n9 o9)), (a9, .inl (ca, 3, .inr (.inr (.inr (.inr (mo da)))))), (da 0, .inr (2, oD (F 0) (ra 0) (ka 0))), (ra 0, .inl (cr 0, 8, .inl (g 0))), (ka 0, .inl (ck 0, 32, .inl (v 0))), (da 1, .inr (2, oD (F 1) (ra 1) (ka 1))), (ra 1, .inl (cr 1, 8, .inl (g 1))), (ka 1, .inl (ck 1, 32, .inl (v 1))), (da 2, .inr (2, oD (F 2) (ra 2) (ka 2))), (ra 2, .inl (cr 2, 8, .inl (g 2))), (ka 2, .inl (ck 2, 32, .inl (v 2)))] U.heap ∧ va_K (dC, dI) classes [(ca, .object "VotedTriple$VotedModule"), (cr 0, .int), (ck 0, .int), (cr 1, .int), (ck 1, .int), (cr 2, .int), (ck 2, .int)] U ∧ va_D (fun _ => True) [(h0, .inr (0, oT uT p9 a9 e9 n9 o9)), (a9, .inl (ca, 3, .inr (.inr (.inr (.inr (mo da)))))), (da 0, .inr (2, oD (F 0) (ra 0) (ka 0))), (ra 0, .inl (cr 0, 8, .inl (g 0))), (ka 0, .inl (ck 0, 32, .inl (v 0))), (da 1, .inr (2, oD (F 1) (ra 1) (ka 1))), (ra 1, .inl (cr 1, 8, .inl (g 1))), (ka 1, .inl (ck 1, 32, .inl (v 1))), (da 2, .inr (2, oD (F 2) (ra 2) (ka 2))), (ra 2, .inl (cr 2, 8, .inl (g 2))), (ka 2, .inl (ck 2, 32, .inl (v 2)))])) (va_Qv (fun (u9 : (Nat → Nat → Int32) × (Nat → Nat → Int32) × (Nat → Nat → Int32)) => match u9 with | (F2, g2, v2) => (f3 F2 ∧ g3 g2) ∧ (F2, g2, v2) = s_T_copyOn F g v) (fun (u9 : (Nat → Nat → Int32) × (Nat → Nat → Int32) × (Nat → Nat → Int32)) t => match u9 with | (F2, g2, v2) => va_P (dC, dI) classes [(h0, .inr (0, oT uT p9 a9 e9 n9 o9)), (a9, .inl (ca, 3, .inr (.inr (.inr (.inr (mo da)))))), (da 0, .inr (2, oD (F2 0) (ra 0) (ka 0))), (ra 0, .inl (cr 0, 8, .inl (g2 0))), (ka 0, .inl (ck 0, 32, .inl (v2 0))), (da 1, .inr (2, oD (F2 1) (ra 1) (ka 1))), (ra 1, .inl (cr 1, 8, .inl (g2 1))), (ka 1, .inl (ck 1, 32, .inl (v2 1))), (da 2, .inr (2, oD (F2 2) (ra 2) (ka 2))), (ra 2, .inl (cr 2, 8, .inl (g2 2))), (ka 2, .inl (ck 2, 32, .inl (v2 2)))] t.heap ∧ va_K (dC, dI) classes [(ca, .object "VotedTriple$VotedModule"), (cr 0, .int), (ck 0, .int), (cr 1, .int), (ck 1, .int), (cr 2, .int), (ck 2, .int)] t ∧ va_D (va_A [(h0, .inr (0, oT uT p9 a9 e9 n9 o9)), (a9, .inl (ca, 3, .inr (.inr (.inr (.inr (mo da)))))), (da 0, .inr (2, oD (F 0) (ra 0) (ka 0))), (ra 0, .inl (cr 0, 8, .inl (g 0))), (ka 0, .inl (ck 0, 32, .inl (v 0))), (da 1, .inr (2, oD (F 1) (ra 1) (ka 1))), (ra 1, .inl (cr 1, 8, .inl (g 1))), (ka 1, .inl (ck 1, 32, .inl (v 1))), (da 2, .inr (2, oD (F 2) (ra 2) (ka 2))), (ra 2, .inl (cr 2, 8, .inl (g 2))), (ka 2, .inl (ck 2, 32, .inl (v 2)))] sz) [(h0, .inr (0, oT uT p9 a9 e9 n9 o9)), (a9, .inl (ca, 3, .inr (.inr (.inr (.inr (mo da)))))), (da 0, .inr (2, oD (F2 0) (ra 0) (ka 0))), (ra 0, .inl (cr 0, 8, .inl (g2 0))), (ka 0, .inl (ck 0, 32, .inl (v2 0))), (da 1, .inr (2, oD (F2 1) (ra 1) (ka 1))), (ra 1, .inl (cr 1, 8, .inl (g2 1))), (ka 1, .inl (ck 1, 32, .inl (v2 1))), (da 2, .inr (2, oD (F2 2) (ra 2) (ka 2))), (ra 2, .inl (cr 2, 8, .inl (g2 2))), (ka 2, .inl (ck 2, 32, .inl (v2 2)))]) (va_A [(h0, .inr (0, oT uT p9 a9 e9 n9 o9)), (a9, .inl (ca, 3, .inr (.inr (.inr (.inr (mo da)))))), (da 0, .inr (2, oD (F 0) (ra 0) (ka 0))), (ra 0, .inl (cr 0, 8, .inl (g 0))), (ka 0, .inl (ck 0, 32, .inl (v 0))), (da 1, .inr (2, oD (F 1) (ra 1) (ka 1))), (ra 1, .inl (cr 1, 8, .inl (g 1))), (ka 1, .inl (ck 1, 32, .inl (v 1))), (da 2, .inr (2, oD (F 2) (ra 2) (ka 2))), (ra 2, .inl (cr 2, 8, .inl (g 2))), (ka 2, .inl (ck 2, 32, .inl (v 2)))] sz)) 0 0 (va_A [(h0, .inr (0, oT uT p9 a9 e9 n9 o9)), (a9, .inl (ca, 3, .inr (.inr (.inr (.inr (mo da)))))), (da 0, .inr (2, oD (F 0) (ra 0) (ka 0))), (ra 0, .inl (cr 0, 8, .inl (g 0))), (ka 0, .inl (ck 0, 32, .inl (v 0))), (da 1, .inr (2, oD (F 1) (ra 1) (ka 1))), (ra 1, .inl (cr 1, 8, .inl (g 1))), (ka 1, .inl (ck 1, 32, .inl (v 1))), (da 2, .inr (2, oD (F 2) (ra 2) (ka 2))), (ra 2, .inl (cr 2, 8, .inl (g 2))), (ka 2, .inl (ck 2, 32, .inl (v 2)))] sz) := by
  refine Met.ofW (cc := b_T_copyOn) (maxL := 3) (ret := none) (by decide) rfl ?_
  intro p e s m args below meth c s₁ B hml hv
  obtain ⟨rfl, hsz, hP, hK, hD0⟩ := hv
  have hx := B.exec
  have hb := B.bytes
  have hr := B.returns
  have hts := atoms_spec (ws := (tbw y_T_copyOn b_T_copyOn 3 none)) B.pre
  have hw : ∀ z9 ∈ tb, z9.before ([.ref h0] : List Value).toArray s = true := fun z9 h => hts z9 (List.mem_cons_of_mem _ h)
  have hown : s.vm.findClass "VotedTriple" = some m.cls := findClass_of_methodNamed B.named
  have hlocks := B.notSynchronized
  subst hsz
  replace hD := hD0.self (sz := s.heap.size)
  generalize hAe : va_A [(h0, .inr (0, oT uT p9 a9 e9 n9 o9)), (a9, .inl (ca, 3, .inr (.inr (.inr (.inr (mo da)))))), (da 0, .inr (2, oD (F 0) (ra 0) (ka 0))), (ra 0, .inl (cr 0, 8, .inl (g 0))), (ka 0, .inl (ck 0, 32, .inl (v 0))), (da 1, .inr (2, oD (F 1) (ra 1) (ka 1))), (ra 1, .inl (cr 1, 8, .inl (g 1))), (ka 1, .inl (ck 1, 32, .inl (v 1))), (da 2, .inr (2, oD (F 2) (ra 2) (ka 2))), (ra 2, .inl (cr 2, 8, .inl (g 2))), (ka 2, .inl (ck 2, 32, .inl (v 2)))] s.heap.size = A at hD ⊢
  have hA : ∀ q : Nat, s.heap.size ≤ q → A q := fun q h => by rw [← hAe]; exact Or.inr h
  have hS : va_S A s.heap s.heap [] := va_S.rf
  replace hl := lv_entry ([.ref h0]) (n := 3) (Nat.le_of_ble_eq_true rfl)
  rw [lg_entry_eq]
  generalize (lg_sl ([.ref h0]) ++ List.replicate (3 - (lg_sl ([.ref h0])).length) Slot.unset).toArray = ls at hl ⊢
  replace hl : lv_has ls 3 [(0, .ref h0)] := hl
  generalize hSP : s_T_copyOn F g v = SP
  have cut13_3 : ∀ (F : Nat → Nat → Int32) (g : Nat → Nat → Int32) (v : Nat → Nat → Int32) (w1 : Int32) (ls : Array Slot) (H : Heap) (locs : List Loc), f3 F → g3 g → ((w1 = 0 ∧ F 0 8 = 0) ∨ (w1 = 1 ∧ F 1 8 = 0) ∨ (w1 = 2 ∧ F 2 8 = 0)) → SP = s_T_copyOn_cut13_3 F g v w1 →  lv_has ls 3 [(0, .ref h0), (1, .int w1), (2, .int 3)] → va_P (dC, dI) classes [(h0, .inr (0, oT uT p9 a9 e9 n9 o9)), (a9, .inl (ca, 3, .inr (.inr (.inr (.inr (mo da)))))), (da 0, .inr (2, oD (F 0) (ra 0) (ka 0))), (ra 0, .inl (cr 0, 8, .inl (g 0))), (ka 0, .inl (ck 0, 32, .inl (v 0))), (da 1, .inr (2, oD (F 1) (ra 1) (ka 1))), (ra 1, .inl (cr 1, 8, .inl (g 1))), (ka 1, .inl (ck 1, 32, .inl (v 1))), (da 2, .inr (2, oD (F 2) (ra 2) (ka 2))), (ra 2, .inl (cr 2, 8, .inl (g 2))), (ka 2, .inl (ck 2, 32, .inl (v 2)))] H → va_D A [(h0, .inr (0, oT uT p9 a9 e9 n9 o9)), (a9, .inl (ca, 3, .inr (.inr (.inr (.inr (mo da)))))), (da 0, .inr (2, oD (F 0) (ra 0) (ka 0))), (ra 0, .inl (cr 0, 8, .inl (g 0))), (ka 0, .inl (ck 0, 32, .inl (v 0))), (da 1, .inr (2, oD (F 1) (ra 1) (ka 1))), (ra 1, .inl (cr 1, 8, .inl (g 1))), (ka 1, .inl (ck 1, 32, .inl (v 1))), (da 2, .inr (2, oD (F 2) (ra 2) (ka 2))), (ra 2, .inl (cr 2, 8, .inl (g 2))), (ka 2, .inl (ck 2, 32, .inl (v 2)))] → va_S A s.heap H locs → W p l e (headSpec (tbw y_T_copyOn b_T_copyOn 3 none) ({ frames := 2, cells := 0, slots := 0, locals := 41 })).room s m ([.ref h0] : List Value).toArray below meth c H locs 0 0 (MQ below (va_Qv (fun (u9 : (Nat → Nat → Int32) × (Nat → Nat → Int32) × (Nat → Nat → Int32)) => match u9 with | (F2, g2, v2) => (f3 F2 ∧ g3 g2) ∧ (F2, g2, v2) = SP) (fun (u9 : (Nat → Nat → Int32) × (Nat → Nat → Int32) × (Nat → Nat → Int32)) t => match u9 with | (F2, g2, v2) => va_P (dC, dI) classes [(h0, .inr (0, oT uT p9 a9 e9 n9 o9)), (a9, .inl (ca, 3, .inr (.inr (.inr (.inr (mo da)))))), (da 0, .inr (2, oD (F2 0) (ra 0) (ka 0))), (ra 0, .inl (cr 0, 8, .inl (g2 0))), (ka 0, .inl (ck 0, 32, .inl (v2 0))), (da 1, .inr (2, oD (F2 1) (ra 1) (ka 1))), (ra 1, .inl (cr 1, 8, .inl (g2 1))), (ka 1, .inl (ck 1, 32, .inl (v2 1))), (da 2, .inr (2, oD (F2 2) (ra 2) (ka 2))), (ra 2, .inl (cr 2, 8, .inl (g2 2))), (ka 2, .inl (ck 2, 32, .inl (v2 2)))] t.heap ∧ va_K (dC, dI) classes [(ca, .object "VotedTriple$VotedModule"), (cr 0, .int), (ck 0, .int), (cr 1, .int), (ck 1, .int), (cr 2, .int), (ck 2, .int)] t ∧ va_D A [(h0, .inr (0, oT uT p9 a9 e9 n9 o9)), (a9, .inl (ca, 3, .inr (.inr (.inr (.inr (mo da)))))), (da 0, .inr (2, oD (F2 0) (ra 0) (ka 0))), (ra 0, .inl (cr 0, 8, .inl (g2 0))), (ka 0, .inl (ck 0, 32, .inl (v2 0))), (da 1, .inr (2, oD (F2 1) (ra 1) (ka 1))), (ra 1, .inl (cr 1, 8, .inl (g2 1))), (ka 1, .inl (ck 1, 32, .inl (v2 1))), (da 2, .inr (2, oD (F2 2) (ra 2) (ka 2))), (ra 2, .inl (cr 2, 8, .inl (g2 2))), (ka 2, .inl (ck 2, 32, .inl (v2 2)))]) A) ([.ref h0] : List Value).toArray s 0 0 A) (F0 m 13 ls []) := by
    intro F g v w1 ls H locs hF hg h19 hSq0 hl hP hD hS
    refine lv_iload_n hx hb d_T_copyOn_13 rfl (lv_at hl 2 rfl) ?_
    refine lv_iconst (v := 3) hx hb d_T_copyOn_14 (by decide) ?_
    refine lv_icmp_ge (tgt := 64) hx hb d_T_copyOn_15 rfl (fun hc1 => ?_) (fun hc1 => by first | exact absurd (by decide) hc1 | exact absurd hc1 (by decide))
    have hP9 := hP.sub (ws' := [(h0, .inr (0, oT uT p9 a9 e9 n9 o9)), (a9, .inl (ca, 3, .inr (.inr (.inr (.inr (mo da)))))), (da 0, .inr (2, oD (F 0) (ra 0) (ka 0))), (ra 0, .inl (cr 0, 8, .inl (g 0))), (ka 0, .inl (ck 0, 32, .inl (v 0))), (da 1, .inr (2, oD (F 1) (ra 1) (ka 1))), (ra 1, .inl (cr 1, 8, .inl (g 1))), (ka 1, .inl (ck 1, 32, .inl (v 1))), (da 2, .inr (2, oD (F 2) (ra 2) (ka 2))), (ra 2, .inl (cr 2, 8, .inl (g 2))), (ka 2, .inl (ck 2, 32, .inl (v 2)))]) [0, 1, 2, 3, 4, 5, 6, 7, 8, 9, 10] rfl
    have hD9 := hD.sub (ws' := [(h0, .inr (0, oT uT p9 a9 e9 n9 o9)), (a9, .inl (ca, 3, .inr (.inr (.inr (.inr (mo da)))))), (da 0, .inr (2, oD (F 0) (ra 0) (ka 0))), (ra 0, .inl (cr 0, 8, .inl (g 0))), (ka 0, .inl (ck 0, 32, .inl (v 0))), (da 1, .inr (2, oD (F 1) (ra 1) (ka 1))), (ra 1, .inl (cr 1, 8, .inl (g 1))), (ka 1, .inl (ck 1, 32, .inl (v 1))), (da 2, .inr (2, oD (F 2) (ra 2) (ka 2))), (ra 2, .inl (cr 2, 8, .inl (g 2))), (ka 2, .inl (ck 2, 32, .inl (v 2)))]) [0, 1, 2, 3, 4, 5, 6, 7, 8, 9, 10] (by decide) rfl
    have hK9 := hK.sub (tys' := [(ca, .object "VotedTriple$VotedModule"), (cr 0, .int), (ck 0, .int), (cr 1, .int), (ck 1, .int), (cr 2, .int), (ck 2, .int)]) [0, 1, 2, 3, 4, 5, 6] rfl
    refine W.widen (k := 0) (n := 0) (Nat.le_of_ble_eq_true rfl) (Nat.le_of_ble_eq_true rfl) ?_
    exact W.vret hx hb hr (fun t ht hW => ⟨⟨(F, g, v), rfl, ⟨⟨hF, hg⟩, (by rw [hSq0, s_T_copyOn_cut13_3]; all_goals rfl)⟩, by rw [ht]; exact hP9, va_K.moved hW.alike hK9, hD9⟩, hS.F ht⟩) hS.2.2 d_T_copyOn_64
  have cut13_2 : ∀ (F : Nat → Nat → Int32) (g : Nat → Nat → Int32) (v : Nat → Nat → Int32) (w1 : Int32) (ls : Array Slot) (H : Heap) (locs : List Loc), f3 F → g3 g → ((w1 = 0 ∧ F 0 8 = 0) ∨ (w1 = 1 ∧ F 1 8 = 0) ∨ (w1 = 2 ∧ F 2 8 = 0)) → SP = s_T_copyOn_cut13_2 F g v w1 →  lv_has ls 3 [(0, .ref h0), (1, .int w1), (2, .int 2)] → va_P (dC, dI) classes [(h0, .inr (0, oT uT p9 a9 e9 n9 o9)), (a9, .inl (ca, 3, .inr (.inr (.inr (.inr (mo da)))))), (da 0, .inr (2, oD (F 0) (ra 0) (ka 0))), (ra 0, .inl (cr 0, 8, .inl (g 0))), (ka 0, .inl (ck 0, 32, .inl (v 0))), (da 1, .inr (2, oD (F 1) (ra 1) (ka 1))), (ra 1, .inl (cr 1, 8, .inl (g 1))), (ka 1, .inl (ck 1, 32, .inl (v 1))), (da 2, .inr (2, oD (F 2) (ra 2) (ka 2))), (ra 2, .inl (cr 2, 8, .inl (g 2))), (ka 2, .inl (ck 2, 32, .inl (v 2)))] H → va_D A [(h0, .inr (0, oT uT p9 a9 e9 n9 o9)), (a9, .inl (ca, 3, .inr (.inr (.inr (.inr (mo da)))))), (da 0, .inr (2, oD (F 0) (ra 0) (ka 0))), (ra 0, .inl (cr 0, 8, .inl (g 0))), (ka 0, .inl (ck 0, 32, .inl (v 0))), (da 1, .inr (2, oD (F 1) (ra 1) (ka 1))), (ra 1, .inl (cr 1, 8, .inl (g 1))), (ka 1, .inl (ck 1, 32, .inl (v 1))), (da 2, .inr (2, oD (F 2) (ra 2) (ka 2))), (ra 2, .inl (cr 2, 8, .inl (g 2))), (ka 2, .inl (ck 2, 32, .inl (v 2)))] → va_S A s.heap H locs → W p l e (headSpec (tbw y_T_copyOn b_T_copyOn 3 none) ({ frames := 2, cells := 0, slots := 0, locals := 41 })).room s m ([.ref h0] : List Value).toArray below meth c H locs 0 0 (MQ below (va_Qv (fun (u9 : (Nat → Nat → Int32) × (Nat → Nat → Int32) × (Nat → Nat → Int32)) => match u9 with | (F2, g2, v2) => (f3 F2 ∧ g3 g2) ∧ (F2, g2, v2) = SP) (fun (u9 : (Nat → Nat → Int32) × (Nat → Nat → Int32) × (Nat → Nat → Int32)) t => match u9 with | (F2, g2, v2) => va_P (dC, dI) classes [(h0, .inr (0, oT uT p9 a9 e9 n9 o9)), (a9, .inl (ca, 3, .inr (.inr (.inr (.inr (mo da)))))), (da 0, .inr (2, oD (F2 0) (ra 0) (ka 0))), (ra 0, .inl (cr 0, 8, .inl (g2 0))), (ka 0, .inl (ck 0, 32, .inl (v2 0))), (da 1, .inr (2, oD (F2 1) (ra 1) (ka 1))), (ra 1, .inl (cr 1, 8, .inl (g2 1))), (ka 1, .inl (ck 1, 32, .inl (v2 1))), (da 2, .inr (2, oD (F2 2) (ra 2) (ka 2))), (ra 2, .inl (cr 2, 8, .inl (g2 2))), (ka 2, .inl (ck 2, 32, .inl (v2 2)))] t.heap ∧ va_K (dC, dI) classes [(ca, .object "VotedTriple$VotedModule"), (cr 0, .int), (ck 0, .int), (cr 1, .int), (ck 1, .int), (cr 2, .int), (ck 2, .int)] t ∧ va_D A [(h0, .inr (0, oT uT p9 a9 e9 n9 o9)), (a9, .inl (ca, 3, .inr (.inr (.inr (.inr (mo da)))))), (da 0, .inr (2, oD (F2 0) (ra 0) (ka 0))), (ra 0, .inl (cr 0, 8, .inl (g2 0))), (ka 0, .inl (ck 0, 32, .inl (v2 0))), (da 1, .inr (2, oD (F2 1) (ra 1) (ka 1))), (ra 1, .inl (cr 1, 8, .inl (g2 1))), (ka 1, .inl (ck 1, 32, .inl (v2 1))), (da 2, .inr (2, oD (F2 2) (ra 2) (ka 2))), (ra 2, .inl (cr 2, 8, .inl (g2 2))), (ka 2, .inl (ck 2, 32, .inl (v2 2)))]) A) ([.ref h0] : List Value).toArray s 0 0 A) (F0 m 13 ls []) := by
    intro F g v w1 ls H locs hF hg h19 hSq0 hl hP hD hS
    refine lv_iload_n hx hb d_T_copyOn_13 rfl (lv_at hl 2 rfl) ?_
    refine lv_iconst (v := 3) hx hb d_T_copyOn_14 (by decide) ?_
    refine lv_icmp_ge (tgt := 64) hx hb d_T_copyOn_15 rfl (fun hc2 => by first | exact absurd hc2 (by decide) | exact absurd (by decide) hc2) (fun hc2 => ?_)
    rcases h19 with ⟨rfl, hlo3⟩ | ⟨rfl, hlo3⟩ | ⟨rfl, hlo3⟩
    · --  0
      refine lv_aload_n hx hb d_T_copyOn_18 rfl (lv_at hl 0 rfl) ?_
      refine va_get (D := (dC, dI)) (ci := 0) (v := .ref a9) (C := "VotedTriple") (T := F_T) (N := 11) hx hb hw in_T hown hK hP 0 rfl rfl 1 (by decide) (hw _ k_195) (fun _ h9 => h9) rfl d_T_copyOn_19 ?_
      refine lv_iload_n hx hb d_T_copyOn_22 rfl (lv_at hl 2 rfl) ?_
      refine va_aldq hx hb hK hP 1 0 rfl rfl (by unfold vp_in; decide) d_T_copyOn_23 ?_
      refine W.eq (g2 := F0 m 24 ls [.ref (da 2)]) rfl ?_
      refine va_get (D := (dC, dI)) (ci := 2) (v := .int (F 2 8)) (C := "VotedTriple$VotedModule") (T := F_D) (N := 19) hx hb hw in_D hown hK hP 8 rfl rfl 8 (by decide) (hw _ k_143) (fun _ h9 => h9) rfl d_T_copyOn_24 ?_
      refine lv_iconst (v := 1) hx hb d_T_copyOn_27 (by decide) ?_
      refine lv_icmp_ne (tgt := 58) hx hb d_T_copyOn_28 rfl (fun hc4 => ?_) (fun hc4 => ?_)
      · --  ¬ (F 2 8) = 1
        refine lv_iinc (k := 2) (v := 3) hx hb d_T_copyOn_58 hl rfl rfl (by decide) rfl (fun ls hl => ?_)
        replace hl : lv_has ls 3 [(2, .int 3), (0, .ref h0), (1, .int 0)] := hl
        refine lv_goto (tgt := 13) hx hb d_T_copyOn_61 rfl ?_
        have hSq : SP = s_T_copyOn_cut13_3 F g v 0 := by rw [hSq0, s_T_copyOn_cut13_2]; try (rw [if_pos rfl]); try (rw [if_neg hc4]); all_goals rfl
        replace hl := lv_sub hl (l' := [(0, .ref h0), (1, .int 0), (2, .int 3)]) [1, 2, 0] rfl
        replace hP := hP.sub (ws' := [(h0, .inr (0, oT uT p9 a9 e9 n9 o9)), (a9, .inl (ca, 3, .inr (.inr (.inr (.inr (mo da)))))), (da 0, .inr (2, oD (F 0) (ra 0) (ka 0))), (ra 0, .inl (cr 0, 8, .inl (g 0))), (ka 0, .inl (ck 0, 32, .inl (v 0))), (da 1, .inr (2, oD (F 1) (ra 1) (ka 1))), (ra 1, .inl (cr 1, 8, .inl (g 1))), (ka 1, .inl (ck 1, 32, .inl (v 1))), (da 2, .inr (2, oD (F 2) (ra 2) (ka 2))), (ra 2, .inl (cr 2, 8, .inl (g 2))), (ka 2, .inl (ck 2, 32, .inl (v 2)))]) [0, 1, 2, 3, 4, 5, 6, 7, 8, 9, 10] rfl
        replace hD := hD.sub (ws' := [(h0, .inr (0, oT uT p9 a9 e9 n9 o9)), (a9, .inl (ca, 3, .inr (.inr (.inr (.inr (mo da)))))), (da 0, .inr (2, oD (F 0) (ra 0) (ka 0))), (ra 0, .inl (cr 0, 8, .inl (g 0))), (ka 0, .inl (ck 0, 32, .inl (v 0))), (da 1, .inr (2, oD (F 1) (ra 1) (ka 1))), (ra 1, .inl (cr 1, 8, .inl (g 1))), (ka 1, .inl (ck 1, 32, .inl (v 1))), (da 2, .inr (2, oD (F 2) (ra 2) (ka 2))), (ra 2, .inl (cr 2, 8, .inl (g 2))), (ka 2, .inl (ck 2, 32, .inl (v 2)))]) [0, 1, 2, 3, 4, 5, 6, 7, 8, 9, 10] (by decide) rfl
        exact cut13_3 F g v 0 _ _ _ hF hg (Or.inl ⟨rfl, hlo3⟩) hSq hl hP hD hS
      · --  (F 2 8) = 1
        refine lv_aload_n hx hb d_T_copyOn_31 rfl (lv_at hl 0 rfl) ?_
        refine va_get (D := (dC, dI)) (ci := 0) (v := .ref a9) (C := "VotedTriple") (T := F_T) (N := 11) hx hb hw in_T hown hK hP 0 rfl rfl 1 (by decide) (hw _ k_195) (fun _ h9 => h9) rfl d_T_copyOn_32 ?_
        refine lv_iload_n hx hb d_T_copyOn_35 rfl (lv_at hl 2 rfl) ?_
        refine va_aldq hx hb hK hP 1 0 rfl rfl (by unfold vp_in; decide) d_T_copyOn_36 ?_
        refine W.eq (g2 := F0 m 37 ls [.ref (da 2)]) rfl ?_
        refine va_get (D := (dC, dI)) (ci := 2) (v := .int (F 2 15)) (C := "VotedTriple$VotedModule") (T := F_D) (N := 19) hx hb hw in_D hown hK hP 8 rfl rfl 15 (by decide) (hw _ k_157) (fun _ h9 => h9) rfl d_T_copyOn_37 ?_
        refine lv_if_ne (tgt := 58) hx hb d_T_copyOn_40 rfl (fun hc5 => ?_) (fun hc5 => ?_)
        · --  ¬ (F 2 15) = 0
          refine lv_iinc (k := 2) (v := 3) hx hb d_T_copyOn_58 hl rfl rfl (by decide) rfl (fun ls hl => ?_)
          replace hl : lv_has ls 3 [(2, .int 3), (0, .ref h0), (1, .int 0)] := hl
          refine lv_goto (tgt := 13) hx hb d_T_copyOn_61 rfl ?_
          have hSq : SP = s_T_copyOn_cut13_3 F g v 0 := by rw [hSq0, s_T_copyOn_cut13_2]; try (rw [if_pos rfl]); try (rw [if_pos hc4]); try (rw [if_neg hc5]); all_goals rfl
          replace hl := lv_sub hl (l' := [(0, .ref h0), (1, .int 0), (2, .int 3)]) [1, 2, 0] rfl
          replace hP := hP.sub (ws' := [(h0, .inr (0, oT uT p9 a9 e9 n9 o9)), (a9, .inl (ca, 3, .inr (.inr (.inr (.inr (mo da)))))), (da 0, .inr (2, oD (F 0) (ra 0) (ka 0))), (ra 0, .inl (cr 0, 8, .inl (g 0))), (ka 0, .inl (ck 0, 32, .inl (v 0))), (da 1, .inr (2, oD (F 1) (ra 1) (ka 1))), (ra 1, .inl (cr 1, 8, .inl (g 1))), (ka 1, .inl (ck 1, 32, .inl (v 1))), (da 2, .inr (2, oD (F 2) (ra 2) (ka 2))), (ra 2, .inl (cr 2, 8, .inl (g 2))), (ka 2, .inl (ck 2, 32, .inl (v 2)))]) [0, 1, 2, 3, 4, 5, 6, 7, 8, 9, 10] rfl
          replace hD := hD.sub (ws' := [(h0, .inr (0, oT uT p9 a9 e9 n9 o9)), (a9, .inl (ca, 3, .inr (.inr (.inr (.inr (mo da)))))), (da 0, .inr (2, oD (F 0) (ra 0) (ka 0))), (ra 0, .inl (cr 0, 8, .inl (g 0))), (ka 0, .inl (ck 0, 32, .inl (v 0))), (da 1, .inr (2, oD (F 1) (ra 1) (ka 1))), (ra 1, .inl (cr 1, 8, .inl (g 1))), (ka 1, .inl (ck 1, 32, .inl (v 1))), (da 2, .inr (2, oD (F 2) (ra 2) (ka 2))), (ra 2, .inl (cr 2, 8, .inl (g 2))), (ka 2, .inl (ck 2, 32, .inl (v 2)))]) [0, 1, 2, 3, 4, 5, 6, 7, 8, 9, 10] (by decide) rfl
          exact cut13_3 F g v 0 _ _ _ hF hg (Or.inl ⟨rfl, hlo3⟩) hSq hl hP hD hS
        · --  (F 2 15) = 0
          refine lv_aload_n hx hb d_T_copyOn_43 rfl (lv_at hl 0 rfl) ?_
          refine va_get (D := (dC, dI)) (ci := 0) (v := .ref a9) (C := "VotedTriple") (T := F_T) (N := 11) hx hb hw in_T hown hK hP 0 rfl rfl 1 (by decide) (hw _ k_195) (fun _ h9 => h9) rfl d_T_copyOn_44 ?_
          refine lv_iload_n hx hb d_T_copyOn_47 rfl (lv_at hl 2 rfl) ?_
          refine va_aldq hx hb hK hP 1 0 rfl rfl (by unfold vp_in; decide) d_T_copyOn_48 ?_
          refine W.eq (g2 := F0 m 49 ls [.ref (da 2)]) rfl ?_
          refine lv_aload_n hx hb d_T_copyOn_49 rfl (lv_at hl 0 rfl) ?_
          refine va_get (D := (dC, dI)) (ci := 0) (v := .ref a9) (C := "VotedTriple") (T := F_T) (N := 11) hx hb hw in_T hown hK hP 0 rfl rfl 1 (by decide) (hw _ k_195) (fun _ h9 => h9) rfl d_T_copyOn_50 ?_
          refine lv_iload_n hx hb d_T_copyOn_53 rfl (lv_at hl 1 rfl) ?_
          refine va_aldq hx hb hK hP 1 0 rfl rfl (by unfold vp_in; decide) d_T_copyOn_54 ?_
          refine W.eq (g2 := F0 m 55 ls [.ref (da 0), .ref (da 2)]) rfl ?_
          replace hPc := hP.sub (ws' := [(da 2, .inr (2, oD (F 2) (ra 2) (ka 2))), (ra 2, .inl (cr 2, 8, .inl (g 2))), (ka 2, .inl (ck 2, 32, .inl (v 2))), (da 0, .inr (2, oD (F 0) (ra 0) (ka 0))), (ra 0, .inl (cr 0, 8, .inl (g 0))), (ka 0, .inl (ck 0, 32, .inl (v 0)))]) [8, 9, 10, 2, 3, 4] rfl
          replace hKc := hK.sub (tys' := [(cr 2, .int), (ck 2, .int), (cr 0, .int), (ck 0, .int)]) [5, 6, 1, 2] rfl
          replace hDc := hD.sub (ws' := [(da 2, .inr (2, oD (F 2) (ra 2) (ka 2))), (ra 2, .inl (cr 2, 8, .inl (g 2))), (ka 2, .inl (ck 2, 32, .inl (v 2))), (da 0, .inr (2, oD (F 0) (ra 0) (ka 0))), (ra 0, .inl (cr 0, 8, .inl (g 0))), (ka 0, .inl (ck 0, 32, .inl (v 0)))]) [8, 9, 10, 2, 3, 4] (by decide) rfl
          replace hFc := va_free (wc := [(da 2, .inr (2, oD (F 2) (ra 2) (ka 2))), (ra 2, .inl (cr 2, 8, .inl (g 2))), (ka 2, .inl (ck 2, 32, .inl (v 2))), (da 0, .inr (2, oD (F 0) (ra 0) (ka 0))), (ra 0, .inl (cr 0, 8, .inl (g 0))), (ka 0, .inl (ck 0, 32, .inl (v 0)))]) hD hS hA [8, 9, 10, 2, 3, 4] rfl
          refine va_callv (va_runV (C := "VotedTriple$VotedModule") (As := [.ref (da 0)]) (rest := []) ⟨hx, hb, hml, hown, hw⟩ (c_D_copyNextFrom l dC dI (da 2) (ra 2) (ka 2) (F 2) (cr 2) (g 2) (ck 2) (v 2) (da 0) (ra 0) (ka 0) (F 0) (cr 0) (g 0) (ck 0) (v 0) hF.2.2 hg.2.2 hF.1 hg.1 H.size) (cwV 1 hw (gdV (k_659) (k_656) (k_657) (k_658) (k_7)) rfl rfl rfl (by decide +kernel) ⟨Nat.le_of_ble_eq_true rfl, Nat.le_of_ble_eq_true rfl⟩) ⟨fun a U g mk q => by obtain ⟨q0, q1, qP, qK, qD⟩ := q; exact ⟨q0, q1, qP, va_K.moved (u := U) (U := U.calling g mk a) (Vm.Alike.refl U.vm) qK, qD⟩, va_recv hK hP rfl (q0 := 8) rfl, fun U hU hW => ⟨rfl, by rw [hU], by rw [hU]; exact hPc, va_K.moved hW.alike hKc, hDc.weaken (fun _ _ _ _ => trivial)⟩⟩ rfl rfl hl.1 rfl (lv_room (Nat.le_of_ble_eq_true rfl)) d_T_copyOn_55 ⟨Nat.le_of_ble_eq_true rfl, Nat.le_of_ble_eq_true rfl⟩) hS (fun q _ h => hFc q h) hFc (fun u9 t H1 locs ht hvm hr7 hB hz1 hk1 hS => ?_)
          obtain ⟨F58, g59, c510⟩ := u9
          obtain ⟨hP1, hK1, hD1⟩ := hB
          rw [ht] at hP1
          replace hK1 := va_K.moved hvm.symm hK1
          try dsimp only at hr7 hP1 hK1 hD1
          obtain ⟨hr7, hr7E⟩ := hr7
          obtain ⟨hPz, hDz⟩ := va_join (wr := [(h0, .inr (0, oT uT p9 a9 e9 n9 o9)), (a9, .inl (ca, 3, .inr (.inr (.inr (.inr (mo da)))))), (da 1, .inr (2, oD (F 1) (ra 1) (ka 1))), (ra 1, .inl (cr 1, 8, .inl (g 1))), (ka 1, .inl (ck 1, 32, .inl (v 1)))]) (w1 := [(da 2, .inr (2, oD F58 (ra 2) (ka 2))), (ra 2, .inl (cr 2, 8, .inl g59)), (ka 2, .inl (ck 2, 32, .inl c510)), (da 0, .inr (2, oD (F 0) (ra 0) (ka 0))), (ra 0, .inl (cr 0, 8, .inl (g 0))), (ka 0, .inl (ck 0, 32, .inl (v 0)))]) hP hD [8, 9, 10, 2, 3, 4] [0, 1, 5, 6, 7] rfl rfl (by decide) (by decide) hk1 hFc hP1 hD1
          clear hP hD hPc hDc hP1 hD1 hFc
          have hP := hPz
          have hD := hDz
          clear hPz hDz
          replace hK := (hK.sub (tys' := [(ca, .object "VotedTriple$VotedModule"), (cr 1, .int), (ck 1, .int)]) [0, 3, 4] rfl).app hK1
          clear hK1 hKc
          generalize H1 = H at hP hS ⊢
          replace hP : va_P (dC, dI) classes [(h0, .inr (0, oT uT p9 a9 e9 n9 o9)), (a9, .inl (ca, 3, .inr (.inr (.inr (.inr (mo da)))))), (da 1, .inr (2, oD (F 1) (ra 1) (ka 1))), (ra 1, .inl (cr 1, 8, .inl (g 1))), (ka 1, .inl (ck 1, 32, .inl (v 1))), (da 2, .inr (2, oD F58 (ra 2) (ka 2))), (ra 2, .inl (cr 2, 8, .inl g59)), (ka 2, .inl (ck 2, 32, .inl c510)), (da 0, .inr (2, oD (F 0) (ra 0) (ka 0))), (ra 0, .inl (cr 0, 8, .inl (g 0))), (ka 0, .inl (ck 0, 32, .inl (v 0)))] H := hP
          replace hD : va_D A [(h0, .inr (0, oT uT p9 a9 e9 n9 o9)), (a9, .inl (ca, 3, .inr (.inr (.inr (.inr (mo da)))))), (da 1, .inr (2, oD (F 1) (ra 1) (ka 1))), (ra 1, .inl (cr 1, 8, .inl (g 1))), (ka 1, .inl (ck 1, 32, .inl (v 1))), (da 2, .inr (2, oD F58 (ra 2) (ka 2))), (ra 2, .inl (cr 2, 8, .inl g59)), (ka 2, .inl (ck 2, 32, .inl c510)), (da 0, .inr (2, oD (F 0) (ra 0) (ka 0))), (ra 0, .inl (cr 0, 8, .inl (g 0))), (ka 0, .inl (ck 0, 32, .inl (v 0)))] := hD
          replace hK : va_K (dC, dI) classes [(ca, .object "VotedTriple$VotedModule"), (cr 1, .int), (ck 1, .int), (cr 2, .int), (ck 2, .int), (cr 0, .int), (ck 0, .int)] s := hK
          refine W.widen (k := 0) (n := 0) (Nat.le_of_ble_eq_true rfl) (Nat.le_of_ble_eq_true rfl) ?_
          refine lv_iinc (k := 2) (v := 3) hx hb d_T_copyOn_58 hl rfl rfl (by decide) rfl (fun ls hl => ?_)
          replace hl : lv_has ls 3 [(2, .int 3), (0, .ref h0), (1, .int 0)] := hl
          refine lv_goto (tgt := 13) hx hb d_T_copyOn_61 rfl ?_
          have hSq : SP = s_T_copyOn_cut13_3 (tri (F 0) (F 1) F58) (tri (g 0) (g 1) g59) (tri (v 0) (v 1) c510) 0 := by rw [hSq0, s_T_copyOn_cut13_2]; try (rw [if_pos rfl]); try (rw [if_pos hc4]); try (rw [if_pos hc5]); try (rw [← hr7E, bnd_eq]); try dsimp only; all_goals rfl
          replace hl := lv_sub hl (l' := [(0, .ref h0), (1, .int 0), (2, .int 3)]) [1, 2, 0] rfl
          replace hP := hP.sub (ws' := [(h0, .inr (0, oT uT p9 a9 e9 n9 o9)), (a9, .inl (ca, 3, .inr (.inr (.inr (.inr (mo da)))))), (da 0, .inr (2, oD (tri (F 0) (F 1) F58 0) (ra 0) (ka 0))), (ra 0, .inl (cr 0, 8, .inl (tri (g 0) (g 1) g59 0))), (ka 0, .inl (ck 0, 32, .inl (tri (v 0) (v 1) c510 0))), (da 1, .inr (2, oD (tri (F 0) (F 1) F58 1) (ra 1) (ka 1))), (ra 1, .inl (cr 1, 8, .inl (tri (g 0) (g 1) g59 1))), (ka 1, .inl (ck 1, 32, .inl (tri (v 0) (v 1) c510 1))), (da 2, .inr (2, oD (tri (F 0) (F 1) F58 2) (ra 2) (ka 2))), (ra 2, .inl (cr 2, 8, .inl (tri (g 0) (g 1) g59 2))), (ka 2, .inl (ck 2, 32, .inl (tri (v 0) (v 1) c510 2)))]) [0, 1, 8, 9, 10, 2, 3, 4, 5, 6, 7] rfl
          replace hD := hD.sub (ws' := [(h0, .inr (0, oT uT p9 a9 e9 n9 o9)), (a9, .inl (ca, 3, .inr (.inr (.inr (.inr (mo da)))))), (da 0, .inr (2, oD (tri (F 0) (F 1) F58 0) (ra 0) (ka 0))), (ra 0, .inl (cr 0, 8, .inl (tri (g 0) (g 1) g59 0))), (ka 0, .inl (ck 0, 32, .inl (tri (v 0) (v 1) c510 0))), (da 1, .inr (2, oD (tri (F 0) (F 1) F58 1) (ra 1) (ka 1))), (ra 1, .inl (cr 1, 8, .inl (tri (g 0) (g 1) g59 1))), (ka 1, .inl (ck 1, 32, .inl (tri (v 0) (v 1) c510 1))), (da 2, .inr (2, oD (tri (F 0) (F 1) F58 2) (ra 2) (ka 2))), (ra 2, .inl (cr 2, 8, .inl (tri (g 0) (g 1) g59 2))), (ka 2, .inl (ck 2, 32, .inl (tri (v 0) (v 1) c510 2)))]) [0, 1, 8, 9, 10, 2, 3, 4, 5, 6, 7] (by decide) rfl
          exact cut13_3 (tri (F 0) (F 1) F58) (tri (g 0) (g 1) g59) (tri (v 0) (v 1) c510) 0 _ _ _ (⟨hF.1, hF.2.1, hr7.1⟩) (⟨hg.1, hg.2.1, hr7.2⟩) (Or.inl ⟨rfl, hlo3⟩) hSq hl hP hD hS
    · --  1
      refine lv_aload_n hx hb d_T_copyOn_18 rfl (lv_at hl 0 rfl) ?_
      refine va_get (D := (dC, dI)) (ci := 0) (v := .ref a9) (C := "VotedTriple") (T := F_T) (N := 11) hx hb hw in_T hown hK hP 0 rfl rfl 1 (by decide) (hw _ k_195) (fun _ h9 => h9) rfl d_T_copyOn_19 ?_
      refine lv_iload_n hx hb d_T_copyOn_22 rfl (lv_at hl 2 rfl) ?_
      refine va_aldq hx hb hK hP 1 0 rfl rfl (by unfold vp_in; decide) d_T_copyOn_23 ?_
      refine W.eq (g2 := F0 m 24 ls [.ref (da 2)]) rfl ?_
      refine va_get (D := (dC, dI)) (ci := 2) (v := .int (F 2 8)) (C := "VotedTriple$VotedModule") (T := F_D) (N := 19) hx hb hw in_D hown hK hP 8 rfl rfl 8 (by decide) (hw _ k_143) (fun _ h9 => h9) rfl d_T_copyOn_24 ?_
      refine lv_iconst (v := 1) hx hb d_T_copyOn_27 (by decide) ?_
      refine lv_icmp_ne (tgt := 58) hx hb d_T_copyOn_28 rfl (fun hc11 => ?_) (fun hc11 => ?_)
      · --  ¬ (F 2 8) = 1
        refine lv_iinc (k := 2) (v := 3) hx hb d_T_copyOn_58 hl rfl rfl (by decide) rfl (fun ls hl => ?_)
        replace hl : lv_has ls 3 [(2, .int 3), (0, .ref h0), (1, .int 1)] := hl
        refine lv_goto (tgt := 13) hx hb d_T_copyOn_61 rfl ?_
        have hSq : SP = s_T_copyOn_cut13_3 F g v 1 := by rw [hSq0, s_T_copyOn_cut13_2]; try (rw [if_neg (by decide)]); try (rw [if_pos rfl]); try (rw [if_neg hc11]); all_goals rfl
        replace hl := lv_sub hl (l' := [(0, .ref h0), (1, .int 1), (2, .int 3)]) [1, 2, 0] rfl
        replace hP := hP.sub (ws' := [(h0, .inr (0, oT uT p9 a9 e9 n9 o9)), (a9, .inl (ca, 3, .inr (.inr (.inr (.inr (mo da)))))), (da 0, .inr (2, oD (F 0) (ra 0) (ka 0))), (ra 0, .inl (cr 0, 8, .inl (g 0))), (ka 0, .inl (ck 0, 32, .inl (v 0))), (da 1, .inr (2, oD (F 1) (ra 1) (ka 1))), (ra 1, .inl (cr 1, 8, .inl (g 1))), (ka 1, .inl (ck 1, 32, .inl (v 1))), (da 2, .inr (2, oD (F 2) (ra 2) (ka 2))), (ra 2, .inl (cr 2, 8, .inl (g 2))), (ka 2, .inl (ck 2, 32, .inl (v 2)))]) [0, 1, 2, 3, 4, 5, 6, 7, 8, 9, 10] rfl
        replace hD := hD.sub (ws' := [(h0, .inr (0, oT uT p9 a9 e9 n9 o9)), (a9, .inl (ca, 3, .inr (.inr (.inr (.inr (mo da)))))), (da 0, .inr (2, oD (F 0) (ra 0) (ka 0))), (ra 0, .inl (cr 0, 8, .inl (g 0))), (ka 0, .inl (ck 0, 32, .inl (v 0))), (da 1, .inr (2, oD (F 1) (ra 1) (ka 1))), (ra 1, .inl (cr 1, 8, .inl (g 1))), (ka 1, .inl (ck 1, 32, .inl (v 1))), (da 2, .inr (2, oD (F 2) (ra 2) (ka 2))), (ra 2, .inl (cr 2, 8, .inl (g 2))), (ka 2, .inl (ck 2, 32, .inl (v 2)))]) [0, 1, 2, 3, 4, 5, 6, 7, 8, 9, 10] (by decide) rfl
        exact cut13_3 F g v 1 _ _ _ hF hg (Or.inr (Or.inl ⟨rfl, hlo3⟩)) hSq hl hP hD hS
      · --  (F 2 8) = 1
        refine lv_aload_n hx hb d_T_copyOn_31 rfl (lv_at hl 0 rfl) ?_
        refine va_get (D := (dC, dI)) (ci := 0) (v := .ref a9) (C := "VotedTriple") (T := F_T) (N := 11) hx hb hw in_T hown hK hP 0 rfl rfl 1 (by decide) (hw _ k_195) (fun _ h9 => h9) rfl d_T_copyOn_32 ?_
        refine lv_iload_n hx hb d_T_copyOn_35 rfl (lv_at hl 2 rfl) ?_
        refine va_aldq hx hb hK hP 1 0 rfl rfl (by unfold vp_in; decide) d_T_copyOn_36 ?_
        refine W.eq (g2 := F0 m 37 ls [.ref (da 2)]) rfl ?_
        refine va_get (D := (dC, dI)) (ci := 2) (v := .int (F 2 15)) (C := "VotedTriple$VotedModule") (T := F_D) (N := 19) hx hb hw in_D hown hK hP 8 rfl rfl 15 (by decide) (hw _ k_157) (fun _ h9 => h9) rfl d_T_copyOn_37 ?_
        refine lv_if_ne (tgt := 58) hx hb d_T_copyOn_40 rfl (fun hc12 => ?_) (fun hc12 => ?_)
        · --  ¬ (F 2 15) = 0
          refine lv_iinc (k := 2) (v := 3) hx hb d_T_copyOn_58 hl rfl rfl (by decide) rfl (fun ls hl => ?_)
          replace hl : lv_has ls 3 [(2, .int 3), (0, .ref h0), (1, .int 1)] := hl
          refine lv_goto (tgt := 13) hx hb d_T_copyOn_61 rfl ?_
          have hSq : SP = s_T_copyOn_cut13_3 F g v 1 := by rw [hSq0, s_T_copyOn_cut13_2]; try (rw [if_neg (by decide)]); try (rw [if_pos rfl]); try (rw [if_pos hc11]); try (rw [if_neg hc12]); all_goals rfl
          replace hl := lv_sub hl (l' := [(0, .ref h0), (1, .int 1), (2, .int 3)]) [1, 2, 0] rfl
          replace hP := hP.sub (ws' := [(h0, .inr (0, oT uT p9 a9 e9 n9 o9)), (a9, .inl (ca, 3, .inr (.inr (.inr (.inr (mo da)))))), (da 0, .inr (2, oD (F 0) (ra 0) (ka 0))), (ra 0, .inl (cr 0, 8, .inl (g 0))), (ka 0, .inl (ck 0, 32, .inl (v 0))), (da 1, .inr (2, oD (F 1) (ra 1) (ka 1))), (ra 1, .inl (cr 1, 8, .inl (g 1))), (ka 1, .inl (ck 1, 32, .inl (v 1))), (da 2, .inr (2, oD (F 2) (ra 2) (ka 2))), (ra 2, .inl (cr 2, 8, .inl (g 2))), (ka 2, .inl (ck 2, 32, .inl (v 2)))]) [0, 1, 2, 3, 4, 5, 6, 7, 8, 9, 10] rfl
          replace hD := hD.sub (ws' := [(h0, .inr (0, oT uT p9 a9 e9 n9 o9)), (a9, .inl (ca, 3, .inr (.inr (.inr (.inr (mo da)))))), (da 0, .inr (2, oD (F 0) (ra 0) (ka 0))), (ra 0, .inl (cr 0, 8, .inl (g 0))), (ka 0, .inl (ck 0, 32, .inl (v 0))), (da 1, .inr (2, oD (F 1) (ra 1) (ka 1))), (ra 1, .inl (cr 1, 8, .inl (g 1))), (ka 1, .inl (ck 1, 32, .inl (v 1))), (da 2, .inr (2, oD (F 2) (ra 2) (ka 2))), (ra 2, .inl (cr 2, 8, .inl (g 2))), (ka 2, .inl (ck 2, 32, .inl (v 2)))]) [0, 1, 2, 3, 4, 5, 6, 7, 8, 9, 10] (by decide) rfl
          exact cut13_3 F g v 1 _ _ _ hF hg (Or.inr (Or.inl ⟨rfl, hlo3⟩)) hSq hl hP hD hS
        · --  (F 2 15) = 0
          refine lv_aload_n hx hb d_T_copyOn_43 rfl (lv_at hl 0 rfl) ?_
          refine va_get (D := (dC, dI)) (ci := 0) (v := .ref a9) (C := "VotedTriple") (T := F_T) (N := 11) hx hb hw in_T hown hK hP 0 rfl rfl 1 (by decide) (hw _ k_195) (fun _ h9 => h9) rfl d_T_copyOn_44 ?_
          refine lv_iload_n hx hb d_T_copyOn_47 rfl (lv_at hl 2 rfl) ?_
          refine va_aldq hx hb hK hP 1 0 rfl rfl (by unfold vp_in; decide) d_T_copyOn_48 ?_
          refine W.eq (g2 := F0 m 49 ls [.ref (da 2)]) rfl ?_
          refine lv_aload_n hx hb d_T_copyOn_49 rfl (lv_at hl 0 rfl) ?_
          refine va_get (D := (dC, dI)) (ci := 0) (v := .ref a9) (C := "VotedTriple") (T := F_T) (N := 11) hx hb hw in_T hown hK hP 0 rfl rfl 1 (by decide) (hw _ k_195) (fun _ h9 => h9) rfl d_T_copyOn_50 ?_
          refine lv_iload_n hx hb d_T_copyOn_53 rfl (lv_at hl 1 rfl) ?_
          refine va_aldq hx hb hK hP 1 0 rfl rfl (by unfold vp_in; decide) d_T_copyOn_54 ?_
          refine W.eq (g2 := F0 m 55 ls [.ref (da 1), .ref (da 2)]) rfl ?_
          replace hPc := hP.sub (ws' := [(da 2, .inr (2, oD (F 2) (ra 2) (ka 2))), (ra 2, .inl (cr 2, 8, .inl (g 2))), (ka 2, .inl (ck 2, 32, .inl (v 2))), (da 1, .inr (2, oD (F 1) (ra 1) (ka 1))), (ra 1, .inl (cr 1, 8, .inl (g 1))), (ka 1, .inl (ck 1, 32, .inl (v 1)))]) [8, 9, 10, 5, 6, 7] rfl
          replace hKc := hK.sub (tys' := [(cr 2, .int), (ck 2, .int), (cr 1, .int), (ck 1, .int)]) [5, 6, 3, 4] rfl
          replace hDc := hD.sub (ws' := [(da 2, .inr (2, oD (F 2) (ra 2) (ka 2))), (ra 2, .inl (cr 2, 8, .inl (g 2))), (ka 2, .inl (ck 2, 32, .inl (v 2))), (da 1, .inr (2, oD (F 1) (ra 1) (ka 1))), (ra 1, .inl (cr 1, 8, .inl (g 1))), (ka 1, .inl (ck 1, 32, .inl (v 1)))]) [8, 9, 10, 5, 6, 7] (by decide) rfl
          replace hFc := va_free (wc := [(da 2, .inr (2, oD (F 2) (ra 2) (ka 2))), (ra 2, .inl (cr 2, 8, .inl (g 2))), (ka 2, .inl (ck 2, 32, .inl (v 2))), (da 1, .inr (2, oD (F 1) (ra 1) (ka 1))), (ra 1, .inl (cr 1, 8, .inl (g 1))), (ka 1, .inl (ck 1, 32, .inl (v 1)))]) hD hS hA [8, 9, 10, 5, 6, 7] rfl
          refine va_callv (va_runV (C := "VotedTriple$VotedModule") (As := [.ref (da 1)]) (rest := []) ⟨hx, hb, hml, hown, hw⟩ (c_D_copyNextFrom l dC dI (da 2) (ra 2) (ka 2) (F 2) (cr 2) (g 2) (ck 2) (v 2) (da 1) (ra 1) (ka 1) (F 1) (cr 1) (g 1) (ck 1) (v 1) hF.2.2 hg.2.2 hF.2.1 hg.2.1 H.size) (cwV 1 hw (gdV (k_659) (k_656) (k_657) (k_658) (k_7)) rfl rfl rfl (by decide +kernel) ⟨Nat.le_of_ble_eq_true rfl, Nat.le_of_ble_eq_true rfl⟩) ⟨fun a U g mk q => by obtain ⟨q0, q1, qP, qK, qD⟩ := q; exact ⟨q0, q1, qP, va_K.moved (u := U) (U := U.calling g mk a) (Vm.Alike.refl U.vm) qK, qD⟩, va_recv hK hP rfl (q0 := 8) rfl, fun U hU hW => ⟨rfl, by rw [hU], by rw [hU]; exact hPc, va_K.moved hW.alike hKc, hDc.weaken (fun _ _ _ _ => trivial)⟩⟩ rfl rfl hl.1 rfl (lv_room (Nat.le_of_ble_eq_true rfl)) d_T_copyOn_55 ⟨Nat.le_of_ble_eq_true rfl, Nat.le_of_ble_eq_true rfl⟩) hS (fun q _ h => hFc q h) hFc (fun u9 t H1 locs ht hvm hr14 hB hz1 hk1 hS => ?_)
          obtain ⟨F515, g516, c517⟩ := u9
          obtain ⟨hP1, hK1, hD1⟩ := hB
          rw [ht] at hP1
          replace hK1 := va_K.moved hvm.symm hK1
          try dsimp only at hr14 hP1 hK1 hD1
          obtain ⟨hr14, hr14E⟩ := hr14
          obtain ⟨hPz, hDz⟩ := va_join (wr := [(h0, .inr (0, oT uT p9 a9 e9 n9 o9)), (a9, .inl (ca, 3, .inr (.inr (.inr (.inr (mo da)))))), (da 0, .inr (2, oD (F 0) (ra 0) (ka 0))), (ra 0, .inl (cr 0, 8, .inl (g 0))), (ka 0, .inl (ck 0, 32, .inl (v 0)))]) (w1 := [(da 2, .inr (2, oD F515 (ra 2) (ka 2))), (ra 2, .inl (cr 2, 8, .inl g516)), (ka 2, .inl (ck 2, 32, .inl c517)), (da 1, .inr (2, oD (F 1) (ra 1) (ka 1))), (ra 1, .inl (cr 1, 8, .inl (g 1))), (ka 1, .inl (ck 1, 32, .inl (v 1)))]) hP hD [8, 9, 10, 5, 6, 7] [0, 1, 2, 3, 4] rfl rfl (by decide) (by decide) hk1 hFc hP1 hD1
          clear hP hD hPc hDc hP1 hD1 hFc
          have hP := hPz
          have hD := hDz
          clear hPz hDz
          replace hK := (hK.sub (tys' := [(ca, .object "VotedTriple$VotedModule"), (cr 0, .int), (ck 0, .int)]) [0, 1, 2] rfl).app hK1
          clear hK1 hKc
          generalize H1 = H at hP hS ⊢
          replace hP : va_P (dC, dI) classes [(h0, .inr (0, oT uT p9 a9 e9 n9 o9)), (a9, .inl (ca, 3, .inr (.inr (.inr (.inr (mo da)))))), (da 0, .inr (2, oD (F 0) (ra 0) (ka 0))), (ra 0, .inl (cr 0, 8, .inl (g 0))), (ka 0, .inl (ck 0, 32, .inl (v 0))), (da 2, .inr (2, oD F515 (ra 2) (ka 2))), (ra 2, .inl (cr 2, 8, .inl g516)), (ka 2, .inl (ck 2, 32, .inl c517)), (da 1, .inr (2, oD (F 1) (ra 1) (ka 1))), (ra 1, .inl (cr 1, 8, .inl (g 1))), (ka 1, .inl (ck 1, 32, .inl (v 1)))] H := hP
          replace hD : va_D A [(h0, .inr (0, oT uT p9 a9 e9 n9 o9)), (a9, .inl (ca, 3, .inr (.inr (.inr (.inr (mo da)))))), (da 0, .inr (2, oD (F 0) (ra 0) (ka 0))), (ra 0, .inl (cr 0, 8, .inl (g 0))), (ka 0, .inl (ck 0, 32, .inl (v 0))), (da 2, .inr (2, oD F515 (ra 2) (ka 2))), (ra 2, .inl (cr 2, 8, .inl g516)), (ka 2, .inl (ck 2, 32, .inl c517)), (da 1, .inr (2, oD (F 1) (ra 1) (ka 1))), (ra 1, .inl (cr 1, 8, .inl (g 1))), (ka 1, .inl (ck 1, 32, .inl (v 1)))] := hD
          replace hK : va_K (dC, dI) classes [(ca, .object "VotedTriple$VotedModule"), (cr 0, .int), (ck 0, .int), (cr 2, .int), (ck 2, .int), (cr 1, .int), (ck 1, .int)] s := hK
          refine W.widen (k := 0) (n := 0) (Nat.le_of_ble_eq_true rfl) (Nat.le_of_ble_eq_true rfl) ?_
          refine lv_iinc (k := 2) (v := 3) hx hb d_T_copyOn_58 hl rfl rfl (by decide) rfl (fun ls hl => ?_)
          replace hl : lv_has ls 3 [(2, .int 3), (0, .ref h0), (1, .int 1)] := hl
          refine lv_goto (tgt := 13) hx hb d_T_copyOn_61 rfl ?_
          have hSq : SP = s_T_copyOn_cut13_3 (tri (F 0) (F 1) F515) (tri (g 0) (g 1) g516) (tri (v 0) (v 1) c517) 1 := by rw [hSq0, s_T_copyOn_cut13_2]; try (rw [if_neg (by decide)]); try (rw [if_pos rfl]); try (rw [if_pos hc11]); try (rw [if_pos hc12]); try (rw [← hr14E, bnd_eq]); try dsimp only; all_goals rfl
          replace hl := lv_sub hl (l' := [(0, .ref h0), (1, .int 1), (2, .int 3)]) [1, 2, 0] rfl
          replace hP := hP.sub (ws' := [(h0, .inr (0, oT uT p9 a9 e9 n9 o9)), (a9, .inl (ca, 3, .inr (.inr (.inr (.inr (mo da)))))), (da 0, .inr (2, oD (tri (F 0) (F 1) F515 0) (ra 0) (ka 0))), (ra 0, .inl (cr 0, 8, .inl (tri (g 0) (g 1) g516 0))), (ka 0, .inl (ck 0, 32, .inl (tri (v 0) (v 1) c517 0))), (da 1, .inr (2, oD (tri (F 0) (F 1) F515 1) (ra 1) (ka 1))), (ra 1, .inl (cr 1, 8, .inl (tri (g 0) (g 1) g516 1))), (ka 1, .inl (ck 1, 32, .inl (tri (v 0) (v 1) c517 1))), (da 2, .inr (2, oD (tri (F 0) (F 1) F515 2) (ra 2) (ka 2))), (ra 2, .inl (cr 2, 8, .inl (tri (g 0) (g 1) g516 2))), (ka 2, .inl (ck 2, 32, .inl (tri (v 0) (v 1) c517 2)))]) [0, 1, 2, 3, 4, 8, 9, 10, 5, 6, 7] rfl
          replace hD := hD.sub (ws' := [(h0, .inr (0, oT uT p9 a9 e9 n9 o9)), (a9, .inl (ca, 3, .inr (.inr (.inr (.inr (mo da)))))), (da 0, .inr (2, oD (tri (F 0) (F 1) F515 0) (ra 0) (ka 0))), (ra 0, .inl (cr 0, 8, .inl (tri (g 0) (g 1) g516 0))), (ka 0, .inl (ck 0, 32, .inl (tri (v 0) (v 1) c517 0))), (da 1, .inr (2, oD (tri (F 0) (F 1) F515 1) (ra 1) (ka 1))), (ra 1, .inl (cr 1, 8, .inl (tri (g 0) (g 1) g516 1))), (ka 1, .inl (ck 1, 32, .inl (tri (v 0) (v 1) c517 1))), (da 2, .inr (2, oD (tri (F 0) (F 1) F515 2) (ra 2) (ka 2))), (ra 2, .inl (cr 2, 8, .inl (tri (g 0) (g 1) g516 2))), (ka 2, .inl (ck 2, 32, .inl (tri (v 0) (v 1) c517 2)))]) [0, 1, 2, 3, 4, 8, 9, 10, 5, 6, 7] (by decide) rfl
          exact cut13_3 (tri (F 0) (F 1) F515) (tri (g 0) (g 1) g516) (tri (v 0) (v 1) c517) 1 _ _ _ (⟨hF.1, hF.2.1, hr14.1⟩) (⟨hg.1, hg.2.1, hr14.2⟩) (Or.inr (Or.inl ⟨rfl, hlo3⟩)) hSq hl hP hD hS
    · --  2
      refine lv_aload_n hx hb d_T_copyOn_18 rfl (lv_at hl 0 rfl) ?_
      refine va_get (D := (dC, dI)) (ci := 0) (v := .ref a9) (C := "VotedTriple") (T := F_T) (N := 11) hx hb hw in_T hown hK hP 0 rfl rfl 1 (by decide) (hw _ k_195) (fun _ h9 => h9) rfl d_T_copyOn_19 ?_
      refine lv_iload_n hx hb d_T_copyOn_22 rfl (lv_at hl 2 rfl) ?_
      refine va_aldq hx hb hK hP 1 0 rfl rfl (by unfold vp_in; decide) d_T_copyOn_23 ?_
      refine W.eq (g2 := F0 m 24 ls [.ref (da 2)]) rfl ?_
      refine va_get (D := (dC, dI)) (ci := 2) (v := .int (F 2 8)) (C := "VotedTriple$VotedModule") (T := F_D) (N := 19) hx hb hw in_D hown hK hP 8 rfl rfl 8 (by decide) (hw _ k_143) (fun _ h9 => h9) rfl d_T_copyOn_24 ?_
      refine lv_iconst (v := 1) hx hb d_T_copyOn_27 (by decide) ?_
      refine lv_icmp_ne (tgt := 58) hx hb d_T_copyOn_28 rfl (fun hc18 => ?_) (fun hc18 => by first | exact absurd (by rw [hlo3]; decide) hc18 | exact absurd hc18 (by rw [hlo3]; decide))
      refine lv_iinc (k := 2) (v := 3) hx hb d_T_copyOn_58 hl rfl rfl (by decide) rfl (fun ls hl => ?_)
      replace hl : lv_has ls 3 [(2, .int 3), (0, .ref h0), (1, .int 2)] := hl
      refine lv_goto (tgt := 13) hx hb d_T_copyOn_61 rfl ?_
      have hSq : SP = s_T_copyOn_cut13_3 F g v 2 := by rw [hSq0, s_T_copyOn_cut13_2]; try (rw [if_neg (by decide)]); try (rw [if_neg (by decide)]); all_goals rfl
      replace hl := lv_sub hl (l' := [(0, .ref h0), (1, .int 2), (2, .int 3)]) [1, 2, 0] rfl
      replace hP := hP.sub (ws' := [(h0, .inr (0, oT uT p9 a9 e9 n9 o9)), (a9, .inl (ca, 3, .inr (.inr (.inr (.inr (mo da)))))), (da 0, .inr (2, oD (F 0) (ra 0) (ka 0))), (ra 0, .inl (cr 0, 8, .inl (g 0))), (ka 0, .inl (ck 0, 32, .inl (v 0))), (da 1, .inr (2, oD (F 1) (ra 1) (ka 1))), (ra 1, .inl (cr 1, 8, .inl (g 1))), (ka 1, .inl (ck 1, 32, .inl (v 1))), (da 2, .inr (2, oD (F 2) (ra 2) (ka 2))), (ra 2, .inl (cr 2, 8, .inl (g 2))), (ka 2, .inl (ck 2, 32, .inl (v 2)))]) [0, 1, 2, 3, 4, 5, 6, 7, 8, 9, 10] rfl
      replace hD := hD.sub (ws' := [(h0, .inr (0, oT uT p9 a9 e9 n9 o9)), (a9, .inl (ca, 3, .inr (.inr (.inr (.inr (mo da)))))), (da 0, .inr (2, oD (F 0) (ra 0) (ka 0))), (ra 0, .inl (cr 0, 8, .inl (g 0))), (ka 0, .inl (ck 0, 32, .inl (v 0))), (da 1, .inr (2, oD (F 1) (ra 1) (ka 1))), (ra 1, .inl (cr 1, 8, .inl (g 1))), (ka 1, .inl (ck 1, 32, .inl (v 1))), (da 2, .inr (2, oD (F 2) (ra 2) (ka 2))), (ra 2, .inl (cr 2, 8, .inl (g 2))), (ka 2, .inl (ck 2, 32, .inl (v 2)))]) [0, 1, 2, 3, 4, 5, 6, 7, 8, 9, 10] (by decide) rfl
      exact cut13_3 F g v 2 _ _ _ hF hg (Or.inr (Or.inr ⟨rfl, hlo3⟩)) hSq hl hP hD hS
  have cut13_1 : ∀ (F : Nat → Nat → Int32) (g : Nat → Nat → Int32) (v : Nat → Nat → Int32) (w1 : Int32) (ls : Array Slot) (H : Heap) (locs : List Loc), f3 F → g3 g → ((w1 = 0 ∧ F 0 8 = 0) ∨ (w1 = 1 ∧ F 1 8 = 0) ∨ (w1 = 2 ∧ F 2 8 = 0)) → SP = s_T_copyOn_cut13_1 F g v w1 →  lv_has ls 3 [(0, .ref h0), (1, .int w1), (2, .int 1)] → va_P (dC, dI) classes [(h0, .inr (0, oT uT p9 a9 e9 n9 o9)), (a9, .inl (ca, 3, .inr (.inr (.inr (.inr (mo da)))))), (da 0, .inr (2, oD (F 0) (ra 0) (ka 0))), (ra 0, .inl (cr 0, 8, .inl (g 0))), (ka 0, .inl (ck 0, 32, .inl (v 0))), (da 1, .inr (2, oD (F 1) (ra 1) (ka 1))), (ra 1, .inl (cr 1, 8, .inl (g 1))), (ka 1, .inl (ck 1, 32, .inl (v 1))), (da 2, .inr (2, oD (F 2) (ra 2) (ka 2))), (ra 2, .inl (cr 2, 8, .inl (g 2))), (ka 2, .inl (ck 2, 32, .inl (v 2)))] H → va_D A [(h0, .inr (0, oT uT p9 a9 e9 n9 o9)), (a9, .inl (ca, 3, .inr (.inr (.inr (.inr (mo da)))))), (da 0, .inr (2, oD (F 0) (ra 0) (ka 0))), (ra 0, .inl (cr 0, 8, .inl (g 0))), (ka 0, .inl (ck 0, 32, .inl (v 0))), (da 1, .inr (2, oD (F 1) (ra 1) (ka 1))), (ra 1, .inl (cr 1, 8, .inl (g 1))), (ka 1, .inl (ck 1, 32, .inl (v 1))), (da 2, .inr (2, oD (F 2) (ra 2) (ka 2))), (ra 2, .inl (cr 2, 8, .inl (g 2))), (ka 2, .inl (ck 2, 32, .inl (v 2)))] → va_S A s.heap H locs → W p l e (headSpec (tbw y_T_copyOn b_T_copyOn 3 none) ({ frames := 2, cells := 0, slots := 0, locals := 41 })).room s m ([.ref h0] : List Value).toArray below meth c H locs 0 0 (MQ below (va_Qv (fun (u9 : (Nat → Nat → Int32) × (Nat → Nat → Int32) × (Nat → Nat → Int32)) => match u9 with | (F2, g2, v2) => (f3 F2 ∧ g3 g2) ∧ (F2, g2, v2) = SP) (fun (u9 : (Nat → Nat → Int32) × (Nat → Nat → Int32) × (Nat → Nat → Int32)) t => match u9 with | (F2, g2, v2) => va_P (dC, dI) classes [(h0, .inr (0, oT uT p9 a9 e9 n9 o9)), (a9, .inl (ca, 3, .inr (.inr (.inr (.inr (mo da)))))), (da 0, .inr (2, oD (F2 0) (ra 0) (ka 0))), (ra 0, .inl (cr 0, 8, .inl (g2 0))), (ka 0, .inl (ck 0, 32, .inl (v2 0))), (da 1, .inr (2, oD (F2 1) (ra 1) (ka 1))), (ra 1, .inl (cr 1, 8, .inl (g2 1))), (ka 1, .inl (ck 1, 32, .inl (v2 1))), (da 2, .inr (2, oD (F2 2) (ra 2) (ka 2))), (ra 2, .inl (cr 2, 8, .inl (g2 2))), (ka 2, .inl (ck 2, 32, .inl (v2 2)))] t.heap ∧ va_K (dC, dI) classes [(ca, .object "VotedTriple$VotedModule"), (cr 0, .int), (ck 0, .int), (cr 1, .int), (ck 1, .int), (cr 2, .int), (ck 2, .int)] t ∧ va_D A [(h0, .inr (0, oT uT p9 a9 e9 n9 o9)), (a9, .inl (ca, 3, .inr (.inr (.inr (.inr (mo da)))))), (da 0, .inr (2, oD (F2 0) (ra 0) (ka 0))), (ra 0, .inl (cr 0, 8, .inl (g2 0))), (ka 0, .inl (ck 0, 32, .inl (v2 0))), (da 1, .inr (2, oD (F2 1) (ra 1) (ka 1))), (ra 1, .inl (cr 1, 8, .inl (g2 1))), (ka 1, .inl (ck 1, 32, .inl (v2 1))), (da 2, .inr (2, oD (F2 2) (ra 2) (ka 2))), (ra 2, .inl (cr 2, 8, .inl (g2 2))), (ka 2, .inl (ck 2, 32, .inl (v2 2)))]) A) ([.ref h0] : List Value).toArray s 0 0 A) (F0 m 13 ls []) := by
    intro F g v w1 ls H locs hF hg h19 hSq0 hl hP hD hS
    clear cut13_3
    refine lv_iload_n hx hb d_T_copyOn_13 rfl (lv_at hl 2 rfl) ?_
    refine lv_iconst (v := 3) hx hb d_T_copyOn_14 (by decide) ?_
    refine lv_icmp_ge (tgt := 64) hx hb d_T_copyOn_15 rfl (fun hc19 => by first | exact absurd hc19 (by decide) | exact absurd (by decide) hc19) (fun hc19 => ?_)
    rcases h19 with ⟨rfl, hlo20⟩ | ⟨rfl, hlo20⟩ | ⟨rfl, hlo20⟩
    · --  0
      refine lv_aload_n hx hb d_T_copyOn_18 rfl (lv_at hl 0 rfl) ?_
      refine va_get (D := (dC, dI)) (ci := 0) (v := .ref a9) (C := "VotedTriple") (T := F_T) (N := 11) hx hb hw in_T hown hK hP 0 rfl rfl 1 (by decide) (hw _ k_195) (fun _ h9 => h9) rfl d_T_copyOn_19 ?_
      refine lv_iload_n hx hb d_T_copyOn_22 rfl (lv_at hl 2 rfl) ?_
      refine va_aldq hx hb hK hP 1 0 rfl rfl (by unfold vp_in; decide) d_T_copyOn_23 ?_
      refine W.eq (g2 := F0 m 24 ls [.ref (da 1)]) rfl ?_
      refine va_get (D := (dC, dI)) (ci := 2) (v := .int (F 1 8)) (C := "VotedTriple$VotedModule") (T := F_D) (N := 19) hx hb hw in_D hown hK hP 5 rfl rfl 8 (by decide) (hw _ k_143) (fun _ h9 => h9) rfl d_T_copyOn_24 ?_
      refine lv_iconst (v := 1) hx hb d_T_copyOn_27 (by decide) ?_
      refine lv_icmp_ne (tgt := 58) hx hb d_T_copyOn_28 rfl (fun hc21 => ?_) (fun hc21 => ?_)
      · --  ¬ (F 1 8) = 1
        refine lv_iinc (k := 2) (v := 2) hx hb d_T_copyOn_58 hl rfl rfl (by decide) rfl (fun ls hl => ?_)
        replace hl : lv_has ls 3 [(2, .int 2), (0, .ref h0), (1, .int 0)] := hl
        refine lv_goto (tgt := 13) hx hb d_T_copyOn_61 rfl ?_
        have hSq : SP = s_T_copyOn_cut13_2 F g v 0 := by rw [hSq0, s_T_copyOn_cut13_1]; try (rw [if_pos rfl]); try (rw [if_neg hc21]); all_goals rfl
        replace hl := lv_sub hl (l' := [(0, .ref h0), (1, .int 0), (2, .int 2)]) [1, 2, 0] rfl
        replace hP := hP.sub (ws' := [(h0, .inr (0, oT uT p9 a9 e9 n9 o9)), (a9, .inl (ca, 3, .inr (.inr (.inr (.inr (mo da)))))), (da 0, .inr (2, oD (F 0) (ra 0) (ka 0))), (ra 0, .inl (cr 0, 8, .inl (g 0))), (ka 0, .inl (ck 0, 32, .inl (v 0))), (da 1, .inr (2, oD (F 1) (ra 1) (ka 1))), (ra 1, .inl (cr 1, 8, .inl (g 1))), (ka 1, .inl (ck 1, 32, .inl (v 1))), (da 2, .inr (2, oD (F 2) (ra 2) (ka 2))), (ra 2, .inl (cr 2, 8, .inl (g 2))), (ka 2, .inl (ck 2, 32, .inl (v 2)))]) [0, 1, 2, 3, 4, 5, 6, 7, 8, 9, 10] rfl
        replace hD := hD.sub (ws' := [(h0, .inr (0, oT uT p9 a9 e9 n9 o9)), (a9, .inl (ca, 3, .inr (.inr (.inr (.inr (mo da)))))), (da 0, .inr (2, oD (F 0) (ra 0) (ka 0))), (ra 0, .inl (cr 0, 8, .inl (g 0))), (ka 0, .inl (ck 0, 32, .inl (v 0))), (da 1, .inr (2, oD (F 1) (ra 1) (ka 1))), (ra 1, .inl (cr 1, 8, .inl (g 1))), (ka 1, .inl (ck 1, 32, .inl (v 1))), (da 2, .inr (2, oD (F 2) (ra 2) (ka 2))), (ra 2, .inl (cr 2, 8, .inl (g 2))), (ka 2, .inl (ck 2, 32, .inl (v 2)))]) [0, 1, 2, 3, 4, 5, 6, 7, 8, 9, 10] (by decide) rfl
        exact cut13_2 F g v 0 _ _ _ hF hg (Or.inl ⟨rfl, hlo20⟩) hSq hl hP hD hS
      · --  (F 1 8) = 1
        refine lv_aload_n hx hb d_T_copyOn_31 rfl (lv_at hl 0 rfl) ?_
        refine va_get (D := (dC, dI)) (ci := 0) (v := .ref a9) (C := "VotedTriple") (T := F_T) (N := 11) hx hb hw in_T hown hK hP 0 rfl rfl 1 (by decide) (hw _ k_195) (fun _ h9 => h9) rfl d_T_copyOn_32 ?_
        refine lv_iload_n hx hb d_T_copyOn_35 rfl (lv_at hl 2 rfl) ?_
        refine va_aldq hx hb hK hP 1 0 rfl rfl (by unfold vp_in; decide) d_T_copyOn_36 ?_
        refine W.eq (g2 := F0 m 37 ls [.ref (da 1)]) rfl ?_
        refine va_get (D := (dC, dI)) (ci := 2) (v := .int (F 1 15)) (C := "VotedTriple$VotedModule") (T := F_D) (N := 19) hx hb hw in_D hown hK hP 5 rfl rfl 15 (by decide) (hw _ k_157) (fun _ h9 => h9) rfl d_T_copyOn_37 ?_
        refine lv_if_ne (tgt := 58) hx hb d_T_copyOn_40 rfl (fun hc22 => ?_) (fun hc22 => ?_)
        · --  ¬ (F 1 15) = 0
          refine lv_iinc (k := 2) (v := 2) hx hb d_T_copyOn_58 hl rfl rfl (by decide) rfl (fun ls hl => ?_)
          replace hl : lv_has ls 3 [(2, .int 2), (0, .ref h0), (1, .int 0)] := hl
          refine lv_goto (tgt := 13) hx hb d_T_copyOn_61 rfl ?_
          have hSq : SP = s_T_copyOn_cut13_2 F g v 0 := by rw [hSq0, s_T_copyOn_cut13_1]; try (rw [if_pos rfl]); try (rw [if_pos hc21]); try (rw [if_neg hc22]); all_goals rfl
          replace hl := lv_sub hl (l' := [(0, .ref h0), (1, .int 0), (2, .int 2)]) [1, 2, 0] rfl
          replace hP := hP.sub (ws' := [(h0, .inr (0, oT uT p9 a9 e9 n9 o9)), (a9, .inl (ca, 3, .inr (.inr (.inr (.inr (mo da)))))), (da 0, .inr (2, oD (F 0) (ra 0) (ka 0))), (ra 0, .inl (cr 0, 8, .inl (g 0))), (ka 0, .inl (ck 0, 32, .inl (v 0))), (da 1, .inr (2, oD (F 1) (ra 1) (ka 1))), (ra 1, .inl (cr 1, 8, .inl (g 1))), (ka 1, .inl (ck 1, 32, .inl (v 1))), (da 2, .inr (2, oD (F 2) (ra 2) (ka 2))), (ra 2, .inl (cr 2, 8, .inl (g 2))), (ka 2, .inl (ck 2, 32, .inl (v 2)))]) [0, 1, 2, 3, 4, 5, 6, 7, 8, 9, 10] rfl
          replace hD := hD.sub (ws' := [(h0, .inr (0, oT uT p9 a9 e9 n9 o9)), (a9, .inl (ca, 3, .inr (.inr (.inr (.inr (mo da)))))), (da 0, .inr (2, oD (F 0) (ra 0) (ka 0))), (ra 0, .inl (cr 0, 8, .inl (g 0))), (ka 0, .inl (ck 0, 32, .inl (v 0))), (da 1, .inr (2, oD (F 1) (ra 1) (ka 1))), (ra 1, .inl (cr 1, 8, .inl (g 1))), (ka 1, .inl (ck 1, 32, .inl (v 1))), (da 2, .inr (2, oD (F 2) (ra 2) (ka 2))), (ra 2, .inl (cr 2, 8, .inl (g 2))), (ka 2, .inl (ck 2, 32, .inl (v 2)))]) [0, 1, 2, 3, 4, 5, 6, 7, 8, 9, 10] (by decide) rfl
          exact cut13_2 F g v 0 _ _ _ hF hg (Or.inl ⟨rfl, hlo20⟩) hSq hl hP hD hS
        · --  (F 1 15) = 0
          refine lv_aload_n hx hb d_T_copyOn_43 rfl (lv_at hl 0 rfl) ?_
          refine va_get (D := (dC, dI)) (ci := 0) (v := .ref a9) (C := "VotedTriple") (T := F_T) (N := 11) hx hb hw in_T hown hK hP 0 rfl rfl 1 (by decide) (hw _ k_195) (fun _ h9 => h9) rfl d_T_copyOn_44 ?_
          refine lv_iload_n hx hb d_T_copyOn_47 rfl (lv_at hl 2 rfl) ?_
          refine va_aldq hx hb hK hP 1 0 rfl rfl (by unfold vp_in; decide) d_T_copyOn_48 ?_
          refine W.eq (g2 := F0 m 49 ls [.ref (da 1)]) rfl ?_
          refine lv_aload_n hx hb d_T_copyOn_49 rfl (lv_at hl 0 rfl) ?_
          refine va_get (D := (dC, dI)) (ci := 0) (v := .ref a9) (C := "VotedTriple") (T := F_T) (N := 11) hx hb hw in_T hown hK hP 0 rfl rfl 1 (by decide) (hw _ k_195) (fun _ h9 => h9) rfl d_T_copyOn_50 ?_
          refine lv_iload_n hx hb d_T_copyOn_53 rfl (lv_at hl 1 rfl) ?_
          refine va_aldq hx hb hK hP 1 0 rfl rfl (by unfold vp_in; decide) d_T_copyOn_54 ?_
          refine W.eq (g2 := F0 m 55 ls [.ref (da 0), .ref (da 1)]) rfl ?_
          replace hPc := hP.sub (ws' := [(da 1, .inr (2, oD (F 1) (ra 1) (ka 1))), (ra 1, .inl (cr 1, 8, .inl (g 1))), (ka 1, .inl (ck 1, 32, .inl (v 1))), (da 0, .inr (2, oD (F 0) (ra 0) (ka 0))), (ra 0, .inl (cr 0, 8, .inl (g 0))), (ka 0, .inl (ck 0, 32, .inl (v 0)))]) [5, 6, 7, 2, 3, 4] rfl
          replace hKc := hK.sub (tys' := [(cr 1, .int), (ck 1, .int), (cr 0, .int), (ck 0, .int)]) [3, 4, 1, 2] rfl
          replace hDc := hD.sub (ws' := [(da 1, .inr (2, oD (F 1) (ra 1) (ka 1))), (ra 1, .inl (cr 1, 8, .inl (g 1))), (ka 1, .inl (ck 1, 32, .inl (v 1))), (da 0, .inr (2, oD (F 0) (ra 0) (ka 0))), (ra 0, .inl (cr 0, 8, .inl (g 0))), (ka 0, .inl (ck 0, 32, .inl (v 0)))]) [5, 6, 7, 2, 3, 4] (by decide) rfl
          replace hFc := va_free (wc := [(da 1, .inr (2, oD (F 1) (ra 1) (ka 1))), (ra 1, .inl (cr 1, 8, .inl (g 1))), (ka 1, .inl (ck 1, 32, .inl (v 1))), (da 0, .inr (2, oD (F 0) (ra 0) (ka 0))), (ra 0, .inl (cr 0, 8, .inl (g 0))), (ka 0, .inl (ck 0, 32, .inl (v 0)))]) hD hS hA [5, 6, 7, 2, 3, 4] rfl
          refine va_callv (va_runV (C := "VotedTriple$VotedModule") (As := [.ref (da 0)]) (rest := []) ⟨hx, hb, hml, hown, hw⟩ (c_D_copyNextFrom l dC dI (da 1) (ra 1) (ka 1) (F 1) (cr 1) (g 1) (ck 1) (v 1) (da 0) (ra 0) (ka 0) (F 0) (cr 0) (g 0) (ck 0) (v 0) hF.2.1 hg.2.1 hF.1 hg.1 H.size) (cwV 1 hw (gdV (k_659) (k_656) (k_657) (k_658) (k_7)) rfl rfl rfl (by decide +kernel) ⟨Nat.le_of_ble_eq_true rfl, Nat.le_of_ble_eq_true rfl⟩) ⟨fun a U g mk q => by obtain ⟨q0, q1, qP, qK, qD⟩ := q; exact ⟨q0, q1, qP, va_K.moved (u := U) (U := U.calling g mk a) (Vm.Alike.refl U.vm) qK, qD⟩, va_recv hK hP rfl (q0 := 5) rfl, fun U hU hW => ⟨rfl, by rw [hU], by rw [hU]; exact hPc, va_K.moved hW.alike hKc, hDc.weaken (fun _ _ _ _ => trivial)⟩⟩ rfl rfl hl.1 rfl (lv_room (Nat.le_of_ble_eq_true rfl)) d_T_copyOn_55 ⟨Nat.le_of_ble_eq_true rfl, Nat.le_of_ble_eq_true rfl⟩) hS (fun q _ h => hFc q h) hFc (fun u9 t H1 locs ht hvm hr24 hB hz1 hk1 hS => ?_)
          obtain ⟨F525, g526, c527⟩ := u9
          obtain ⟨hP1, hK1, hD1⟩ := hB
          rw [ht] at hP1
          replace hK1 := va_K.moved hvm.symm hK1
          try dsimp only at hr24 hP1 hK1 hD1
          obtain ⟨hr24, hr24E⟩ := hr24
          obtain ⟨hPz, hDz⟩ := va_join (wr := [(h0, .inr (0, oT uT p9 a9 e9 n9 o9)), (a9, .inl (ca, 3, .inr (.inr (.inr (.inr (mo da)))))), (da 2, .inr (2, oD (F 2) (ra 2) (ka 2))), (ra 2, .inl (cr 2, 8, .inl (g 2))), (ka 2, .inl (ck 2, 32, .inl (v 2)))]) (w1 := [(da 1, .inr (2, oD F525 (ra 1) (ka 1))), (ra 1, .inl (cr 1, 8, .inl g526)), (ka 1, .inl (ck 1, 32, .inl c527)), (da 0, .inr (2, oD (F 0) (ra 0) (ka 0))), (ra 0, .inl (cr 0, 8, .inl (g 0))), (ka 0, .inl (ck 0, 32, .inl (v 0)))]) hP hD [5, 6, 7, 2, 3, 4] [0, 1, 8, 9, 10] rfl rfl (by decide) (by decide) hk1 hFc hP1 hD1
          clear hP hD hPc hDc hP1 hD1 hFc
          have hP := hPz
          have hD := hDz
          clear hPz hDz
          replace hK := (hK.sub (tys' := [(ca, .object "VotedTriple$VotedModule"), (cr 2, .int), (ck 2, .int)]) [0, 5, 6] rfl).app hK1
          clear hK1 hKc
          generalize H1 = H at hP hS ⊢
          replace hP : va_P (dC, dI) classes [(h0, .inr (0, oT uT p9 a9 e9 n9 o9)), (a9, .inl (ca, 3, .inr (.inr (.inr (.inr (mo da)))))), (da 2, .inr (2, oD (F 2) (ra 2) (ka 2))), (ra 2, .inl (cr 2, 8, .inl (g 2))), (ka 2, .inl (ck 2, 32, .inl (v 2))), (da 1, .inr (2, oD F525 (ra 1) (ka 1))), (ra 1, .inl (cr 1, 8, .inl g526)), (ka 1, .inl (ck 1, 32, .inl c527)), (da 0, .inr (2, oD (F 0) (ra 0) (ka 0))), (ra 0, .inl (cr 0, 8, .inl (g 0))), (ka 0, .inl (ck 0, 32, .inl (v 0)))] H := hP
          replace hD : va_D A [(h0, .inr (0, oT uT p9 a9 e9 n9 o9)), (a9, .inl (ca, 3, .inr (.inr (.inr (.inr (mo da)))))), (da 2, .inr (2, oD (F 2) (ra 2) (ka 2))), (ra 2, .inl (cr 2, 8, .inl (g 2))), (ka 2, .inl (ck 2, 32, .inl (v 2))), (da 1, .inr (2, oD F525 (ra 1) (ka 1))), (ra 1, .inl (cr 1, 8, .inl g526)), (ka 1, .inl (ck 1, 32, .inl c527)), (da 0, .inr (2, oD (F 0) (ra 0) (ka 0))), (ra 0, .inl (cr 0, 8, .inl (g 0))), (ka 0, .inl (ck 0, 32, .inl (v 0)))] := hD
          replace hK : va_K (dC, dI) classes [(ca, .object "VotedTriple$VotedModule"), (cr 2, .int), (ck 2, .int), (cr 1, .int), (ck 1, .int), (cr 0, .int), (ck 0, .int)] s := hK
          refine W.widen (k := 0) (n := 0) (Nat.le_of_ble_eq_true rfl) (Nat.le_of_ble_eq_true rfl) ?_
          refine lv_iinc (k := 2) (v := 2) hx hb d_T_copyOn_58 hl rfl rfl (by decide) rfl (fun ls hl => ?_)
          replace hl : lv_has ls 3 [(2, .int 2), (0, .ref h0), (1, .int 0)] := hl
          refine lv_goto (tgt := 13) hx hb d_T_copyOn_61 rfl ?_
          have hSq : SP = s_T_copyOn_cut13_2 (tri (F 0) F525 (F 2)) (tri (g 0) g526 (g 2)) (tri (v 0) c527 (v 2)) 0 := by rw [hSq0, s_T_copyOn_cut13_1]; try (rw [if_pos rfl]); try (rw [if_pos hc21]); try (rw [if_pos hc22]); try (rw [← hr24E, bnd_eq]); try dsimp only; all_goals rfl
          replace hl := lv_sub hl (l' := [(0, .ref h0), (1, .int 0), (2, .int 2)]) [1, 2, 0] rfl
          replace hP := hP.sub (ws' := [(h0, .inr (0, oT uT p9 a9 e9 n9 o9)), (a9, .inl (ca, 3, .inr (.inr (.inr (.inr (mo da)))))), (da 0, .inr (2, oD (tri (F 0) F525 (F 2) 0) (ra 0) (ka 0))), (ra 0, .inl (cr 0, 8, .inl (tri (g 0) g526 (g 2) 0))), (ka 0, .inl (ck 0, 32, .inl (tri (v 0) c527 (v 2) 0))), (da 1, .inr (2, oD (tri (F 0) F525 (F 2) 1) (ra 1) (ka 1))), (ra 1, .inl (cr 1, 8, .inl (tri (g 0) g526 (g 2) 1))), (ka 1, .inl (ck 1, 32, .inl (tri (v 0) c527 (v 2) 1))), (da 2, .inr (2, oD (tri (F 0) F525 (F 2) 2) (ra 2) (ka 2))), (ra 2, .inl (cr 2, 8, .inl (tri (g 0) g526 (g 2) 2))), (ka 2, .inl (ck 2, 32, .inl (tri (v 0) c527 (v 2) 2)))]) [0, 1, 8, 9, 10, 5, 6, 7, 2, 3, 4] rfl
          replace hD := hD.sub (ws' := [(h0, .inr (0, oT uT p9 a9 e9 n9 o9)), (a9, .inl (ca, 3, .inr (.inr (.inr (.inr (mo da)))))), (da 0, .inr (2, oD (tri (F 0) F525 (F 2) 0) (ra 0) (ka 0))), (ra 0, .inl (cr 0, 8, .inl (tri (g 0) g526 (g 2) 0))), (ka 0, .inl (ck 0, 32, .inl (tri (v 0) c527 (v 2) 0))), (da 1, .inr (2, oD (tri (F 0) F525 (F 2) 1) (ra 1) (ka 1))), (ra 1, .inl (cr 1, 8, .inl (tri (g 0) g526 (g 2) 1))), (ka 1, .inl (ck 1, 32, .inl (tri (v 0) c527 (v 2) 1))), (da 2, .inr (2, oD (tri (F 0) F525 (F 2) 2) (ra 2) (ka 2))), (ra 2, .inl (cr 2, 8, .inl (tri (g 0) g526 (g 2) 2))), (ka 2, .inl (ck 2, 32, .inl (tri (v 0) c527 (v 2) 2)))]) [0, 1, 8, 9, 10, 5, 6, 7, 2, 3, 4] (by decide) rfl
          exact cut13_2 (tri (F 0) F525 (F 2)) (tri (g 0) g526 (g 2)) (tri (v 0) c527 (v 2)) 0 _ _ _ (⟨hF.1, hr24.1, hF.2.2⟩) (⟨hg.1, hr24.2, hg.2.2⟩) (Or.inl ⟨rfl, hlo20⟩) hSq hl hP hD hS
    · --  1
      refine lv_aload_n hx hb d_T_copyOn_18 rfl (lv_at hl 0 rfl) ?_
      refine va_get (D := (dC, dI)) (ci := 0) (v := .ref a9) (C := "VotedTriple") (T := F_T) (N := 11) hx hb hw in_T hown hK hP 0 rfl rfl 1 (by decide) (hw _ k_195) (fun _ h9 => h9) rfl d_T_copyOn_19 ?_
      refine lv_iload_n hx hb d_T_copyOn_22 rfl (lv_at hl 2 rfl) ?_
      refine va_aldq hx hb hK hP 1 0 rfl rfl (by unfold vp_in; decide) d_T_copyOn_23 ?_
      refine W.eq (g2 := F0 m 24 ls [.ref (da 1)]) rfl ?_
      refine va_get (D := (dC, dI)) (ci := 2) (v := .int (F 1 8)) (C := "VotedTriple$VotedModule") (T := F_D) (N := 19) hx hb hw in_D hown hK hP 5 rfl rfl 8 (by decide) (hw _ k_143) (fun _ h9 => h9) rfl d_T_copyOn_24 ?_
      refine lv_iconst (v := 1) hx hb d_T_copyOn_27 (by decide) ?_
      refine lv_icmp_ne (tgt := 58) hx hb d_T_copyOn_28 rfl (fun hc28 => ?_) (fun hc28 => by first | exact absurd (by rw [hlo20]; decide) hc28 | exact absurd hc28 (by rw [hlo20]; decide))
      refine lv_iinc (k := 2) (v := 2) hx hb d_T_copyOn_58 hl rfl rfl (by decide) rfl (fun ls hl => ?_)
      replace hl : lv_has ls 3 [(2, .int 2), (0, .ref h0), (1, .int 1)] := hl
      refine lv_goto (tgt := 13) hx hb d_T_copyOn_61 rfl ?_
      have hSq : SP = s_T_copyOn_cut13_2 F g v 1 := by rw [hSq0, s_T_copyOn_cut13_1]; try (rw [if_neg (by decide)]); try (rw [if_pos rfl]); all_goals rfl
      replace hl := lv_sub hl (l' := [(0, .ref h0), (1, .int 1), (2, .int 2)]) [1, 2, 0] rfl
      replace hP := hP.sub (ws' := [(h0, .inr (0, oT uT p9 a9 e9 n9 o9)), (a9, .inl (ca, 3, .inr (.inr (.inr (.inr (mo da)))))), (da 0, .inr (2, oD (F 0) (ra 0) (ka 0))), (ra 0, .inl (cr 0, 8, .inl (g 0))), (ka 0, .inl (ck 0, 32, .inl (v 0))), (da 1, .inr (2, oD (F 1) (ra 1) (ka 1))), (ra 1, .inl (cr 1, 8, .inl (g 1))), (ka 1, .inl (ck 1, 32, .inl (v 1))), (da 2, .inr (2, oD (F 2) (ra 2) (ka 2))), (ra 2, .inl (cr 2, 8, .inl (g 2))), (ka 2, .inl (ck 2, 32, .inl (v 2)))]) [0, 1, 2, 3, 4, 5, 6, 7, 8, 9, 10] rfl
      replace hD := hD.sub (ws' := [(h0, .inr (0, oT uT p9 a9 e9 n9 o9)), (a9, .inl (ca, 3, .inr (.inr (.inr (.inr (mo da)))))), (da 0, .inr (2, oD (F 0) (ra 0) (ka 0))), (ra 0, .inl (cr 0, 8, .inl (g 0))), (ka 0, .inl (ck 0, 32, .inl (v 0))), (da 1, .inr (2, oD (F 1) (ra 1) (ka 1))), (ra 1, .inl (cr 1, 8, .inl (g 1))), (ka 1, .inl (ck 1, 32, .inl (v 1))), (da 2, .inr (2, oD (F 2) (ra 2) (ka 2))), (ra 2, .inl (cr 2, 8, .inl (g 2))), (ka 2, .inl (ck 2, 32, .inl (v 2)))]) [0, 1, 2, 3, 4, 5, 6, 7, 8, 9, 10] (by decide) rfl
      exact cut13_2 F g v 1 _ _ _ hF hg (Or.inr (Or.inl ⟨rfl, hlo20⟩)) hSq hl hP hD hS
    · --  2
      refine lv_aload_n hx hb d_T_copyOn_18 rfl (lv_at hl 0 rfl) ?_
      refine va_get (D := (dC, dI)) (ci := 0) (v := .ref a9) (C := "VotedTriple") (T := F_T) (N := 11) hx hb hw in_T hown hK hP 0 rfl rfl 1 (by decide) (hw _ k_195) (fun _ h9 => h9) rfl d_T_copyOn_19 ?_
      refine lv_iload_n hx hb d_T_copyOn_22 rfl (lv_at hl 2 rfl) ?_
      refine va_aldq hx hb hK hP 1 0 rfl rfl (by unfold vp_in; decide) d_T_copyOn_23 ?_
      refine W.eq (g2 := F0 m 24 ls [.ref (da 1)]) rfl ?_
      refine va_get (D := (dC, dI)) (ci := 2) (v := .int (F 1 8)) (C := "VotedTriple$VotedModule") (T := F_D) (N := 19) hx hb hw in_D hown hK hP 5 rfl rfl 8 (by decide) (hw _ k_143) (fun _ h9 => h9) rfl d_T_copyOn_24 ?_
      refine lv_iconst (v := 1) hx hb d_T_copyOn_27 (by decide) ?_
      refine lv_icmp_ne (tgt := 58) hx hb d_T_copyOn_28 rfl (fun hc29 => ?_) (fun hc29 => ?_)
      · --  ¬ (F 1 8) = 1
        refine lv_iinc (k := 2) (v := 2) hx hb d_T_copyOn_58 hl rfl rfl (by decide) rfl (fun ls hl => ?_)
        replace hl : lv_has ls 3 [(2, .int 2), (0, .ref h0), (1, .int 2)] := hl
        refine lv_goto (tgt := 13) hx hb d_T_copyOn_61 rfl ?_
        have hSq : SP = s_T_copyOn_cut13_2 F g v 2 := by rw [hSq0, s_T_copyOn_cut13_1]; try (rw [if_neg (by decide)]); try (rw [if_neg (by decide)]); try (rw [if_neg hc29]); all_goals rfl
        replace hl := lv_sub hl (l' := [(0, .ref h0), (1, .int 2), (2, .int 2)]) [1, 2, 0] rfl
        replace hP := hP.sub (ws' := [(h0, .inr (0, oT uT p9 a9 e9 n9 o9)), (a9, .inl (ca, 3, .inr (.inr (.inr (.inr (mo da)))))), (da 0, .inr (2, oD (F 0) (ra 0) (ka 0))), (ra 0, .inl (cr 0, 8, .inl (g 0))), (ka 0, .inl (ck 0, 32, .inl (v 0))), (da 1, .inr (2, oD (F 1) (ra 1) (ka 1))), (ra 1, .inl (cr 1, 8, .inl (g 1))), (ka 1, .inl (ck 1, 32, .inl (v 1))), (da 2, .inr (2, oD (F 2) (ra 2) (ka 2))), (ra 2, .inl (cr 2, 8, .inl (g 2))), (ka 2, .inl (ck 2, 32, .inl (v 2)))]) [0, 1, 2, 3, 4, 5, 6, 7, 8, 9, 10] rfl
        replace hD := hD.sub (ws' := [(h0, .inr (0, oT uT p9 a9 e9 n9 o9)), (a9, .inl (ca, 3, .inr (.inr (.inr (.inr (mo da)))))), (da 0, .inr (2, oD (F 0) (ra 0) (ka 0))), (ra 0, .inl (cr 0, 8, .inl (g 0))), (ka 0, .inl (ck 0, 32, .inl (v 0))), (da 1, .inr (2, oD (F 1) (ra 1) (ka 1))), (ra 1, .inl (cr 1, 8, .inl (g 1))), (ka 1, .inl (ck 1, 32, .inl (v 1))), (da 2, .inr (2, oD (F 2) (ra 2) (ka 2))), (ra 2, .inl (cr 2, 8, .inl (g 2))), (ka 2, .inl (ck 2, 32, .inl (v 2)))]) [0, 1, 2, 3, 4, 5, 6, 7, 8, 9, 10] (by decide) rfl
        exact cut13_2 F g v 2 _ _ _ hF hg (Or.inr (Or.inr ⟨rfl, hlo20⟩)) hSq hl hP hD hS
      · --  (F 1 8) = 1
        refine lv_aload_n hx hb d_T_copyOn_31 rfl (lv_at hl 0 rfl) ?_
        refine va_get (D := (dC, dI)) (ci := 0) (v := .ref a9) (C := "VotedTriple") (T := F_T) (N := 11) hx hb hw in_T hown hK hP 0 rfl rfl 1 (by decide) (hw _ k_195) (fun _ h9 => h9) rfl d_T_copyOn_32 ?_
        refine lv_iload_n hx hb d_T_copyOn_35 rfl (lv_at hl 2 rfl) ?_
        refine va_aldq hx hb hK hP 1 0 rfl rfl (by unfold vp_in; decide) d_T_copyOn_36 ?_
        refine W.eq (g2 := F0 m 37 ls [.ref (da 1)]) rfl ?_
        refine va_get (D := (dC, dI)) (ci := 2) (v := .int (F 1 15)) (C := "VotedTriple$VotedModule") (T := F_D) (N := 19) hx hb hw in_D hown hK hP 5 rfl rfl 15 (by decide) (hw _ k_157) (fun _ h9 => h9) rfl d_T_copyOn_37 ?_
        refine lv_if_ne (tgt := 58) hx hb d_T_copyOn_40 rfl (fun hc30 => ?_) (fun hc30 => ?_)
        · --  ¬ (F 1 15) = 0
          refine lv_iinc (k := 2) (v := 2) hx hb d_T_copyOn_58 hl rfl rfl (by decide) rfl (fun ls hl => ?_)
          replace hl : lv_has ls 3 [(2, .int 2), (0, .ref h0), (1, .int 2)] := hl
          refine lv_goto (tgt := 13) hx hb d_T_copyOn_61 rfl ?_
          have hSq : SP = s_T_copyOn_cut13_2 F g v 2 := by rw [hSq0, s_T_copyOn_cut13_1]; try (rw [if_neg (by decide)]); try (rw [if_neg (by decide)]); try (rw [if_pos hc29]); try (rw [if_neg hc30]); all_goals rfl
          replace hl := lv_sub hl (l' := [(0, .ref h0), (1, .int 2), (2, .int 2)]) [1, 2, 0] rfl
          replace hP := hP.sub (ws' := [(h0, .inr (0, oT uT p9 a9 e9 n9 o9)), (a9, .inl (ca, 3, .inr (.inr (.inr (.inr (mo da)))))), (da 0, .inr (2, oD (F 0) (ra 0) (ka 0))), (ra 0, .inl (cr 0, 8, .inl (g 0))), (ka 0, .inl (ck 0, 32, .inl (v 0))), (da 1, .inr (2, oD (F 1) (ra 1) (ka 1))), (ra 1, .inl (cr 1, 8, .inl (g 1))), (ka 1, .inl (ck 1, 32, .inl (v 1))), (da 2, .inr (2, oD (F 2) (ra 2) (ka 2))), (ra 2, .inl (cr 2, 8, .inl (g 2))), (ka 2, .inl (ck 2, 32, .inl (v 2)))]) [0, 1, 2, 3, 4, 5, 6, 7, 8, 9, 10] rfl
          replace hD := hD.sub (ws' := [(h0, .inr (0, oT uT p9 a9 e9 n9 o9)), (a9, .inl (ca, 3, .inr (.inr (.inr (.inr (mo da)))))), (da 0, .inr (2, oD (F 0) (ra 0) (ka 0))), (ra 0, .inl (cr 0, 8, .inl (g 0))), (ka 0, .inl (ck 0, 32, .inl (v 0))), (da 1, .inr (2, oD (F 1) (ra 1) (ka 1))), (ra 1, .inl (cr 1, 8, .inl (g 1))), (ka 1, .inl (ck 1, 32, .inl (v 1))), (da 2, .inr (2, oD (F 2) (ra 2) (ka 2))), (ra 2, .inl (cr 2, 8, .inl (g 2))), (ka 2, .inl (ck 2, 32, .inl (v 2)))]) [0, 1, 2, 3, 4, 5, 6, 7, 8, 9, 10] (by decide) rfl
          exact cut13_2 F g v 2 _ _ _ hF hg (Or.inr (Or.inr ⟨rfl, hlo20⟩)) hSq hl hP hD hS
        · --  (F 1 15) = 0
          refine lv_aload_n hx hb d_T_copyOn_43 rfl (lv_at hl 0 rfl) ?_
          refine va_get (D := (dC, dI)) (ci := 0) (v := .ref a9) (C := "VotedTriple") (T := F_T) (N := 11) hx hb hw in_T hown hK hP 0 rfl rfl 1 (by decide) (hw _ k_195) (fun _ h9 => h9) rfl d_T_copyOn_44 ?_
          refine lv_iload_n hx hb d_T_copyOn_47 rfl (lv_at hl 2 rfl) ?_
          refine va_aldq hx hb hK hP 1 0 rfl rfl (by unfold vp_in; decide) d_T_copyOn_48 ?_
          refine W.eq (g2 := F0 m 49 ls [.ref (da 1)]) rfl ?_
          refine lv_aload_n hx hb d_T_copyOn_49 rfl (lv_at hl 0 rfl) ?_
          refine va_get (D := (dC, dI)) (ci := 0) (v := .ref a9) (C := "VotedTriple") (T := F_T) (N := 11) hx hb hw in_T hown hK hP 0 rfl rfl 1 (by decide) (hw _ k_195) (fun _ h9 => h9) rfl d_T_copyOn_50 ?_
          refine lv_iload_n hx hb d_T_copyOn_53 rfl (lv_at hl 1 rfl) ?_
          refine va_aldq hx hb hK hP 1 0 rfl rfl (by unfold vp_in; decide) d_T_copyOn_54 ?_
          refine W.eq (g2 := F0 m 55 ls [.ref (da 2), .ref (da 1)]) rfl ?_
          replace hPc := hP.sub (ws' := [(da 1, .inr (2, oD (F 1) (ra 1) (ka 1))), (ra 1, .inl (cr 1, 8, .inl (g 1))), (ka 1, .inl (ck 1, 32, .inl (v 1))), (da 2, .inr (2, oD (F 2) (ra 2) (ka 2))), (ra 2, .inl (cr 2, 8, .inl (g 2))), (ka 2, .inl (ck 2, 32, .inl (v 2)))]) [5, 6, 7, 8, 9, 10] rfl
          replace hKc := hK.sub (tys' := [(cr 1, .int), (ck 1, .int), (cr 2, .int), (ck 2, .int)]) [3, 4, 5, 6] rfl
          replace hDc := hD.sub (ws' := [(da 1, .inr (2, oD (F 1) (ra 1) (ka 1))), (ra 1, .inl (cr 1, 8, .inl (g 1))), (ka 1, .inl (ck 1, 32, .inl (v 1))), (da 2, .inr (2, oD (F 2) (ra 2) (ka 2))), (ra 2, .inl (cr 2, 8, .inl (g 2))), (ka 2, .inl (ck 2, 32, .inl (v 2)))]) [5, 6, 7, 8, 9, 10] (by decide) rfl
          replace hFc := va_free (wc := [(da 1, .inr (2, oD (F 1) (ra 1) (ka 1))), (ra 1, .inl (cr 1, 8, .inl (g 1))), (ka 1, .inl (ck 1, 32, .inl (v 1))), (da 2, .inr (2, oD (F 2) (ra 2) (ka 2))), (ra 2, .inl (cr 2, 8, .inl (g 2))), (ka 2, .inl (ck 2, 32, .inl (v 2)))]) hD hS hA [5, 6, 7, 8, 9, 10] rfl
          refine va_callv (va_runV (C := "VotedTriple$VotedModule") (As := [.ref (da 2)]) (rest := []) ⟨hx, hb, hml, hown, hw⟩ (c_D_copyNextFrom l dC dI (da 1) (ra 1) (ka 1) (F 1) (cr 1) (g 1) (ck 1) (v 1) (da 2) (ra 2) (ka 2) (F 2) (cr 2) (g 2) (ck 2) (v 2) hF.2.1 hg.2.1 hF.2.2 hg.2.2 H.size) (cwV 1 hw (gdV (k_659) (k_656) (k_657) (k_658) (k_7)) rfl rfl rfl (by decide +kernel) ⟨Nat.le_of_ble_eq_true rfl, Nat.le_of_ble_eq_true rfl⟩) ⟨fun a U g mk q => by obtain ⟨q0, q1, qP, qK, qD⟩ := q; exact ⟨q0, q1, qP, va_K.moved (u := U) (U := U.calling g mk a) (Vm.Alike.refl U.vm) qK, qD⟩, va_recv hK hP rfl (q0 := 5) rfl, fun U hU hW => ⟨rfl, by rw [hU], by rw [hU]; exact hPc, va_K.moved hW.alike hKc, hDc.weaken (fun _ _ _ _ => trivial)⟩⟩ rfl rfl hl.1 rfl (lv_room (Nat.le_of_ble_eq_true rfl)) d_T_copyOn_55 ⟨Nat.le_of_ble_eq_true rfl, Nat.le_of_ble_eq_true rfl⟩) hS (fun q _ h => hFc q h) hFc (fun u9 t H1 locs ht hvm hr32 hB hz1 hk1 hS => ?_)
          obtain ⟨F533, g534, c535⟩ := u9
          obtain ⟨hP1, hK1, hD1⟩ := hB
          rw [ht] at hP1
          replace hK1 := va_K.moved hvm.symm hK1
          try dsimp only at hr32 hP1 hK1 hD1
          obtain ⟨hr32, hr32E⟩ := hr32
          obtain ⟨hPz, hDz⟩ := va_join (wr := [(h0, .inr (0, oT uT p9 a9 e9 n9 o9)), (a9, .inl (ca, 3, .inr (.inr (.inr (.inr (mo da)))))), (da 0, .inr (2, oD (F 0) (ra 0) (ka 0))), (ra 0, .inl (cr 0, 8, .inl (g 0))), (ka 0, .inl (ck 0, 32, .inl (v 0)))]) (w1 := [(da 1, .inr (2, oD F533 (ra 1) (ka 1))), (ra 1, .inl (cr 1, 8, .inl g534)), (ka 1, .inl (ck 1, 32, .inl c535)), (da 2, .inr (2, oD (F 2) (ra 2) (ka 2))), (ra 2, .inl (cr 2, 8, .inl (g 2))), (ka 2, .inl (ck 2, 32, .inl (v 2)))]) hP hD [5, 6, 7, 8, 9, 10] [0, 1, 2, 3, 4] rfl rfl (by decide) (by decide) hk1 hFc hP1 hD1
          clear hP hD hPc hDc hP1 hD1 hFc
          have hP := hPz
          have hD := hDz
          clear hPz hDz
          replace hK := (hK.sub (tys' := [(ca, .object "VotedTriple$VotedModule"), (cr 0, .int), (ck 0, .int)]) [0, 1, 2] rfl).app hK1
          clear hK1 hKc
          generalize H1 = H at hP hS ⊢
          replace hP : va_P (dC, dI) classes [(h0, .inr (0, oT uT p9 a9 e9 n9 o9)), (a9, .inl (ca, 3, .inr (.inr (.inr (.inr (mo da)))))), (da 0, .inr (2, oD (F 0) (ra 0) (ka 0))), (ra 0, .inl (cr 0, 8, .inl (g 0))), (ka 0, .inl (ck 0, 32, .inl (v 0))), (da 1, .inr (2, oD F533 (ra 1) (ka 1))), (ra 1, .inl (cr 1, 8, .inl g534)), (ka 1, .inl (ck 1, 32, .inl c535)), (da 2, .inr (2, oD (F 2) (ra 2) (ka 2))), (ra 2, .inl (cr 2, 8, .inl (g 2))), (ka 2, .inl (ck 2, 32, .inl (v 2)))] H := hP
          replace hD : va_D A [(h0, .inr (0, oT uT p9 a9 e9 n9 o9)), (a9, .inl (ca, 3, .inr (.inr (.inr (.inr (mo da)))))), (da 0, .inr (2, oD (F 0) (ra 0) (ka 0))), (ra 0, .inl (cr 0, 8, .inl (g 0))), (ka 0, .inl (ck 0, 32, .inl (v 0))), (da 1, .inr (2, oD F533 (ra 1) (ka 1))), (ra 1, .inl (cr 1, 8, .inl g534)), (ka 1, .inl (ck 1, 32, .inl c535)), (da 2, .inr (2, oD (F 2) (ra 2) (ka 2))), (ra 2, .inl (cr 2, 8, .inl (g 2))), (ka 2, .inl (ck 2, 32, .inl (v 2)))] := hD
          replace hK : va_K (dC, dI) classes [(ca, .object "VotedTriple$VotedModule"), (cr 0, .int), (ck 0, .int), (cr 1, .int), (ck 1, .int), (cr 2, .int), (ck 2, .int)] s := hK
          refine W.widen (k := 0) (n := 0) (Nat.le_of_ble_eq_true rfl) (Nat.le_of_ble_eq_true rfl) ?_
          refine lv_iinc (k := 2) (v := 2) hx hb d_T_copyOn_58 hl rfl rfl (by decide) rfl (fun ls hl => ?_)
          replace hl : lv_has ls 3 [(2, .int 2), (0, .ref h0), (1, .int 2)] := hl
          refine lv_goto (tgt := 13) hx hb d_T_copyOn_61 rfl ?_
          have hSq : SP = s_T_copyOn_cut13_2 (tri (F 0) F533 (F 2)) (tri (g 0) g534 (g 2)) (tri (v 0) c535 (v 2)) 2 := by rw [hSq0, s_T_copyOn_cut13_1]; try (rw [if_neg (by decide)]); try (rw [if_neg (by decide)]); try (rw [if_pos hc29]); try (rw [if_pos hc30]); try (rw [← hr32E, bnd_eq]); try dsimp only; all_goals rfl
          replace hl := lv_sub hl (l' := [(0, .ref h0), (1, .int 2), (2, .int 2)]) [1, 2, 0] rfl
          replace hP := hP.sub (ws' := [(h0, .inr (0, oT uT p9 a9 e9 n9 o9)), (a9, .inl (ca, 3, .inr (.inr (.inr (.inr (mo da)))))), (da 0, .inr (2, oD (tri (F 0) F533 (F 2) 0) (ra 0) (ka 0))), (ra 0, .inl (cr 0, 8, .inl (tri (g 0) g534 (g 2) 0))), (ka 0, .inl (ck 0, 32, .inl (tri (v 0) c535 (v 2) 0))), (da 1, .inr (2, oD (tri (F 0) F533 (F 2) 1) (ra 1) (ka 1))), (ra 1, .inl (cr 1, 8, .inl (tri (g 0) g534 (g 2) 1))), (ka 1, .inl (ck 1, 32, .inl (tri (v 0) c535 (v 2) 1))), (da 2, .inr (2, oD (tri (F 0) F533 (F 2) 2) (ra 2) (ka 2))), (ra 2, .inl (cr 2, 8, .inl (tri (g 0) g534 (g 2) 2))), (ka 2, .inl (ck 2, 32, .inl (tri (v 0) c535 (v 2) 2)))]) [0, 1, 2, 3, 4, 5, 6, 7, 8, 9, 10] rfl
          replace hD := hD.sub (ws' := [(h0, .inr (0, oT uT p9 a9 e9 n9 o9)), (a9, .inl (ca, 3, .inr (.inr (.inr (.inr (mo da)))))), (da 0, .inr (2, oD (tri (F 0) F533 (F 2) 0) (ra 0) (ka 0))), (ra 0, .inl (cr 0, 8, .inl (tri (g 0) g534 (g 2) 0))), (ka 0, .inl (ck 0, 32, .inl (tri (v 0) c535 (v 2) 0))), (da 1, .inr (2, oD (tri (F 0) F533 (F 2) 1) (ra 1) (ka 1))), (ra 1, .inl (cr 1, 8, .inl (tri (g 0) g534 (g 2) 1))), (ka 1, .inl (ck 1, 32, .inl (tri (v 0) c535 (v 2) 1))), (da 2, .inr (2, oD (tri (F 0) F533 (F 2) 2) (ra 2) (ka 2))), (ra 2, .inl (cr 2, 8, .inl (tri (g 0) g534 (g 2) 2))), (ka 2, .inl (ck 2, 32, .inl (tri (v 0) c535 (v 2) 2)))]) [0, 1, 2, 3, 4, 5, 6, 7, 8, 9, 10] (by decide) rfl
          exact cut13_2 (tri (F 0) F533 (F 2)) (tri (g 0) g534 (g 2)) (tri (v 0) c535 (v 2)) 2 _ _ _ (⟨hF.1, hr32.1, hF.2.2⟩) (⟨hg.1, hr32.2, hg.2.2⟩) (Or.inr (Or.inr ⟨rfl, hlo20⟩)) hSq hl hP hD hS
  have cut13_0 : ∀ (F : Nat → Nat → Int32) (g : Nat → Nat → Int32) (v : Nat → Nat → Int32) (w1 : Int32) (ls : Array Slot) (H : Heap) (locs : List Loc), f3 F → g3 g → ((w1 = 0 ∧ F 0 8 = 0) ∨ (w1 = 1 ∧ F 1 8 = 0) ∨ (w1 = 2 ∧ F 2 8 = 0)) → SP = s_T_copyOn_cut13_0 F g v w1 →  lv_has ls 3 [(0, .ref h0), (1, .int w1), (2, .int 0)] → va_P (dC, dI) classes [(h0, .inr (0, oT uT p9 a9 e9 n9 o9)), (a9, .inl (ca, 3, .inr (.inr (.inr (.inr (mo da)))))), (da 0, .inr (2, oD (F 0) (ra 0) (ka 0))), (ra 0, .inl (cr 0, 8, .inl (g 0))), (ka 0, .inl (ck 0, 32, .inl (v 0))), (da 1, .inr (2, oD (F 1) (ra 1) (ka 1))), (ra 1, .inl (cr 1, 8, .inl (g 1))), (ka 1, .inl (ck 1, 32, .inl (v 1))), (da 2, .inr (2, oD (F 2) (ra 2) (ka 2))), (ra 2, .inl (cr 2, 8, .inl (g 2))), (ka 2, .inl (ck 2, 32, .inl (v 2)))] H → va_D A [(h0, .inr (0, oT uT p9 a9 e9 n9 o9)), (a9, .inl (ca, 3, .inr (.inr (.inr (.inr (mo da)))))), (da 0, .inr (2, oD (F 0) (ra 0) (ka 0))), (ra 0, .inl (cr 0, 8, .inl (g 0))), (ka 0, .inl (ck 0, 32, .inl (v 0))), (da 1, .inr (2, oD (F 1) (ra 1) (ka 1))), (ra 1, .inl (cr 1, 8, .inl (g 1))), (ka 1, .inl (ck 1, 32, .inl (v 1))), (da 2, .inr (2, oD (F 2) (ra 2) (ka 2))), (ra 2, .inl (cr 2, 8, .inl (g 2))), (ka 2, .inl (ck 2, 32, .inl (v 2)))] → va_S A s.heap H locs → W p l e (headSpec (tbw y_T_copyOn b_T_copyOn 3 none) ({ frames := 2, cells := 0, slots := 0, locals := 41 })).room s m ([.ref h0] : List Value).toArray below meth c H locs 0 0 (MQ below (va_Qv (fun (u9 : (Nat → Nat → Int32) × (Nat → Nat → Int32) × (Nat → Nat → Int32)) => match u9 with | (F2, g2, v2) => (f3 F2 ∧ g3 g2) ∧ (F2, g2, v2) = SP) (fun (u9 : (Nat → Nat → Int32) × (Nat → Nat → Int32) × (Nat → Nat → Int32)) t => match u9 with | (F2, g2, v2) => va_P (dC, dI) classes [(h0, .inr (0, oT uT p9 a9 e9 n9 o9)), (a9, .inl (ca, 3, .inr (.inr (.inr (.inr (mo da)))))), (da 0, .inr (2, oD (F2 0) (ra 0) (ka 0))), (ra 0, .inl (cr 0, 8, .inl (g2 0))), (ka 0, .inl (ck 0, 32, .inl (v2 0))), (da 1, .inr (2, oD (F2 1) (ra 1) (ka 1))), (ra 1, .inl (cr 1, 8, .inl (g2 1))), (ka 1, .inl (ck 1, 32, .inl (v2 1))), (da 2, .inr (2, oD (F2 2) (ra 2) (ka 2))), (ra 2, .inl (cr 2, 8, .inl (g2 2))), (ka 2, .inl (ck 2, 32, .inl (v2 2)))] t.heap ∧ va_K (dC, dI) classes [(ca, .object "VotedTriple$VotedModule"), (cr 0, .int), (ck 0, .int), (cr 1, .int), (ck 1, .int), (cr 2, .int), (ck 2, .int)] t ∧ va_D A [(h0, .inr (0, oT uT p9 a9 e9 n9 o9)), (a9, .inl (ca, 3, .inr (.inr (.inr (.inr (mo da)))))), (da 0, .inr (2, oD (F2 0) (ra 0) (ka 0))), (ra 0, .inl (cr 0, 8, .inl (g2 0))), (ka 0, .inl (ck 0, 32, .inl (v2 0))), (da 1, .inr (2, oD (F2 1) (ra 1) (ka 1))), (ra 1, .inl (cr 1, 8, .inl (g2 1))), (ka 1, .inl (ck 1, 32, .inl (v2 1))), (da 2, .inr (2, oD (F2 2) (ra 2) (ka 2))), (ra 2, .inl (cr 2, 8, .inl (g2 2))), (ka 2, .inl (ck 2, 32, .inl (v2 2)))]) A) ([.ref h0] : List Value).toArray s 0 0 A) (F0 m 13 ls []) := by
    intro F g v w1 ls H locs hF hg h19 hSq0 hl hP hD hS
    clear cut13_3 cut13_2
    refine lv_iload_n hx hb d_T_copyOn_13 rfl (lv_at hl 2 rfl) ?_
    refine lv_iconst (v := 3) hx hb d_T_copyOn_14 (by decide) ?_
    refine lv_icmp_ge (tgt := 64) hx hb d_T_copyOn_15 rfl (fun hc36 => by first | exact absurd hc36 (by decide) | exact absurd (by decide) hc36) (fun hc36 => ?_)
    rcases h19 with ⟨rfl, hlo37⟩ | ⟨rfl, hlo37⟩ | ⟨rfl, hlo37⟩
    · --  0
      refine lv_aload_n hx hb d_T_copyOn_18 rfl (lv_at hl 0 rfl) ?_
      refine va_get (D := (dC, dI)) (ci := 0) (v := .ref a9) (C := "VotedTriple") (T := F_T) (N := 11) hx hb hw in_T hown hK hP 0 rfl rfl 1 (by decide) (hw _ k_195) (fun _ h9 => h9) rfl d_T_copyOn_19 ?_
      refine lv_iload_n hx hb d_T_copyOn_22 rfl (lv_at hl 2 rfl) ?_
      refine va_aldq hx hb hK hP 1 0 rfl rfl (by unfold vp_in; decide) d_T_copyOn_23 ?_
      refine W.eq (g2 := F0 m 24 ls [.ref (da 0)]) rfl ?_
      refine va_get (D := (dC, dI)) (ci := 2) (v := .int (F 0 8)) (C := "VotedTriple$VotedModule") (T := F_D) (N := 19) hx hb hw in_D hown hK hP 2 rfl rfl 8 (by decide) (hw _ k_143) (fun _ h9 => h9) rfl d_T_copyOn_24 ?_
      refine lv_iconst (v := 1) hx hb d_T_copyOn_27 (by decide) ?_
      refine lv_icmp_ne (tgt := 58) hx hb d_T_copyOn_28 rfl (fun hc38 => ?_) (fun hc38 => by first | exact absurd (by rw [hlo37]; decide) hc38 | exact absurd hc38 (by rw [hlo37]; decide))
      refine lv_iinc (k := 2) (v := 1) hx hb d_T_copyOn_58 hl rfl rfl (by decide) rfl (fun ls hl => ?_)
      replace hl : lv_has ls 3 [(2, .int 1), (0, .ref h0), (1, .int 0)] := hl
      refine lv_goto (tgt := 13) hx hb d_T_copyOn_61 rfl ?_
      have hSq : SP = s_T_copyOn_cut13_1 F g v 0 := by rw [hSq0, s_T_copyOn_cut13_0]; try (rw [if_pos rfl]); all_goals rfl
      replace hl := lv_sub hl (l' := [(0, .ref h0), (1, .int 0), (2, .int 1)]) [1, 2, 0] rfl
      replace hP := hP.sub (ws' := [(h0, .inr (0, oT uT p9 a9 e9 n9 o9)), (a9, .inl (ca, 3, .inr (.inr (.inr (.inr (mo da)))))), (da 0, .inr (2, oD (F 0) (ra 0) (ka 0))), (ra 0, .inl (cr 0, 8, .inl (g 0))), (ka 0, .inl (ck 0, 32, .inl (v 0))), (da 1, .inr (2, oD (F 1) (ra 1) (ka 1))), (ra 1, .inl (cr 1, 8, .inl (g 1))), (ka 1, .inl (ck 1, 32, .inl (v 1))), (da 2, .inr (2, oD (F 2) (ra 2) (ka 2))), (ra 2, .inl (cr 2, 8, .inl (g 2))), (ka 2, .inl (ck 2, 32, .inl (v 2)))]) [0, 1, 2, 3, 4, 5, 6, 7, 8, 9, 10] rfl
      replace hD := hD.sub (ws' := [(h0, .inr (0, oT uT p9 a9 e9 n9 o9)), (a9, .inl (ca, 3, .inr (.inr (.inr (.inr (mo da)))))), (da 0, .inr (2, oD (F 0) (ra 0) (ka 0))), (ra 0, .inl (cr 0, 8, .inl (g 0))), (ka 0, .inl (ck 0, 32, .inl (v 0))), (da 1, .inr (2, oD (F 1) (ra 1) (ka 1))), (ra 1, .inl (cr 1, 8, .inl (g 1))), (ka 1, .inl (ck 1, 32, .inl (v 1))), (da 2, .inr (2, oD (F 2) (ra 2) (ka 2))), (ra 2, .inl (cr 2, 8, .inl (g 2))), (ka 2, .inl (ck 2, 32, .inl (v 2)))]) [0, 1, 2, 3, 4, 5, 6, 7, 8, 9, 10] (by decide) rfl
      exact cut13_1 F g v 0 _ _ _ hF hg (Or.inl ⟨rfl, hlo37⟩) hSq hl hP hD hS
    · --  1
      refine lv_aload_n hx hb d_T_copyOn_18 rfl (lv_at hl 0 rfl) ?_
      refine va_get (D := (dC, dI)) (ci := 0) (v := .ref a9) (C := "VotedTriple") (T := F_T) (N := 11) hx hb hw in_T hown hK hP 0 rfl rfl 1 (by decide) (hw _ k_195) (fun _ h9 => h9) rfl d_T_copyOn_19 ?_
      refine lv_iload_n hx hb d_T_copyOn_22 rfl (lv_at hl 2 rfl) ?_
      refine va_aldq hx hb hK hP 1 0 rfl rfl (by unfold vp_in; decide) d_T_copyOn_23 ?_
      refine W.eq (g2 := F0 m 24 ls [.ref (da 0)]) rfl ?_
      refine va_get (D := (dC, dI)) (ci := 2) (v := .int (F 0 8)) (C := "VotedTriple$VotedModule") (T := F_D) (N := 19) hx hb hw in_D hown hK hP 2 rfl rfl 8 (by decide) (hw _ k_143) (fun _ h9 => h9) rfl d_T_copyOn_24 ?_
      refine lv_iconst (v := 1) hx hb d_T_copyOn_27 (by decide) ?_
      refine lv_icmp_ne (tgt := 58) hx hb d_T_copyOn_28 rfl (fun hc39 => ?_) (fun hc39 => ?_)
      · --  ¬ (F 0 8) = 1
        refine lv_iinc (k := 2) (v := 1) hx hb d_T_copyOn_58 hl rfl rfl (by decide) rfl (fun ls hl => ?_)
        replace hl : lv_has ls 3 [(2, .int 1), (0, .ref h0), (1, .int 1)] := hl
        refine lv_goto (tgt := 13) hx hb d_T_copyOn_61 rfl ?_
        have hSq : SP = s_T_copyOn_cut13_1 F g v 1 := by rw [hSq0, s_T_copyOn_cut13_0]; try (rw [if_neg (by decide)]); try (rw [if_pos rfl]); try (rw [if_neg hc39]); all_goals rfl
        replace hl := lv_sub hl (l' := [(0, .ref h0), (1, .int 1), (2, .int 1)]) [1, 2, 0] rfl
        replace hP := hP.sub (ws' := [(h0, .inr (0, oT uT p9 a9 e9 n9 o9)), (a9, .inl (ca, 3, .inr (.inr (.inr (.inr (mo da)))))), (da 0, .inr (2, oD (F 0) (ra 0) (ka 0))), (ra 0, .inl (cr 0, 8, .inl (g 0))), (ka 0, .inl (ck 0, 32, .inl (v 0))), (da 1, .inr (2, oD (F 1) (ra 1) (ka 1))), (ra 1, .inl (cr 1, 8, .inl (g 1))), (ka 1, .inl (ck 1, 32, .inl (v 1))), (da 2, .inr (2, oD (F 2) (ra 2) (ka 2))), (ra 2, .inl (cr 2, 8, .inl (g 2))), (ka 2, .inl (ck 2, 32, .inl (v 2)))]) [0, 1, 2, 3, 4, 5, 6, 7, 8, 9, 10] rfl
        replace hD := hD.sub (ws' := [(h0, .inr (0, oT uT p9 a9 e9 n9 o9)), (a9, .inl (ca, 3, .inr (.inr (.inr (.inr (mo da)))))), (da 0, .inr (2, oD (F 0) (ra 0) (ka 0))), (ra 0, .inl (cr 0, 8, .inl (g 0))), (ka 0, .inl (ck 0, 32, .inl (v 0))), (da 1, .inr (2, oD (F 1) (ra 1) (ka 1))), (ra 1, .inl (cr 1, 8, .inl (g 1))), (ka 1, .inl (ck 1, 32, .inl (v 1))), (da 2, .inr (2, oD (F 2) (ra 2) (ka 2))), (ra 2, .inl (cr 2, 8, .inl (g 2))), (ka 2, .inl (ck 2, 32, .inl (v 2)))]) [0, 1, 2, 3, 4, 5, 6, 7, 8, 9, 10] (by decide) rfl
        exact cut13_1 F g v 1 _ _ _ hF hg (Or.inr (Or.inl ⟨rfl, hlo37⟩)) hSq hl hP hD hS
      · --  (F 0 8) = 1
        refine lv_aload_n hx hb d_T_copyOn_31 rfl (lv_at hl 0 rfl) ?_
        refine va_get (D := (dC, dI)) (ci := 0) (v := .ref a9) (C := "VotedTriple") (T := F_T) (N := 11) hx hb hw in_T hown hK hP 0 rfl rfl 1 (by decide) (hw _ k_195) (fun _ h9 => h9) rfl d_T_copyOn_32 ?_
        refine lv_iload_n hx hb d_T_copyOn_35 rfl (lv_at hl 2 rfl) ?_
        refine va_aldq hx hb hK hP 1 0 rfl rfl (by unfold vp_in; decide) d_T_copyOn_36 ?_
        refine W.eq (g2 := F0 m 37 ls [.ref (da 0)]) rfl ?_
        refine va_get (D := (dC, dI)) (ci := 2) (v := .int (F 0 15)) (C := "VotedTriple$VotedModule") (T := F_D) (N := 19) hx hb hw in_D hown hK hP 2 rfl rfl 15 (by decide) (hw _ k_157) (fun _ h9 => h9) rfl d_T_copyOn_37 ?_
        refine lv_if_ne (tgt := 58) hx hb d_T_copyOn_40 rfl (fun hc40 => ?_) (fun hc40 => ?_)
        · --  ¬ (F 0 15) = 0
          refine lv_iinc (k := 2) (v := 1) hx hb d_T_copyOn_58 hl rfl rfl (by decide) rfl (fun ls hl => ?_)
          replace hl : lv_has ls 3 [(2, .int 1), (0, .ref h0), (1, .int 1)] := hl
          refine lv_goto (tgt := 13) hx hb d_T_copyOn_61 rfl ?_
          have hSq : SP = s_T_copyOn_cut13_1 F g v 1 := by rw [hSq0, s_T_copyOn_cut13_0]; try (rw [if_neg (by decide)]); try (rw [if_pos rfl]); try (rw [if_pos hc39]); try (rw [if_neg hc40]); all_goals rfl
          replace hl := lv_sub hl (l' := [(0, .ref h0), (1, .int 1), (2, .int 1)]) [1, 2, 0] rfl
          replace hP := hP.sub (ws' := [(h0, .inr (0, oT uT p9 a9 e9 n9 o9)), (a9, .inl (ca, 3, .inr (.inr (.inr (.inr (mo da)))))), (da 0, .inr (2, oD (F 0) (ra 0) (ka 0))), (ra 0, .inl (cr 0, 8, .inl (g 0))), (ka 0, .inl (ck 0, 32, .inl (v 0))), (da 1, .inr (2, oD (F 1) (ra 1) (ka 1))), (ra 1, .inl (cr 1, 8, .inl (g 1))), (ka 1, .inl (ck 1, 32, .inl (v 1))), (da 2, .inr (2, oD (F 2) (ra 2) (ka 2))), (ra 2, .inl (cr 2, 8, .inl (g 2))), (ka 2, .inl (ck 2, 32, .inl (v 2)))]) [0, 1, 2, 3, 4, 5, 6, 7, 8, 9, 10] rfl
          replace hD := hD.sub (ws' := [(h0, .inr (0, oT uT p9 a9 e9 n9 o9)), (a9, .inl (ca, 3, .inr (.inr (.inr (.inr (mo da)))))), (da 0, .inr (2, oD (F 0) (ra 0) (ka 0))), (ra 0, .inl (cr 0, 8, .inl (g 0))), (ka 0, .inl (ck 0, 32, .inl (v 0))), (da 1, .inr (2, oD (F 1) (ra 1) (ka 1))), (ra 1, .inl (cr 1, 8, .inl (g 1))), (ka 1, .inl (ck 1, 32, .inl (v 1))), (da 2, .inr (2, oD (F 2) (ra 2) (ka 2))), (ra 2, .inl (cr 2, 8, .inl (g 2))), (ka 2, .inl (ck 2, 32, .inl (v 2)))]) [0, 1, 2, 3, 4, 5, 6, 7, 8, 9, 10] (by decide) rfl
          exact cut13_1 F g v 1 _ _ _ hF hg (Or.inr (Or.inl ⟨rfl, hlo37⟩)) hSq hl hP hD hS
        · --  (F 0 15) = 0
          refine lv_aload_n hx hb d_T_copyOn_43 rfl (lv_at hl 0 rfl) ?_
          refine va_get (D := (dC, dI)) (ci := 0) (v := .ref a9) (C := "VotedTriple") (T := F_T) (N := 11) hx hb hw in_T hown hK hP 0 rfl rfl 1 (by decide) (hw _ k_195) (fun _ h9 => h9) rfl d_T_copyOn_44 ?_
          refine lv_iload_n hx hb d_T_copyOn_47 rfl (lv_at hl 2 rfl) ?_
          refine va_aldq hx hb hK hP 1 0 rfl rfl (by unfold vp_in; decide) d_T_copyOn_48 ?_
          refine W.eq (g2 := F0 m 49 ls [.ref (da 0)]) rfl ?_
          refine lv_aload_n hx hb d_T_copyOn_49 rfl (lv_at hl 0 rfl) ?_
          refine va_get (D := (dC, dI)) (ci := 0) (v := .ref a9) (C := "VotedTriple") (T := F_T) (N := 11) hx hb hw in_T hown hK hP 0 rfl rfl 1 (by decide) (hw _ k_195) (fun _ h9 => h9) rfl d_T_copyOn_50 ?_
          refine lv_iload_n hx hb d_T_copyOn_53 rfl (lv_at hl 1 rfl) ?_
          refine va_aldq hx hb hK hP 1 0 rfl rfl (by unfold vp_in; decide) d_T_copyOn_54 ?_
          refine W.eq (g2 := F0 m 55 ls [.ref (da 1), .ref (da 0)]) rfl ?_
          replace hPc := hP.sub (ws' := [(da 0, .inr (2, oD (F 0) (ra 0) (ka 0))), (ra 0, .inl (cr 0, 8, .inl (g 0))), (ka 0, .inl (ck 0, 32, .inl (v 0))), (da 1, .inr (2, oD (F 1) (ra 1) (ka 1))), (ra 1, .inl (cr 1, 8, .inl (g 1))), (ka 1, .inl (ck 1, 32, .inl (v 1)))]) [2, 3, 4, 5, 6, 7] rfl
          replace hKc := hK.sub (tys' := [(cr 0, .int), (ck 0, .int), (cr 1, .int), (ck 1, .int)]) [1, 2, 3, 4] rfl
          replace hDc := hD.sub (ws' := [(da 0, .inr (2, oD (F 0) (ra 0) (ka 0))), (ra 0, .inl (cr 0, 8, .inl (g 0))), (ka 0, .inl (ck 0, 32, .inl (v 0))), (da 1, .inr (2, oD (F 1) (ra 1) (ka 1))), (ra 1, .inl (cr 1, 8, .inl (g 1))), (ka 1, .inl (ck 1, 32, .inl (v 1)))]) [2, 3, 4, 5, 6, 7] (by decide) rfl
          replace hFc := va_free (wc := [(da 0, .inr (2, oD (F 0) (ra 0) (ka 0))), (ra 0, .inl (cr 0, 8, .inl (g 0))), (ka 0, .inl (ck 0, 32, .inl (v 0))), (da 1, .inr (2, oD (F 1) (ra 1) (ka 1))), (ra 1, .inl (cr 1, 8, .inl (g 1))), (ka 1, .inl (ck 1, 32, .inl (v 1)))]) hD hS hA [2, 3, 4, 5, 6, 7] rfl
          refine va_callv (va_runV (C := "VotedTriple$VotedModule") (As := [.ref (da 1)]) (rest := []) ⟨hx, hb, hml, hown, hw⟩ (c_D_copyNextFrom l dC dI (da 0) (ra 0) (ka 0) (F 0) (cr 0) (g 0) (ck 0) (v 0) (da 1) (ra 1) (ka 1) (F 1) (cr 1) (g 1) (ck 1) (v 1) hF.1 hg.1 hF.2.1 hg.2.1 H.size) (cwV 1 hw (gdV (k_659) (k_656) (k_657) (k_658) (k_7)) rfl rfl rfl (by decide +kernel) ⟨Nat.le_of_ble_eq_true rfl, Nat.le_of_ble_eq_true rfl⟩) ⟨fun a U g mk q => by obtain ⟨q0, q1, qP, qK, qD⟩ := q; exact ⟨q0, q1, qP, va_K.moved (u := U) (U := U.calling g mk a) (Vm.Alike.refl U.vm) qK, qD⟩, va_recv hK hP rfl (q0 := 2) rfl, fun U hU hW => ⟨rfl, by rw [hU], by rw [hU]; exact hPc, va_K.moved hW.alike hKc, hDc.weaken (fun _ _ _ _ => trivial)⟩⟩ rfl rfl hl.1 rfl (lv_room (Nat.le_of_ble_eq_true rfl)) d_T_copyOn_55 ⟨Nat.le_of_ble_eq_true rfl, Nat.le_of_ble_eq_true rfl⟩) hS (fun q _ h => hFc q h) hFc (fun u9 t H1 locs ht hvm hr42 hB hz1 hk1 hS => ?_)
          obtain ⟨F543, g544, c545⟩ := u9
          obtain ⟨hP1, hK1, hD1⟩ := hB
          rw [ht] at hP1
          replace hK1 := va_K.moved hvm.symm hK1
          try dsimp only at hr42 hP1 hK1 hD1
          obtain ⟨hr42, hr42E⟩ := hr42
          obtain ⟨hPz, hDz⟩ := va_join (wr := [(h0, .inr (0, oT uT p9 a9 e9 n9 o9)), (a9, .inl (ca, 3, .inr (.inr (.inr (.inr (mo da)))))), (da 2, .inr (2, oD (F 2) (ra 2) (ka 2))), (ra 2, .inl (cr 2, 8, .inl (g 2))), (ka 2, .inl (ck 2, 32, .inl (v 2)))]) (w1 := [(da 0, .inr (2, oD F543 (ra 0) (ka 0))), (ra 0, .inl (cr 0, 8, .inl g544)), (ka 0, .inl (ck 0, 32, .inl c545)), (da 1, .inr (2, oD (F 1) (ra 1) (ka 1))), (ra 1, .inl (cr 1, 8, .inl (g 1))), (ka 1, .inl (ck 1, 32, .inl (v 1)))]) hP hD [2, 3, 4, 5, 6, 7] [0, 1, 8, 9, 10] rfl rfl (by decide) (by decide) hk1 hFc hP1 hD1
          clear hP hD hPc hDc hP1 hD1 hFc
          have hP := hPz
          have hD := hDz
          clear hPz hDz
          replace hK := (hK.sub (tys' := [(ca, .object "VotedTriple$VotedModule"), (cr 2, .int), (ck 2, .int)]) [0, 5, 6] rfl).app hK1
          clear hK1 hKc
          generalize H1 = H at hP hS ⊢
          replace hP : va_P (dC, dI) classes [(h0, .inr (0, oT uT p9 a9 e9 n9 o9)), (a9, .inl (ca, 3, .inr (.inr (.inr (.inr (mo da)))))), (da 2, .inr (2, oD (F 2) (ra 2) (ka 2))), (ra 2, .inl (cr 2, 8, .inl (g 2))), (ka 2, .inl (ck 2, 32, .inl (v 2))), (da 0, .inr (2, oD F543 (ra 0) (ka 0))), (ra 0, .inl (cr 0, 8, .inl g544)), (ka 0, .inl (ck 0, 32, .inl c545)), (da 1, .inr (2, oD (F 1) (ra 1) (ka 1))), (ra 1, .inl (cr 1, 8, .inl (g 1))), (ka 1, .inl (ck 1, 32, .inl (v 1)))] H := hP
          replace hD : va_D A [(h0, .inr (0, oT uT p9 a9 e9 n9 o9)), (a9, .inl (ca, 3, .inr (.inr (.inr (.inr (mo da)))))), (da 2, .inr (2, oD (F 2) (ra 2) (ka 2))), (ra 2, .inl (cr 2, 8, .inl (g 2))), (ka 2, .inl (ck 2, 32, .inl (v 2))), (da 0, .inr (2, oD F543 (ra 0) (ka 0))), (ra 0, .inl (cr 0, 8, .inl g544)), (ka 0, .inl (ck 0, 32, .inl c545)), (da 1, .inr (2, oD (F 1) (ra 1) (ka 1))), (ra 1, .inl (cr 1, 8, .inl (g 1))), (ka 1, .inl (ck 1, 32, .inl (v 1)))] := hD
          replace hK : va_K (dC, dI) classes [(ca, .object "VotedTriple$VotedModule"), (cr 2, .int), (ck 2, .int), (cr 0, .int), (ck 0, .int), (cr 1, .int), (ck 1, .int)] s := hK
          refine W.widen (k := 0) (n := 0) (Nat.le_of_ble_eq_true rfl) (Nat.le_of_ble_eq_true rfl) ?_
          refine lv_iinc (k := 2) (v := 1) hx hb d_T_copyOn_58 hl rfl rfl (by decide) rfl (fun ls hl => ?_)
          replace hl : lv_has ls 3 [(2, .int 1), (0, .ref h0), (1, .int 1)] := hl
          refine lv_goto (tgt := 13) hx hb d_T_copyOn_61 rfl ?_
          have hSq : SP = s_T_copyOn_cut13_1 (tri F543 (F 1) (F 2)) (tri g544 (g 1) (g 2)) (tri c545 (v 1) (v 2)) 1 := by rw [hSq0, s_T_copyOn_cut13_0]; try (rw [if_neg (by decide)]); try (rw [if_pos rfl]); try (rw [if_pos hc39]); try (rw [if_pos hc40]); try (rw [← hr42E, bnd_eq]); try dsimp only; all_goals rfl
          replace hl := lv_sub hl (l' := [(0, .ref h0), (1, .int 1), (2, .int 1)]) [1, 2, 0] rfl
          replace hP := hP.sub (ws' := [(h0, .inr (0, oT uT p9 a9 e9 n9 o9)), (a9, .inl (ca, 3, .inr (.inr (.inr (.inr (mo da)))))), (da 0, .inr (2, oD (tri F543 (F 1) (F 2) 0) (ra 0) (ka 0))), (ra 0, .inl (cr 0, 8, .inl (tri g544 (g 1) (g 2) 0))), (ka 0, .inl (ck 0, 32, .inl (tri c545 (v 1) (v 2) 0))), (da 1, .inr (2, oD (tri F543 (F 1) (F 2) 1) (ra 1) (ka 1))), (ra 1, .inl (cr 1, 8, .inl (tri g544 (g 1) (g 2) 1))), (ka 1, .inl (ck 1, 32, .inl (tri c545 (v 1) (v 2) 1))), (da 2, .inr (2, oD (tri F543 (F 1) (F 2) 2) (ra 2) (ka 2))), (ra 2, .inl (cr 2, 8, .inl (tri g544 (g 1) (g 2) 2))), (ka 2, .inl (ck 2, 32, .inl (tri c545 (v 1) (v 2) 2)))]) [0, 1, 5, 6, 7, 8, 9, 10, 2, 3, 4] rfl
          replace hD := hD.sub (ws' := [(h0, .inr (0, oT uT p9 a9 e9 n9 o9)), (a9, .inl (ca, 3, .inr (.inr (.inr (.inr (mo da)))))), (da 0, .inr (2, oD (tri F543 (F 1) (F 2) 0) (ra 0) (ka 0))), (ra 0, .inl (cr 0, 8, .inl (tri g544 (g 1) (g 2) 0))), (ka 0, .inl (ck 0, 32, .inl (tri c545 (v 1) (v 2) 0))), (da 1, .inr (2, oD (tri F543 (F 1) (F 2) 1) (ra 1) (ka 1))), (ra 1, .inl (cr 1, 8, .inl (tri g544 (g 1) (g 2) 1))), (ka 1, .inl (ck 1, 32, .inl (tri c545 (v 1) (v 2) 1))), (da 2, .inr (2, oD (tri F543 (F 1) (F 2) 2) (ra 2) (ka 2))), (ra 2, .inl (cr 2, 8, .inl (tri g544 (g 1) (g 2) 2))), (ka 2, .inl (ck 2, 32, .inl (tri c545 (v 1) (v 2) 2)))]) [0, 1, 5, 6, 7, 8, 9, 10, 2, 3, 4] (by decide) rfl
          exact cut13_1 (tri F543 (F 1) (F 2)) (tri g544 (g 1) (g 2)) (tri c545 (v 1) (v 2)) 1 _ _ _ (⟨hr42.1, hF.2.1, hF.2.2⟩) (⟨hr42.2, hg.2.1, hg.2.2⟩) (Or.inr (Or.inl ⟨rfl, hlo37⟩)) hSq hl hP hD hS
    · --  2
      refine lv_aload_n hx hb d_T_copyOn_18 rfl (lv_at hl 0 rfl) ?_
      refine va_get (D := (dC, dI)) (ci := 0) (v := .ref a9) (C := "VotedTriple") (T := F_T) (N := 11) hx hb hw in_T hown hK hP 0 rfl rfl 1 (by decide) (hw _ k_195) (fun _ h9 => h9) rfl d_T_copyOn_19 ?_
      refine lv_iload_n hx hb d_T_copyOn_22 rfl (lv_at hl 2 rfl) ?_
      refine va_aldq hx hb hK hP 1 0 rfl rfl (by unfold vp_in; decide) d_T_copyOn_23 ?_
      refine W.eq (g2 := F0 m 24 ls [.ref (da 0)]) rfl ?_
      refine va_get (D := (dC, dI)) (ci := 2) (v := .int (F 0 8)) (C := "VotedTriple$VotedModule") (T := F_D) (N := 19) hx hb hw in_D hown hK hP 2 rfl rfl 8 (by decide) (hw _ k_143) (fun _ h9 => h9) rfl d_T_copyOn_24 ?_
      refine lv_iconst (v := 1) hx hb d_T_copyOn_27 (by decide) ?_
      refine lv_icmp_ne (tgt := 58) hx hb d_T_copyOn_28 rfl (fun hc46 => ?_) (fun hc46 => ?_)
      · --  ¬ (F 0 8) = 1
        refine lv_iinc (k := 2) (v := 1) hx hb d_T_copyOn_58 hl rfl rfl (by decide) rfl (fun ls hl => ?_)
        replace hl : lv_has ls 3 [(2, .int 1), (0, .ref h0), (1, .int 2)] := hl
        refine lv_goto (tgt := 13) hx hb d_T_copyOn_61 rfl ?_
        have hSq : SP = s_T_copyOn_cut13_1 F g v 2 := by rw [hSq0, s_T_copyOn_cut13_0]; try (rw [if_neg (by decide)]); try (rw [if_neg (by decide)]); try (rw [if_neg hc46]); all_goals rfl
        replace hl := lv_sub hl (l' := [(0, .ref h0), (1, .int 2), (2, .int 1)]) [1, 2, 0] rfl
        replace hP := hP.sub (ws' := [(h0, .inr (0, oT uT p9 a9 e9 n9 o9)), (a9, .inl (ca, 3, .inr (.inr (.inr (.inr (mo da)))))), (da 0, .inr (2, oD (F 0) (ra 0) (ka 0))), (ra 0, .inl (cr 0, 8, .inl (g 0))), (ka 0, .inl (ck 0, 32, .inl (v 0))), (da 1, .inr (2, oD (F 1) (ra 1) (ka 1))), (ra 1, .inl (cr 1, 8, .inl (g 1))), (ka 1, .inl (ck 1, 32, .inl (v 1))), (da 2, .inr (2, oD (F 2) (ra 2) (ka 2))), (ra 2, .inl (cr 2, 8, .inl (g 2))), (ka 2, .inl (ck 2, 32, .inl (v 2)))]) [0, 1, 2, 3, 4, 5, 6, 7, 8, 9, 10] rfl
        replace hD := hD.sub (ws' := [(h0, .inr (0, oT uT p9 a9 e9 n9 o9)), (a9, .inl (ca, 3, .inr (.inr (.inr (.inr (mo da)))))), (da 0, .inr (2, oD (F 0) (ra 0) (ka 0))), (ra 0, .inl (cr 0, 8, .inl (g 0))), (ka 0, .inl (ck 0, 32, .inl (v 0))), (da 1, .inr (2, oD (F 1) (ra 1) (ka 1))), (ra 1, .inl (cr 1, 8, .inl (g 1))), (ka 1, .inl (ck 1, 32, .inl (v 1))), (da 2, .inr (2, oD (F 2) (ra 2) (ka 2))), (ra 2, .inl (cr 2, 8, .inl (g 2))), (ka 2, .inl (ck 2, 32, .inl (v 2)))]) [0, 1, 2, 3, 4, 5, 6, 7, 8, 9, 10] (by decide) rfl
        exact cut13_1 F g v 2 _ _ _ hF hg (Or.inr (Or.inr ⟨rfl, hlo37⟩)) hSq hl hP hD hS
      · --  (F 0 8) = 1
        refine lv_aload_n hx hb d_T_copyOn_31 rfl (lv_at hl 0 rfl) ?_
        refine va_get (D := (dC, dI)) (ci := 0) (v := .ref a9) (C := "VotedTriple") (T := F_T) (N := 11) hx hb hw in_T hown hK hP 0 rfl rfl 1 (by decide) (hw _ k_195) (fun _ h9 => h9) rfl d_T_copyOn_32 ?_
        refine lv_iload_n hx hb d_T_copyOn_35 rfl (lv_at hl 2 rfl) ?_
        refine va_aldq hx hb hK hP 1 0 rfl rfl (by unfold vp_in; decide) d_T_copyOn_36 ?_
        refine W.eq (g2 := F0 m 37 ls [.ref (da 0)]) rfl ?_
        refine va_get (D := (dC, dI)) (ci := 2) (v := .int (F 0 15)) (C := "VotedTriple$VotedModule") (T := F_D) (N := 19) hx hb hw in_D hown hK hP 2 rfl rfl 15 (by decide) (hw _ k_157) (fun _ h9 => h9) rfl d_T_copyOn_37 ?_
        refine lv_if_ne (tgt := 58) hx hb d_T_copyOn_40 rfl (fun hc47 => ?_) (fun hc47 => ?_)
        · --  ¬ (F 0 15) = 0
          refine lv_iinc (k := 2) (v := 1) hx hb d_T_copyOn_58 hl rfl rfl (by decide) rfl (fun ls hl => ?_)
          replace hl : lv_has ls 3 [(2, .int 1), (0, .ref h0), (1, .int 2)] := hl
          refine lv_goto (tgt := 13) hx hb d_T_copyOn_61 rfl ?_
          have hSq : SP = s_T_copyOn_cut13_1 F g v 2 := by rw [hSq0, s_T_copyOn_cut13_0]; try (rw [if_neg (by decide)]); try (rw [if_neg (by decide)]); try (rw [if_pos hc46]); try (rw [if_neg hc47]); all_goals rfl
          replace hl := lv_sub hl (l' := [(0, .ref h0), (1, .int 2), (2, .int 1)]) [1, 2, 0] rfl
          replace hP := hP.sub (ws' := [(h0, .inr (0, oT uT p9 a9 e9 n9 o9)), (a9, .inl (ca, 3, .inr (.inr (.inr (.inr (mo da)))))), (da 0, .inr (2, oD (F 0) (ra 0) (ka 0))), (ra 0, .inl (cr 0, 8, .inl (g 0))), (ka 0, .inl (ck 0, 32, .inl (v 0))), (da 1, .inr (2, oD (F 1) (ra 1) (ka 1))), (ra 1, .inl (cr 1, 8, .inl (g 1))), (ka 1, .inl (ck 1, 32, .inl (v 1))), (da 2, .inr (2, oD (F 2) (ra 2) (ka 2))), (ra 2, .inl (cr 2, 8, .inl (g 2))), (ka 2, .inl (ck 2, 32, .inl (v 2)))]) [0, 1, 2, 3, 4, 5, 6, 7, 8, 9, 10] rfl
          replace hD := hD.sub (ws' := [(h0, .inr (0, oT uT p9 a9 e9 n9 o9)), (a9, .inl (ca, 3, .inr (.inr (.inr (.inr (mo da)))))), (da 0, .inr (2, oD (F 0) (ra 0) (ka 0))), (ra 0, .inl (cr 0, 8, .inl (g 0))), (ka 0, .inl (ck 0, 32, .inl (v 0))), (da 1, .inr (2, oD (F 1) (ra 1) (ka 1))), (ra 1, .inl (cr 1, 8, .inl (g 1))), (ka 1, .inl (ck 1, 32, .inl (v 1))), (da 2, .inr (2, oD (F 2) (ra 2) (ka 2))), (ra 2, .inl (cr 2, 8, .inl (g 2))), (ka 2, .inl (ck 2, 32, .inl (v 2)))]) [0, 1, 2, 3, 4, 5, 6, 7, 8, 9, 10] (by decide) rfl
          exact cut13_1 F g v 2 _ _ _ hF hg (Or.inr (Or.inr ⟨rfl, hlo37⟩)) hSq hl hP hD hS
        · --  (F 0 15) = 0
          refine lv_aload_n hx hb d_T_copyOn_43 rfl (lv_at hl 0 rfl) ?_
          refine va_get (D := (dC, dI)) (ci := 0) (v := .ref a9) (C := "VotedTriple") (T := F_T) (N := 11) hx hb hw in_T hown hK hP 0 rfl rfl 1 (by decide) (hw _ k_195) (fun _ h9 => h9) rfl d_T_copyOn_44 ?_
          refine lv_iload_n hx hb d_T_copyOn_47 rfl (lv_at hl 2 rfl) ?_
          refine va_aldq hx hb hK hP 1 0 rfl rfl (by unfold vp_in; decide) d_T_copyOn_48 ?_
          refine W.eq (g2 := F0 m 49 ls [.ref (da 0)]) rfl ?_
          refine lv_aload_n hx hb d_T_copyOn_49 rfl (lv_at hl 0 rfl) ?_
          refine va_get (D := (dC, dI)) (ci := 0) (v := .ref a9) (C := "VotedTriple") (T := F_T) (N := 11) hx hb hw in_T hown hK hP 0 rfl rfl 1 (by decide) (hw _ k_195) (fun _ h9 => h9) rfl d_T_copyOn_50 ?_
          refine lv_iload_n hx hb d_T_copyOn_53 rfl (lv_at hl 1 rfl) ?_
          refine va_aldq hx hb hK hP 1 0 rfl rfl (by unfold vp_in; decide) d_T_copyOn_54 ?_
          refine W.eq (g2 := F0 m 55 ls [.ref (da 2), .ref (da 0)]) rfl ?_
          replace hPc := hP.sub (ws' := [(da 0, .inr (2, oD (F 0) (ra 0) (ka 0))), (ra 0, .inl (cr 0, 8, .inl (g 0))), (ka 0, .inl (ck 0, 32, .inl (v 0))), (da 2, .inr (2, oD (F 2) (ra 2) (ka 2))), (ra 2, .inl (cr 2, 8, .inl (g 2))), (ka 2, .inl (ck 2, 32, .inl (v 2)))]) [2, 3, 4, 8, 9, 10] rfl
          replace hKc := hK.sub (tys' := [(cr 0, .int), (ck 0, .int), (cr 2, .int), (ck 2, .int)]) [1, 2, 5, 6] rfl
          replace hDc := hD.sub (ws' := [(da 0, .inr (2, oD (F 0) (ra 0) (ka 0))), (ra 0, .inl (cr 0, 8, .inl (g 0))), (ka 0, .inl (ck 0, 32, .inl (v 0))), (da 2, .inr (2, oD (F 2) (ra 2) (ka 2))), (ra 2, .inl (cr 2, 8, .inl (g 2))), (ka 2, .inl (ck 2, 32, .inl (v 2)))]) [2, 3, 4, 8, 9, 10] (by decide) rfl
          replace hFc := va_free (wc := [(da 0, .inr (2, oD (F 0) (ra 0) (ka 0))), (ra 0, .inl (cr 0, 8, .inl (g 0))), (ka 0, .inl (ck 0, 32, .inl (v 0))), (da 2, .inr (2, oD (F 2) (ra 2) (ka 2))), (ra 2, .inl (cr 2, 8, .inl (g 2))), (ka 2, .inl (ck 2, 32, .inl (v 2)))]) hD hS hA [2, 3, 4, 8, 9, 10] rfl
          refine va_callv (va_runV (C := "VotedTriple$VotedModule") (As := [.ref (da 2)]) (rest := []) ⟨hx, hb, hml, hown, hw⟩ (c_D_copyNextFrom l dC dI (da 0) (ra 0) (ka 0) (F 0) (cr 0) (g 0) (ck 0) (v 0) (da 2) (ra 2) (ka 2) (F 2) (cr 2) (g 2) (ck 2) (v 2) hF.1 hg.1 hF.2.2 hg.2.2 H.size) (cwV 1 hw (gdV (k_659) (k_656) (k_657) (k_658) (k_7)) rfl rfl rfl (by decide +kernel) ⟨Nat.le_of_ble_eq_true rfl, Nat.le_of_ble_eq_true rfl⟩) ⟨fun a U g mk q => by obtain ⟨q0, q1, qP, qK, qD⟩ := q; exact ⟨q0, q1, qP, va_K.moved (u := U) (U := U.calling g mk a) (Vm.Alike.refl U.vm) qK, qD⟩, va_recv hK hP rfl (q0 := 2) rfl, fun U hU hW => ⟨rfl, by rw [hU], by rw [hU]; exact hPc, va_K.moved hW.alike hKc, hDc.weaken (fun _ _ _ _ => trivial)⟩⟩ rfl rfl hl.1 rfl (lv_room (Nat.le_of_ble_eq_true rfl)) d_T_copyOn_55 ⟨Nat.le_of_ble_eq_true rfl, Nat.le_of_ble_eq_true rfl⟩) hS (fun q _ h => hFc q h) hFc (fun u9 t H1 locs ht hvm hr49 hB hz1 hk1 hS => ?_)
          obtain ⟨F550, g551, c552⟩ := u9
          obtain ⟨hP1, hK1, hD1⟩ := hB
          rw [ht] at hP1
          replace hK1 := va_K.moved hvm.symm hK1
          try dsimp only at hr49 hP1 hK1 hD1
          obtain ⟨hr49, hr49E⟩ := hr49
          obtain ⟨hPz, hDz⟩ := va_join (wr := [(h0, .inr (0, oT uT p9 a9 e9 n9 o9)), (a9, .inl (ca, 3, .inr (.inr (.inr (.inr (mo da)))))), (da 1, .inr (2, oD (F 1) (ra 1) (ka 1))), (ra 1, .inl (cr 1, 8, .inl (g 1))), (ka 1, .inl (ck 1, 32, .inl (v 1)))]) (w1 := [(da 0, .inr (2, oD F550 (ra 0) (ka 0))), (ra 0, .inl (cr 0, 8, .inl g551)), (ka 0, .inl (ck 0, 32, .inl c552)), (da 2, .inr (2, oD (F 2) (ra 2) (ka 2))), (ra 2, .inl (cr 2, 8, .inl (g 2))), (ka 2, .inl (ck 2, 32, .inl (v 2)))]) hP hD [2, 3, 4, 8, 9, 10] [0, 1, 5, 6, 7] rfl rfl (by decide) (by decide) hk1 hFc hP1 hD1
          clear hP hD hPc hDc hP1 hD1 hFc
          have hP := hPz
          have hD := hDz
          clear hPz hDz
          replace hK := (hK.sub (tys' := [(ca, .object "VotedTriple$VotedModule"), (cr 1, .int), (ck 1, .int)]) [0, 3, 4] rfl).app hK1
          clear hK1 hKc
          generalize H1 = H at hP hS ⊢
          replace hP : va_P (dC, dI) classes [(h0, .inr (0, oT uT p9 a9 e9 n9 o9)), (a9, .inl (ca, 3, .inr (.inr (.inr (.inr (mo da)))))), (da 1, .inr (2, oD (F 1) (ra 1) (ka 1))), (ra 1, .inl (cr 1, 8, .inl (g 1))), (ka 1, .inl (ck 1, 32, .inl (v 1))), (da 0, .inr (2, oD F550 (ra 0) (ka 0))), (ra 0, .inl (cr 0, 8, .inl g551)), (ka 0, .inl (ck 0, 32, .inl c552)), (da 2, .inr (2, oD (F 2) (ra 2) (ka 2))), (ra 2, .inl (cr 2, 8, .inl (g 2))), (ka 2, .inl (ck 2, 32, .inl (v 2)))] H := hP
          replace hD : va_D A [(h0, .inr (0, oT uT p9 a9 e9 n9 o9)), (a9, .inl (ca, 3, .inr (.inr (.inr (.inr (mo da)))))), (da 1, .inr (2, oD (F 1) (ra 1) (ka 1))), (ra 1, .inl (cr 1, 8, .inl (g 1))), (ka 1, .inl (ck 1, 32, .inl (v 1))), (da 0, .inr (2, oD F550 (ra 0) (ka 0))), (ra 0, .inl (cr 0, 8, .inl g551)), (ka 0, .inl (ck 0, 32, .inl c552)), (da 2, .inr (2, oD (F 2) (ra 2) (ka 2))), (ra 2, .inl (cr 2, 8, .inl (g 2))), (ka 2, .inl (ck 2, 32, .inl (v 2)))] := hD
          replace hK : va_K (dC, dI) classes [(ca, .object "VotedTriple$VotedModule"), (cr 1, .int), (ck 1, .int), (cr 0, .int), (ck 0, .int), (cr 2, .int), (ck 2, .int)] s := hK
          refine W.widen (k := 0) (n := 0) (Nat.le_of_ble_eq_true rfl) (Nat.le_of_ble_eq_true rfl) ?_
          refine lv_iinc (k := 2) (v := 1) hx hb d_T_copyOn_58 hl rfl rfl (by decide) rfl (fun ls hl => ?_)
          replace hl : lv_has ls 3 [(2, .int 1), (0, .ref h0), (1, .int 2)] := hl
          refine lv_goto (tgt := 13) hx hb d_T_copyOn_61 rfl ?_
          have hSq : SP = s_T_copyOn_cut13_1 (tri F550 (F 1) (F 2)) (tri g551 (g 1) (g 2)) (tri c552 (v 1) (v 2)) 2 := by rw [hSq0, s_T_copyOn_cut13_0]; try (rw [if_neg (by decide)]); try (rw [if_neg (by decide)]); try (rw [if_pos hc46]); try (rw [if_pos hc47]); try (rw [← hr49E, bnd_eq]); try dsimp only; all_goals rfl
          replace hl := lv_sub hl (l' := [(0, .ref h0), (1, .int 2), (2, .int 1)]) [1, 2, 0] rfl
          replace hP := hP.sub (ws' := [(h0, .inr (0, oT uT p9 a9 e9 n9 o9)), (a9, .inl (ca, 3, .inr (.inr (.inr (.inr (mo da)))))), (da 0, .inr (2, oD (tri F550 (F 1) (F 2) 0) (ra 0) (ka 0))), (ra 0, .inl (cr 0, 8, .inl (tri g551 (g 1) (g 2) 0))), (ka 0, .inl (ck 0, 32, .inl (tri c552 (v 1) (v 2) 0))), (da 1, .inr (2, oD (tri F550 (F 1) (F 2) 1) (ra 1) (ka 1))), (ra 1, .inl (cr 1, 8, .inl (tri g551 (g 1) (g 2) 1))), (ka 1, .inl (ck 1, 32, .inl (tri c552 (v 1) (v 2) 1))), (da 2, .inr (2, oD (tri F550 (F 1) (F 2) 2) (ra 2) (ka 2))), (ra 2, .inl (cr 2, 8, .inl (tri g551 (g 1) (g 2) 2))), (ka 2, .inl (ck 2, 32, .inl (tri c552 (v 1) (v 2) 2)))]) [0, 1, 5, 6, 7, 2, 3, 4, 8, 9, 10] rfl
          replace hD := hD.sub (ws' := [(h0, .inr (0, oT uT p9 a9 e9 n9 o9)), (a9, .inl (ca, 3, .inr (.inr (.inr (.inr (mo da)))))), (da 0, .inr (2, oD (tri F550 (F 1) (F 2) 0) (ra 0) (ka 0))), (ra 0, .inl (cr 0, 8, .inl (tri g551 (g 1) (g 2) 0))), (ka 0, .inl (ck 0, 32, .inl (tri c552 (v 1) (v 2) 0))), (da 1, .inr (2, oD (tri F550 (F 1) (F 2) 1) (ra 1) (ka 1))), (ra 1, .inl (cr 1, 8, .inl (tri g551 (g 1) (g 2) 1))), (ka 1, .inl (ck 1, 32, .inl (tri c552 (v 1) (v 2) 1))), (da 2, .inr (2, oD (tri F550 (F 1) (F 2) 2) (ra 2) (ka 2))), (ra 2, .inl (cr 2, 8, .inl (tri g551 (g 1) (g 2) 2))), (ka 2, .inl (ck 2, 32, .inl (tri c552 (v 1) (v 2) 2)))]) [0, 1, 5, 6, 7, 2, 3, 4, 8, 9, 10] (by decide) rfl
          exact cut13_1 (tri F550 (F 1) (F 2)) (tri g551 (g 1) (g 2)) (tri c552 (v 1) (v 2)) 2 _ _ _ (⟨hr49.1, hF.2.1, hF.2.2⟩) (⟨hr49.2, hg.2.1, hg.2.2⟩) (Or.inr (Or.inr ⟨rfl, hlo37⟩)) hSq hl hP hD hS
  clear cut13_3 cut13_2 cut13_1
  refine lv_aload_n hx hb d_T_copyOn_0 rfl (lv_at hl 0 rfl) ?_
  replace hPc := hP.sub (ws' := [(h0, .inr (0, oT uT p9 a9 e9 n9 o9)), (a9, .inl (ca, 3, .inr (.inr (.inr (.inr (mo da)))))), (da 0, .inr (2, oD (F 0) (ra 0) (ka 0))), (da 1, .inr (2, oD (F 1) (ra 1) (ka 1))), (da 2, .inr (2, oD (F 2) (ra 2) (ka 2)))]) [0, 1, 2, 5, 8] rfl
  replace hKc := hK.sub (tys' := [(ca, .object "VotedTriple$VotedModule")]) [0] rfl
  refine vp_callSi (va_runV (C := "VotedTriple") (As := []) (rest := []) ⟨hx, hb, hml, hown, hw⟩ (c_T_lowestTrusted l dC dI h0 p9 a9 e9 n9 o9 ca da ra ka uT F) (cwV 0 hw (gdV (k_579) (k_576) (k_578) (ks_8) (k_1)) rfl rfl rfl (by decide +kernel) ⟨Nat.le_of_ble_eq_true rfl, Nat.le_of_ble_eq_true rfl⟩) ⟨fun a U g mk q => ⟨q.1, q.2.1, va_K.moved (u := U) (U := U.calling g mk a) (Vm.Alike.refl U.vm) q.2.2⟩, va_recv hK hP rfl (q0 := 0) rfl, fun U hU hW => ⟨rfl, by rw [hU]; exact hPc, va_K.moved hW.alike hKc⟩⟩ rfl rfl hl.1 rfl (lv_room (Nat.le_of_ble_eq_true rfl)) d_T_copyOn_1 ⟨Nat.le_of_ble_eq_true rfl, Nat.le_of_ble_eq_true rfl⟩).run (fun r53 hr54 => ?_)
  obtain ⟨hr54, hr54E⟩ := hr54
  rcases hr54 with rfl | ⟨rfl, hlo55⟩ | ⟨rfl, hlo55⟩ | ⟨rfl, hlo55⟩
  · --  (-1)
    refine lv_istore_n hx hb d_T_copyOn_4 rfl hl (by decide) rfl (fun ls hl => ?_)
    replace hl : lv_has ls 3 [(1, .int (-1)), (0, .ref h0)] := hl
    refine lv_iload_n hx hb d_T_copyOn_5 rfl (lv_at hl 0 rfl) ?_
    refine lv_iconst (v := (-1)) hx hb d_T_copyOn_6 (by decide) ?_
    refine lv_icmp_ne (tgt := 11) hx hb d_T_copyOn_7 rfl (fun hc56 => by first | exact absurd hc56 (fun hh => hh rfl) | exact absurd (fun hh => hh rfl) hc56) (fun hc56 => ?_)
    have hP9 := hP.sub (ws' := [(h0, .inr (0, oT uT p9 a9 e9 n9 o9)), (a9, .inl (ca, 3, .inr (.inr (.inr (.inr (mo da)))))), (da 0, .inr (2, oD (F 0) (ra 0) (ka 0))), (ra 0, .inl (cr 0, 8, .inl (g 0))), (ka 0, .inl (ck 0, 32, .inl (v 0))), (da 1, .inr (2, oD (F 1) (ra 1) (ka 1))), (ra 1, .inl (cr 1, 8, .inl (g 1))), (ka 1, .inl (ck 1, 32, .inl (v 1))), (da 2, .inr (2, oD (F 2) (ra 2) (ka 2))), (ra 2, .inl (cr 2, 8, .inl (g 2))), (ka 2, .inl (ck 2, 32, .inl (v 2)))]) [0, 1, 2, 3, 4, 5, 6, 7, 8, 9, 10] rfl
    have hD9 := hD.sub (ws' := [(h0, .inr (0, oT uT p9 a9 e9 n9 o9)), (a9, .inl (ca, 3, .inr (.inr (.inr (.inr (mo da)))))), (da 0, .inr (2, oD (F 0) (ra 0) (ka 0))), (ra 0, .inl (cr 0, 8, .inl (g 0))), (ka 0, .inl (ck 0, 32, .inl (v 0))), (da 1, .inr (2, oD (F 1) (ra 1) (ka 1))), (ra 1, .inl (cr 1, 8, .inl (g 1))), (ka 1, .inl (ck 1, 32, .inl (v 1))), (da 2, .inr (2, oD (F 2) (ra 2) (ka 2))), (ra 2, .inl (cr 2, 8, .inl (g 2))), (ka 2, .inl (ck 2, 32, .inl (v 2)))]) [0, 1, 2, 3, 4, 5, 6, 7, 8, 9, 10] (by decide) rfl
    have hK9 := hK.sub (tys' := [(ca, .object "VotedTriple$VotedModule"), (cr 0, .int), (ck 0, .int), (cr 1, .int), (ck 1, .int), (cr 2, .int), (ck 2, .int)]) [0, 1, 2, 3, 4, 5, 6] rfl
    refine W.widen (k := 0) (n := 0) (Nat.le_of_ble_eq_true rfl) (Nat.le_of_ble_eq_true rfl) ?_
    exact W.vret hx hb hr (fun t ht hW => ⟨⟨(F, g, v), rfl, ⟨⟨hF, hg⟩, (by rw [← hSP, s_T_copyOn]; try (rw [← hr54E, bnd_eq]); try (rw [if_pos rfl]); all_goals rfl)⟩, by rw [ht]; exact hP9, va_K.moved hW.alike hK9, hD9⟩, hS.F ht⟩) hS.2.2 d_T_copyOn_10
  · --  0
    refine lv_istore_n hx hb d_T_copyOn_4 rfl hl (by decide) rfl (fun ls hl => ?_)
    replace hl : lv_has ls 3 [(1, .int 0), (0, .ref h0)] := hl
    refine lv_iload_n hx hb d_T_copyOn_5 rfl (lv_at hl 0 rfl) ?_
    refine lv_iconst (v := (-1)) hx hb d_T_copyOn_6 (by decide) ?_
    refine lv_icmp_ne (tgt := 11) hx hb d_T_copyOn_7 rfl (fun hc57 => ?_) (fun hc57 => by first | exact absurd (by decide) hc57 | exact absurd hc57 (by decide))
    refine lv_iconst (v := 0) hx hb d_T_copyOn_11 (by decide) ?_
    refine lv_istore_n hx hb d_T_copyOn_12 rfl hl (by decide) rfl (fun ls hl => ?_)
    replace hl : lv_has ls 3 [(2, .int 0), (1, .int 0), (0, .ref h0)] := hl
    have hSq : SP = s_T_copyOn_cut13_0 F g v 0 := by rw [← hSP, s_T_copyOn]; try (rw [← hr54E, bnd_eq]); try (rw [if_neg (by decide)]); try (rw [if_pos rfl]); all_goals rfl
    replace hl := lv_sub hl (l' := [(0, .ref h0), (1, .int 0), (2, .int 0)]) [2, 1, 0] rfl
    replace hP := hP.sub (ws' := [(h0, .inr (0, oT uT p9 a9 e9 n9 o9)), (a9, .inl (ca, 3, .inr (.inr (.inr (.inr (mo da)))))), (da 0, .inr (2, oD (F 0) (ra 0) (ka 0))), (ra 0, .inl (cr 0, 8, .inl (g 0))), (ka 0, .inl (ck 0, 32, .inl (v 0))), (da 1, .inr (2, oD (F 1) (ra 1) (ka 1))), (ra 1, .inl (cr 1, 8, .inl (g 1))), (ka 1, .inl (ck 1, 32, .inl (v 1))), (da 2, .inr (2, oD (F 2) (ra 2) (ka 2))), (ra 2, .inl (cr 2, 8, .inl (g 2))), (ka 2, .inl (ck 2, 32, .inl (v 2)))]) [0, 1, 2, 3, 4, 5, 6, 7, 8, 9, 10] rfl
    replace hD := hD.sub (ws' := [(h0, .inr (0, oT uT p9 a9 e9 n9 o9)), (a9, .inl (ca, 3, .inr (.inr (.inr (.inr (mo da)))))), (da 0, .inr (2, oD (F 0) (ra 0) (ka 0))), (ra 0, .inl (cr 0, 8, .inl (g 0))), (ka 0, .inl (ck 0, 32, .inl (v 0))), (da 1, .inr (2, oD (F 1) (ra 1) (ka 1))), (ra 1, .inl (cr 1, 8, .inl (g 1))), (ka 1, .inl (ck 1, 32, .inl (v 1))), (da 2, .inr (2, oD (F 2) (ra 2) (ka 2))), (ra 2, .inl (cr 2, 8, .inl (g 2))), (ka 2, .inl (ck 2, 32, .inl (v 2)))]) [0, 1, 2, 3, 4, 5, 6, 7, 8, 9, 10] (by decide) rfl
    exact cut13_0 F g v 0 _ _ _ hF hg (Or.inl ⟨rfl, hlo55⟩) hSq hl hP hD hS
  · --  1
    refine lv_istore_n hx hb d_T_copyOn_4 rfl hl (by decide) rfl (fun ls hl => ?_)
    replace hl : lv_has ls 3 [(1, .int 1), (0, .ref h0)] := hl
    refine lv_iload_n hx hb d_T_copyOn_5 rfl (lv_at hl 0 rfl) ?_
    refine lv_iconst (v := (-1)) hx hb d_T_copyOn_6 (by decide) ?_
    refine lv_icmp_ne (tgt := 11) hx hb d_T_copyOn_7 rfl (fun hc58 => ?_) (fun hc58 => by first | exact absurd (by decide) hc58 | exact absurd hc58 (by decide))
    refine lv_iconst (v := 0) hx hb d_T_copyOn_11 (by decide) ?_
    refine lv_istore_n hx hb d_T_copyOn_12 rfl hl (by decide) rfl (fun ls hl => ?_)
    replace hl : lv_has ls 3 [(2, .int 0), (1, .int 1), (0, .ref h0)] := hl
    have hSq : SP = s_T_copyOn_cut13_0 F g v 1 := by rw [← hSP, s_T_copyOn]; try (rw [← hr54E, bnd_eq]); try (rw [if_neg (by decide)]); try (rw [if_neg (by decide)]); try (rw [if_pos rfl]); all_goals rfl
    replace hl := lv_sub hl (l' := [(0, .ref h0), (1, .int 1), (2, .int 0)]) [2, 1, 0] rfl
    replace hP := hP.sub (ws' := [(h0, .inr (0, oT uT p9 a9 e9 n9 o9)), (a9, .inl (ca, 3, .inr (.inr (.inr (.inr (mo da)))))), (da 0, .inr (2, oD (F 0) (ra 0) (ka 0))), (ra 0, .inl (cr 0, 8, .inl (g 0))), (ka 0, .inl (ck 0, 32, .inl (v 0))), (da 1, .inr (2, oD (F 1) (ra 1) (ka 1))), (ra 1, .inl (cr 1, 8, .inl (g 1))), (ka 1, .inl (ck 1, 32, .inl (v 1))), (da 2, .inr (2, oD (F 2) (ra 2) (ka 2))), (ra 2, .inl (cr 2, 8, .inl (g 2))), (ka 2, .inl (ck 2, 32, .inl (v 2)))]) [0, 1, 2, 3, 4, 5, 6, 7, 8, 9, 10] rfl
    replace hD := hD.sub (ws' := [(h0, .inr (0, oT uT p9 a9 e9 n9 o9)), (a9, .inl (ca, 3, .inr (.inr (.inr (.inr (mo da)))))), (da 0, .inr (2, oD (F 0) (ra 0) (ka 0))), (ra 0, .inl (cr 0, 8, .inl (g 0))), (ka 0, .inl (ck 0, 32, .inl (v 0))), (da 1, .inr (2, oD (F 1) (ra 1) (ka 1))), (ra 1, .inl (cr 1, 8, .inl (g 1))), (ka 1, .inl (ck 1, 32, .inl (v 1))), (da 2, .inr (2, oD (F 2) (ra 2) (ka 2))), (ra 2, .inl (cr 2, 8, .inl (g 2))), (ka 2, .inl (ck 2, 32, .inl (v 2)))]) [0, 1, 2, 3, 4, 5, 6, 7, 8, 9, 10] (by decide) rfl
    exact cut13_0 F g v 1 _ _ _ hF hg (Or.inr (Or.inl ⟨rfl, hlo55⟩)) hSq hl hP hD hS
  · --  2
    refine lv_istore_n hx hb d_T_copyOn_4 rfl hl (by decide) rfl (fun ls hl => ?_)
    replace hl : lv_has ls 3 [(1, .int 2), (0, .ref h0)] := hl
    refine lv_iload_n hx hb d_T_copyOn_5 rfl (lv_at hl 0 rfl) ?_
    refine lv_iconst (v := (-1)) hx hb d_T_copyOn_6 (by decide) ?_
    refine lv_icmp_ne (tgt := 11) hx hb d_T_copyOn_7 rfl (fun hc59 => ?_) (fun hc59 => by first | exact absurd (by decide) hc59 | exact absurd hc59 (by decide))
    refine lv_iconst (v := 0) hx hb d_T_copyOn_11 (by decide) ?_
    refine lv_istore_n hx hb d_T_copyOn_12 rfl hl (by decide) rfl (fun ls hl => ?_)
    replace hl : lv_has ls 3 [(2, .int 0), (1, .int 2), (0, .ref h0)] := hl
    have hSq : SP = s_T_copyOn_cut13_0 F g v 2 := by rw [← hSP, s_T_copyOn]; try (rw [← hr54E, bnd_eq]); try (rw [if_neg (by decide)]); try (rw [if_neg (by decide)]); try (rw [if_neg (by decide)]); all_goals rfl
    replace hl := lv_sub hl (l' := [(0, .ref h0), (1, .int 2), (2, .int 0)]) [2, 1, 0] rfl
    replace hP := hP.sub (ws' := [(h0, .inr (0, oT uT p9 a9 e9 n9 o9)), (a9, .inl (ca, 3, .inr (.inr (.inr (.inr (mo da)))))), (da 0, .inr (2, oD (F 0) (ra 0) (ka 0))), (ra 0, .inl (cr 0, 8, .inl (g 0))), (ka 0, .inl (ck 0, 32, .inl (v 0))), (da 1, .inr (2, oD (F 1) (ra 1) (ka 1))), (ra 1, .inl (cr 1, 8, .inl (g 1))), (ka 1, .inl (ck 1, 32, .inl (v 1))), (da 2, .inr (2, oD (F 2) (ra 2) (ka 2))), (ra 2, .inl (cr 2, 8, .inl (g 2))), (ka 2, .inl (ck 2, 32, .inl (v 2)))]) [0, 1, 2, 3, 4, 5, 6, 7, 8, 9, 10] rfl
    replace hD := hD.sub (ws' := [(h0, .inr (0, oT uT p9 a9 e9 n9 o9)), (a9, .inl (ca, 3, .inr (.inr (.inr (.inr (mo da)))))), (da 0, .inr (2, oD (F 0) (ra 0) (ka 0))), (ra 0, .inl (cr 0, 8, .inl (g 0))), (ka 0, .inl (ck 0, 32, .inl (v 0))), (da 1, .inr (2, oD (F 1) (ra 1) (ka 1))), (ra 1, .inl (cr 1, 8, .inl (g 1))), (ka 1, .inl (ck 1, 32, .inl (v 1))), (da 2, .inr (2, oD (F 2) (ra 2) (ka 2))), (ra 2, .inl (cr 2, 8, .inl (g 2))), (ka 2, .inl (ck 2, 32, .inl (v 2)))]) [0, 1, 2, 3, 4, 5, 6, 7, 8, 9, 10] (by decide) rfl
    exact cut13_0 F g v 2 _ _ _ hF hg (Or.inr (Or.inr ⟨rfl, hlo55⟩)) hSq hl hP hD hS

set_option maxHeartbeats 4000000 in
set_option maxRecDepth 100000 in
theorem c_T_forgive (l : Launch) (dC : Nat → ClassId) (dI : Nat → Nat → Nat) (h0 : Nat) (p9 : Nat) (a9 : Nat) (e9 : Nat) (n9 : Nat) (o9 : Nat) (ca : ClassId) (da : Nat → Nat) (ra : Nat → Nat) (ka : Nat → Nat) (uT : Nat → Int32) (F : Nat → Nat → Int32) (hF : f3 F) (sz : Nat) : Met l y_T_forgive (tbw y_T_forgive b_T_forgive 2 none) ({ frames := 0, cells := 0, slots := 0, locals := 0 }) (va_Pc [.ref h0] (fun U => U.heap.size = sz ∧ va_P (dC, dI) classes [(h0, .inr (0, oT uT p9 a9 e9 n9 o9)), (a9, .inl (ca, 3, .inr (.inr (.inr (.inr (mo da)))))), (da 0, .inr (2, oD (F 0) (ra 0) (ka 0))), (da 1, .inr (2, oD (F 1) (ra 1) (ka 1))), (da 2, .inr (2, oD (F 2) (ra 2) (ka 2)))] U.heap ∧ va_K (dC, dI) classes [(ca, .object "VotedTriple$VotedModule")] U ∧ va_D (fun _ => True) [(h0, .inr (0, oT uT p9 a9 e9 n9 o9)), (a9, .inl (ca, 3, .inr (.inr (.inr (.inr (mo da)))))), (da 0, .inr (2, oD (F 0) (ra 0) (ka 0))), (da 1, .inr (2, oD (F 1) (ra 1) (ka 1))), (da 2, .inr (2, oD (F 2) (ra 2) (ka 2)))])) (va_Qv (fun (u9 : (Nat → Nat → Int32)) => match u9 with | F2 => (f3 F2) ∧ (F2) = s_T_forgive uT F) (fun (u9 : (Nat → Nat → Int32)) t => match u9 with | F2 => va_P (dC, dI) classes [(h0, .inr (0, oT uT p9 a9 e9 n9 o9)), (a9, .inl (ca, 3, .inr (.inr (.inr (.inr (mo da)))))), (da 0, .inr (2, oD (F2 0) (ra 0) (ka 0))), (da 1, .inr (2, oD (F2 1) (ra 1) (ka 1))), (da 2, .inr (2, oD (F2 2) (ra 2) (ka 2)))] t.heap ∧ va_K (dC, dI) classes [(ca, .object "VotedTriple$VotedModule")] t ∧ va_D (va_A [(h0, .inr (0, oT uT p9 a9 e9 n9 o9)), (a9, .inl (ca, 3, .inr (.inr (.inr (.inr (mo da)))))), (da 0, .inr (2, oD (F 0) (ra 0) (ka 0))), (da 1, .inr (2, oD (F 1) (ra 1) (ka 1))), (da 2, .inr (2, oD (F 2) (ra 2) (ka 2)))] sz) [(h0, .inr (0, oT uT p9 a9 e9 n9 o9)), (a9, .inl (ca, 3, .inr (.inr (.inr (.inr (mo da)))))), (da 0, .inr (2, oD (F2 0) (ra 0) (ka 0))), (da 1, .inr (2, oD (F2 1) (ra 1) (ka 1))), (da 2, .inr (2, oD (F2 2) (ra 2) (ka 2)))]) (va_A [(h0, .inr (0, oT uT p9 a9 e9 n9 o9)), (a9, .inl (ca, 3, .inr (.inr (.inr (.inr (mo da)))))), (da 0, .inr (2, oD (F 0) (ra 0) (ka 0))), (da 1, .inr (2, oD (F 1) (ra 1) (ka 1))), (da 2, .inr (2, oD (F 2) (ra 2) (ka 2)))] sz)) 0 0 (va_A [(h0, .inr (0, oT uT p9 a9 e9 n9 o9)), (a9, .inl (ca, 3, .inr (.inr (.inr (.inr (mo da)))))), (da 0, .inr (2, oD (F 0) (ra 0) (ka 0))), (da 1, .inr (2, oD (F 1) (ra 1) (ka 1))), (da 2, .inr (2, oD (F 2) (ra 2) (ka 2)))] sz) := by
  refine Met.ofW (cc := b_T_forgive) (maxL := 2) (ret := none) (by decide) rfl ?_
  intro p e s m args below meth c s₁ B hml hv
  obtain ⟨rfl, hsz, hP, hK, hD0⟩ := hv
  have hx := B.exec
  have hb := B.bytes
  have hr := B.returns
  have hts := atoms_spec (ws := (tbw y_T_forgive b_T_forgive 2 none)) B.pre
  have hw : ∀ z9 ∈ tb, z9.before ([.ref h0] : List Value).toArray s = true := fun z9 h => hts z9 (List.mem_cons_of_mem _ h)
  have hown : s.vm.findClass "VotedTriple" = some m.cls := findClass_of_methodNamed B.named
  have hlocks := B.notSynchronized
  subst hsz
  replace hD := hD0.self (sz := s.heap.size)
  generalize hAe : va_A [(h0, .inr (0, oT uT p9 a9 e9 n9 o9)), (a9, .inl (ca, 3, .inr (.inr (.inr (.inr (mo da)))))), (da 0, .inr (2, oD (F 0) (ra 0) (ka 0))), (da 1, .inr (2, oD (F 1) (ra 1) (ka 1))), (da 2, .inr (2, oD (F 2) (ra 2) (ka 2)))] s.heap.size = A at hD ⊢
  have hA : ∀ q : Nat, s.heap.size ≤ q → A q := fun q h => by rw [← hAe]; exact Or.inr h
  have hS : va_S A s.heap s.heap [] := va_S.rf
  replace hl := lv_entry ([.ref h0]) (n := 2) (Nat.le_of_ble_eq_true rfl)
  rw [lg_entry_eq]
  generalize (lg_sl ([.ref h0]) ++ List.replicate (2 - (lg_sl ([.ref h0])).length) Slot.unset).toArray = ls at hl ⊢
  replace hl : lv_has ls 2 [(0, .ref h0)] := hl
  generalize hSP : s_T_forgive uT F = SP
  have cut12_3 : ∀ (F : Nat → Nat → Int32) (ls : Array Slot) (H : Heap) (locs : List Loc), f3 F → SP = s_T_forgive_cut12_3 F →  lv_has ls 2 [(0, .ref h0), (1, .int 3)] → va_P (dC, dI) classes [(h0, .inr (0, oT uT p9 a9 e9 n9 o9)), (a9, .inl (ca, 3, .inr (.inr (.inr (.inr (mo da)))))), (da 0, .inr (2, oD (F 0) (ra 0) (ka 0))), (da 1, .inr (2, oD (F 1) (ra 1) (ka 1))), (da 2, .inr (2, oD (F 2) (ra 2) (ka 2)))] H → va_D A [(h0, .inr (0, oT uT p9 a9 e9 n9 o9)), (a9, .inl (ca, 3, .inr (.inr (.inr (.inr (mo da)))))), (da 0, .inr (2, oD (F 0) (ra 0) (ka 0))), (da 1, .inr (2, oD (F 1) (ra 1) (ka 1))), (da 2, .inr (2, oD (F 2) (ra 2) (ka 2)))] → va_S A s.heap H locs → W p l e (headSpec (tbw y_T_forgive b_T_forgive 2 none) ({ frames := 0, cells := 0, slots := 0, locals := 0 })).room s m ([.ref h0] : List Value).toArray below meth c H locs 0 0 (MQ below (va_Qv (fun (u9 : (Nat → Nat → Int32)) => match u9 with | F2 => (f3 F2) ∧ (F2) = SP) (fun (u9 : (Nat → Nat → Int32)) t => match u9 with | F2 => va_P (dC, dI) classes [(h0, .inr (0, oT uT p9 a9 e9 n9 o9)), (a9, .inl (ca, 3, .inr (.inr (.inr (.inr (mo da)))))), (da 0, .inr (2, oD (F2 0) (ra 0) (ka 0))), (da 1, .inr (2, oD (F2 1) (ra 1) (ka 1))), (da 2, .inr (2, oD (F2 2) (ra 2) (ka 2)))] t.heap ∧ va_K (dC, dI) classes [(ca, .object "VotedTriple$VotedModule")] t ∧ va_D A [(h0, .inr (0, oT uT p9 a9 e9 n9 o9)), (a9, .inl (ca, 3, .inr (.inr (.inr (.inr (mo da)))))), (da 0, .inr (2, oD (F2 0) (ra 0) (ka 0))), (da 1, .inr (2, oD (F2 1) (ra 1) (ka 1))), (da 2, .inr (2, oD (F2 2) (ra 2) (ka 2)))]) A) ([.ref h0] : List Value).toArray s 0 0 A) (F0 m 12 ls []) := by
    intro F ls H locs hF hSq0 hl hP hD hS
    refine lv_iload_n hx hb d_T_forgive_12 rfl (lv_at hl 1 rfl) ?_
    refine lv_iconst (v := 3) hx hb d_T_forgive_13 (by decide) ?_
    refine lv_icmp_ge (tgt := 50) hx hb d_T_forgive_14 rfl (fun hc1 => ?_) (fun hc1 => by first | exact absurd (by decide) hc1 | exact absurd hc1 (by decide))
    have hP9 := hP.sub (ws' := [(h0, .inr (0, oT uT p9 a9 e9 n9 o9)), (a9, .inl (ca, 3, .inr (.inr (.inr (.inr (mo da)))))), (da 0, .inr (2, oD (F 0) (ra 0) (ka 0))), (da 1, .inr (2, oD (F 1) (ra 1) (ka 1))), (da 2, .inr (2, oD (F 2) (ra 2) (ka 2)))]) [0, 1, 2, 3, 4] rfl
    have hD9 := hD.sub (ws' := [(h0, .inr (0, oT uT p9 a9 e9 n9 o9)), (a9, .inl (ca, 3, .inr (.inr (.inr (.inr (mo da)))))), (da 0, .inr (2, oD (F 0) (ra 0) (ka 0))), (da 1, .inr (2, oD (F 1) (ra 1) (ka 1))), (da 2, .inr (2, oD (F 2) (ra 2) (ka 2)))]) [0, 1, 2, 3, 4] (by decide) rfl
    have hK9 := hK.sub (tys' := [(ca, .object "VotedTriple$VotedModule")]) [0] rfl
    refine W.widen (k := 0) (n := 0) (Nat.le_of_ble_eq_true rfl) (Nat.le_of_ble_eq_true rfl) ?_
    exact W.vret hx hb hr (fun t ht hW => ⟨⟨(F), rfl, ⟨hF, (by rw [hSq0, s_T_forgive_cut12_3]; all_goals rfl)⟩, by rw [ht]; exact hP9, va_K.moved hW.alike hK9, hD9⟩, hS.F ht⟩) hS.2.2 d_T_forgive_50
  have cut12_2 : ∀ (F : Nat → Nat → Int32) (ls : Array Slot) (H : Heap) (locs : List Loc), f3 F → SP = s_T_forgive_cut12_2 F →  lv_has ls 2 [(0, .ref h0), (1, .int 2)] → va_P (dC, dI) classes [(h0, .inr (0, oT uT p9 a9 e9 n9 o9)), (a9, .inl (ca, 3, .inr (.inr (.inr (.inr (mo da)))))), (da 0, .inr (2, oD (F 0) (ra 0) (ka 0))), (da 1, .inr (2, oD (F 1) (ra 1) (ka 1))), (da 2, .inr (2, oD (F 2) (ra 2) (ka 2)))] H → va_D A [(h0, .inr (0, oT uT p9 a9 e9 n9 o9)), (a9, .inl (ca, 3, .inr (.inr (.inr (.inr (mo da)))))), (da 0, .inr (2, oD (F 0) (ra 0) (ka 0))), (da 1, .inr (2, oD (F 1) (ra 1) (ka 1))), (da 2, .inr (2, oD (F 2) (ra 2) (ka 2)))] → va_S A s.heap H locs → W p l e (headSpec (tbw y_T_forgive b_T_forgive 2 none) ({ frames := 0, cells := 0, slots := 0, locals := 0 })).room s m ([.ref h0] : List Value).toArray below meth c H locs 0 0 (MQ below (va_Qv (fun (u9 : (Nat → Nat → Int32)) => match u9 with | F2 => (f3 F2) ∧ (F2) = SP) (fun (u9 : (Nat → Nat → Int32)) t => match u9 with | F2 => va_P (dC, dI) classes [(h0, .inr (0, oT uT p9 a9 e9 n9 o9)), (a9, .inl (ca, 3, .inr (.inr (.inr (.inr (mo da)))))), (da 0, .inr (2, oD (F2 0) (ra 0) (ka 0))), (da 1, .inr (2, oD (F2 1) (ra 1) (ka 1))), (da 2, .inr (2, oD (F2 2) (ra 2) (ka 2)))] t.heap ∧ va_K (dC, dI) classes [(ca, .object "VotedTriple$VotedModule")] t ∧ va_D A [(h0, .inr (0, oT uT p9 a9 e9 n9 o9)), (a9, .inl (ca, 3, .inr (.inr (.inr (.inr (mo da)))))), (da 0, .inr (2, oD (F2 0) (ra 0) (ka 0))), (da 1, .inr (2, oD (F2 1) (ra 1) (ka 1))), (da 2, .inr (2, oD (F2 2) (ra 2) (ka 2)))]) A) ([.ref h0] : List Value).toArray s 0 0 A) (F0 m 12 ls []) := by
    intro F ls H locs hF hSq0 hl hP hD hS
    refine lv_iload_n hx hb d_T_forgive_12 rfl (lv_at hl 1 rfl) ?_
    refine lv_iconst (v := 3) hx hb d_T_forgive_13 (by decide) ?_
    refine lv_icmp_ge (tgt := 50) hx hb d_T_forgive_14 rfl (fun hc2 => by first | exact absurd hc2 (by decide) | exact absurd (by decide) hc2) (fun hc2 => ?_)
    refine lv_aload_n hx hb d_T_forgive_17 rfl (lv_at hl 0 rfl) ?_
    refine va_get (D := (dC, dI)) (ci := 0) (v := .ref a9) (C := "VotedTriple") (T := F_T) (N := 11) hx hb hw in_T hown hK hP 0 rfl rfl 1 (by decide) (hw _ k_195) (fun _ h9 => h9) rfl d_T_forgive_18 ?_
    refine lv_iload_n hx hb d_T_forgive_21 rfl (lv_at hl 1 rfl) ?_
    refine va_aldq hx hb hK hP 1 0 rfl rfl (by unfold vp_in; decide) d_T_forgive_22 ?_
    refine W.eq (g2 := F0 m 23 ls [.ref (da 2)]) rfl ?_
    refine va_get (D := (dC, dI)) (ci := 2) (v := .int (F 2 10)) (C := "VotedTriple$VotedModule") (T := F_D) (N := 19) hx hb hw in_D hown hK hP 4 rfl rfl 10 (by decide) (hw _ k_147) (fun _ h9 => h9) rfl d_T_forgive_23 ?_
    refine lv_if_le (tgt := 44) hx hb d_T_forgive_26 rfl (fun hc3 => ?_) (fun hc3 => ?_)
    · --  (F 2 10) ≤ 0
      refine lv_iinc (k := 1) (v := 3) hx hb d_T_forgive_44 hl rfl rfl (by decide) rfl (fun ls hl => ?_)
      replace hl : lv_has ls 2 [(1, .int 3), (0, .ref h0)] := hl
      refine lv_goto (tgt := 12) hx hb d_T_forgive_47 rfl ?_
      have hSq : SP = s_T_forgive_cut12_3 F := by rw [hSq0, s_T_forgive_cut12_2]; try (rw [if_pos hc3]); all_goals rfl
      replace hl := lv_sub hl (l' := [(0, .ref h0), (1, .int 3)]) [1, 0] rfl
      replace hP := hP.sub (ws' := [(h0, .inr (0, oT uT p9 a9 e9 n9 o9)), (a9, .inl (ca, 3, .inr (.inr (.inr (.inr (mo da)))))), (da 0, .inr (2, oD (F 0) (ra 0) (ka 0))), (da 1, .inr (2, oD (F 1) (ra 1) (ka 1))), (da 2, .inr (2, oD (F 2) (ra 2) (ka 2)))]) [0, 1, 2, 3, 4] rfl
      replace hD := hD.sub (ws' := [(h0, .inr (0, oT uT p9 a9 e9 n9 o9)), (a9, .inl (ca, 3, .inr (.inr (.inr (.inr (mo da)))))), (da 0, .inr (2, oD (F 0) (ra 0) (ka 0))), (da 1, .inr (2, oD (F 1) (ra 1) (ka 1))), (da 2, .inr (2, oD (F 2) (ra 2) (ka 2)))]) [0, 1, 2, 3, 4] (by decide) rfl
      exact cut12_3 F _ _ _ hF hSq hl hP hD hS
    · --  ¬ (F 2 10) ≤ 0
      refine lv_aload_n hx hb d_T_forgive_29 rfl (lv_at hl 0 rfl) ?_
      refine va_get (D := (dC, dI)) (ci := 0) (v := .ref a9) (C := "VotedTriple") (T := F_T) (N := 11) hx hb hw in_T hown hK hP 0 rfl rfl 1 (by decide) (hw _ k_195) (fun _ h9 => h9) rfl d_T_forgive_30 ?_
      refine lv_iload_n hx hb d_T_forgive_33 rfl (lv_at hl 1 rfl) ?_
      refine va_aldq hx hb hK hP 1 0 rfl rfl (by unfold vp_in; decide) d_T_forgive_34 ?_
      refine W.eq (g2 := F0 m 35 ls [.ref (da 2)]) rfl ?_
      refine lv_dup hx hb d_T_forgive_35 rfl ?_
      refine va_get (D := (dC, dI)) (ci := 2) (v := .int (F 2 10)) (C := "VotedTriple$VotedModule") (T := F_D) (N := 19) hx hb hw in_D hown hK hP 4 rfl rfl 10 (by decide) (hw _ k_147) (fun _ h9 => h9) rfl d_T_forgive_36 ?_
      refine lv_iconst (v := 1) hx hb d_T_forgive_39 (by decide) ?_
      refine lv_isub hx hb d_T_forgive_40 ?_
      refine va_put (D := (dC, dI)) (ci := 2) (v := .int ((F 2 10) - (1 : Int32))) (ty := .int) (C := "VotedTriple$VotedModule") (T := F_D) (N := 19) hx hb hw in_D ft_D tyok_D nm_D hown hK hP hD hS 4 rfl rfl 10 (by decide) (hw _ k_147) (fun _ h9 => h9) rfl (by decide +kernel) rfl rfl (Nat.le_of_ble_eq_true rfl) d_T_forgive_41 (fun H locs hP hD hS => ?_)
      replace hP : va_P (dC, dI) classes [(h0, .inr (0, oT uT p9 a9 e9 n9 o9)), (a9, .inl (ca, 3, .inr (.inr (.inr (.inr (mo da)))))), (da 0, .inr (2, oD (F 0) (ra 0) (ka 0))), (da 1, .inr (2, oD (F 1) (ra 1) (ka 1))), (da 2, .inr (2, [.ref (ra 2), .int (F 2 1), .int (F 2 2), .int (F 2 3), .int (F 2 4), .int (F 2 5), .int (F 2 6), .ref (ka 2), .int (F 2 8), .int (F 2 9), .int ((F 2 10) - (1 : Int32)), .int (F 2 11), .int (F 2 12), .int (F 2 13), .int (F 2 14), .int (F 2 15), .int (F 2 16), .int (F 2 17), .int (F 2 18)]))] H := hP
      replace hD : va_D A [(h0, .inr (0, oT uT p9 a9 e9 n9 o9)), (a9, .inl (ca, 3, .inr (.inr (.inr (.inr (mo da)))))), (da 0, .inr (2, oD (F 0) (ra 0) (ka 0))), (da 1, .inr (2, oD (F 1) (ra 1) (ka 1))), (da 2, .inr (2, [.ref (ra 2), .int (F 2 1), .int (F 2 2), .int (F 2 3), .int (F 2 4), .int (F 2 5), .int (F 2 6), .ref (ka 2), .int (F 2 8), .int (F 2 9), .int ((F 2 10) - (1 : Int32)), .int (F 2 11), .int (F 2 12), .int (F 2 13), .int (F 2 14), .int (F 2 15), .int (F 2 16), .int (F 2 17), .int (F 2 18)]))] := hD
      refine lv_iinc (k := 1) (v := 3) hx hb d_T_forgive_44 hl rfl rfl (by decide) rfl (fun ls hl => ?_)
      replace hl : lv_has ls 2 [(1, .int 3), (0, .ref h0)] := hl
      refine lv_goto (tgt := 12) hx hb d_T_forgive_47 rfl ?_
      have hSq : SP = s_T_forgive_cut12_3 (tri (F 0) (F 1) (upc (F 2) 10 ((F 2 10) - (1 : Int32)))) := by rw [hSq0, s_T_forgive_cut12_2]; try (rw [if_neg hc3]); all_goals rfl
      replace hl := lv_sub hl (l' := [(0, .ref h0), (1, .int 3)]) [1, 0] rfl
      replace hP := hP.sub (ws' := [(h0, .inr (0, oT uT p9 a9 e9 n9 o9)), (a9, .inl (ca, 3, .inr (.inr (.inr (.inr (mo da)))))), (da 0, .inr (2, oD (tri (F 0) (F 1) (upc (F 2) 10 ((F 2 10) - (1 : Int32))) 0) (ra 0) (ka 0))), (da 1, .inr (2, oD (tri (F 0) (F 1) (upc (F 2) 10 ((F 2 10) - (1 : Int32))) 1) (ra 1) (ka 1))), (da 2, .inr (2, oD (tri (F 0) (F 1) (upc (F 2) 10 ((F 2 10) - (1 : Int32))) 2) (ra 2) (ka 2)))]) [0, 1, 2, 3, 4] rfl
      replace hD := hD.sub (ws' := [(h0, .inr (0, oT uT p9 a9 e9 n9 o9)), (a9, .inl (ca, 3, .inr (.inr (.inr (.inr (mo da)))))), (da 0, .inr (2, oD (tri (F 0) (F 1) (upc (F 2) 10 ((F 2 10) - (1 : Int32))) 0) (ra 0) (ka 0))), (da 1, .inr (2, oD (tri (F 0) (F 1) (upc (F 2) 10 ((F 2 10) - (1 : Int32))) 1) (ra 1) (ka 1))), (da 2, .inr (2, oD (tri (F 0) (F 1) (upc (F 2) 10 ((F 2 10) - (1 : Int32))) 2) (ra 2) (ka 2)))]) [0, 1, 2, 3, 4] (by decide) rfl
      exact cut12_3 (tri (F 0) (F 1) (upc (F 2) 10 ((F 2 10) - (1 : Int32)))) _ _ _ hF hSq hl hP hD hS
  have cut12_1 : ∀ (F : Nat → Nat → Int32) (ls : Array Slot) (H : Heap) (locs : List Loc), f3 F → SP = s_T_forgive_cut12_1 F →  lv_has ls 2 [(0, .ref h0), (1, .int 1)] → va_P (dC, dI) classes [(h0, .inr (0, oT uT p9 a9 e9 n9 o9)), (a9, .inl (ca, 3, .inr (.inr (.inr (.inr (mo da)))))), (da 0, .inr (2, oD (F 0) (ra 0) (ka 0))), (da 1, .inr (2, oD (F 1) (ra 1) (ka 1))), (da 2, .inr (2, oD (F 2) (ra 2) (ka 2)))] H → va_D A [(h0, .inr (0, oT uT p9 a9 e9 n9 o9)), (a9, .inl (ca, 3, .inr (.inr (.inr (.inr (mo da)))))), (da 0, .inr (2, oD (F 0) (ra 0) (ka 0))), (da 1, .inr (2, oD (F 1) (ra 1) (ka 1))), (da 2, .inr (2, oD (F 2) (ra 2) (ka 2)))] → va_S A s.heap H locs → W p l e (headSpec (tbw y_T_forgive b_T_forgive 2 none) ({ frames := 0, cells := 0, slots := 0, locals := 0 })).room s m ([.ref h0] : List Value).toArray below meth c H locs 0 0 (MQ below (va_Qv (fun (u9 : (Nat → Nat → Int32)) => match u9 with | F2 => (f3 F2) ∧ (F2) = SP) (fun (u9 : (Nat → Nat → Int32)) t => match u9 with | F2 => va_P (dC, dI) classes [(h0, .inr (0, oT uT p9 a9 e9 n9 o9)), (a9, .inl (ca, 3, .inr (.inr (.inr (.inr (mo da)))))), (da 0, .inr (2, oD (F2 0) (ra 0) (ka 0))), (da 1, .inr (2, oD (F2 1) (ra 1) (ka 1))), (da 2, .inr (2, oD (F2 2) (ra 2) (ka 2)))] t.heap ∧ va_K (dC, dI) classes [(ca, .object "VotedTriple$VotedModule")] t ∧ va_D A [(h0, .inr (0, oT uT p9 a9 e9 n9 o9)), (a9, .inl (ca, 3, .inr (.inr (.inr (.inr (mo da)))))), (da 0, .inr (2, oD (F2 0) (ra 0) (ka 0))), (da 1, .inr (2, oD (F2 1) (ra 1) (ka 1))), (da 2, .inr (2, oD (F2 2) (ra 2) (ka 2)))]) A) ([.ref h0] : List Value).toArray s 0 0 A) (F0 m 12 ls []) := by
    intro F ls H locs hF hSq0 hl hP hD hS
    clear cut12_3
    refine lv_iload_n hx hb d_T_forgive_12 rfl (lv_at hl 1 rfl) ?_
    refine lv_iconst (v := 3) hx hb d_T_forgive_13 (by decide) ?_
    refine lv_icmp_ge (tgt := 50) hx hb d_T_forgive_14 rfl (fun hc4 => by first | exact absurd hc4 (by decide) | exact absurd (by decide) hc4) (fun hc4 => ?_)
    refine lv_aload_n hx hb d_T_forgive_17 rfl (lv_at hl 0 rfl) ?_
    refine va_get (D := (dC, dI)) (ci := 0) (v := .ref a9) (C := "VotedTriple") (T := F_T) (N := 11) hx hb hw in_T hown hK hP 0 rfl rfl 1 (by decide) (hw _ k_195) (fun _ h9 => h9) rfl d_T_forgive_18 ?_
    refine lv_iload_n hx hb d_T_forgive_21 rfl (lv_at hl 1 rfl) ?_
    refine va_aldq hx hb hK hP 1 0 rfl rfl (by unfold vp_in; decide) d_T_forgive_22 ?_
    refine W.eq (g2 := F0 m 23 ls [.ref (da 1)]) rfl ?_
    refine va_get (D := (dC, dI)) (ci := 2) (v := .int (F 1 10)) (C := "VotedTriple$VotedModule") (T := F_D) (N := 19) hx hb hw in_D hown hK hP 3 rfl rfl 10 (by decide) (hw _ k_147) (fun _ h9 => h9) rfl d_T_forgive_23 ?_
    refine lv_if_le (tgt := 44) hx hb d_T_forgive_26 rfl (fun hc5 => ?_) (fun hc5 => ?_)
    · --  (F 1 10) ≤ 0
      refine lv_iinc (k := 1) (v := 2) hx hb d_T_forgive_44 hl rfl rfl (by decide) rfl (fun ls hl => ?_)
      replace hl : lv_has ls 2 [(1, .int 2), (0, .ref h0)] := hl
      refine lv_goto (tgt := 12) hx hb d_T_forgive_47 rfl ?_
      have hSq : SP = s_T_forgive_cut12_2 F := by rw [hSq0, s_T_forgive_cut12_1]; try (rw [if_pos hc5]); all_goals rfl
      replace hl := lv_sub hl (l' := [(0, .ref h0), (1, .int 2)]) [1, 0] rfl
      replace hP := hP.sub (ws' := [(h0, .inr (0, oT uT p9 a9 e9 n9 o9)), (a9, .inl (ca, 3, .inr (.inr (.inr (.inr (mo da)))))), (da 0, .inr (2, oD (F 0) (ra 0) (ka 0))), (da 1, .inr (2, oD (F 1) (ra 1) (ka 1))), (da 2, .inr (2, oD (F 2) (ra 2) (ka 2)))]) [0, 1, 2, 3, 4] rfl
      replace hD := hD.sub (ws' := [(h0, .inr (0, oT uT p9 a9 e9 n9 o9)), (a9, .inl (ca, 3, .inr (.inr (.inr (.inr (mo da)))))), (da 0, .inr (2, oD (F 0) (ra 0) (ka 0))), (da 1, .inr (2, oD (F 1) (ra 1) (ka 1))), (da 2, .inr (2, oD (F 2) (ra 2) (ka 2)))]) [0, 1, 2, 3, 4] (by decide) rfl
      exact cut12_2 F _ _ _ hF hSq hl hP hD hS
    · --  ¬ (F 1 10) ≤ 0
      refine lv_aload_n hx hb d_T_forgive_29 rfl (lv_at hl 0 rfl) ?_
      refine va_get (D := (dC, dI)) (ci := 0) (v := .ref a9) (C := "VotedTriple") (T := F_T) (N := 11) hx hb hw in_T hown hK hP 0 rfl rfl 1 (by decide) (hw _ k_195) (fun _ h9 => h9) rfl d_T_forgive_30 ?_
      refine lv_iload_n hx hb d_T_forgive_33 rfl (lv_at hl 1 rfl) ?_
      refine va_aldq hx hb hK hP 1 0 rfl rfl (by unfold vp_in; decide) d_T_forgive_34 ?_
      refine W.eq (g2 := F0 m 35 ls [.ref (da 1)]) rfl ?_
      refine lv_dup hx hb d_T_forgive_35 rfl ?_
      refine va_get (D := (dC, dI)) (ci := 2) (v := .int (F 1 10)) (C := "VotedTriple$VotedModule") (T := F_D) (N := 19) hx hb hw in_D hown hK hP 3 rfl rfl 10 (by decide) (hw _ k_147) (fun _ h9 => h9) rfl d_T_forgive_36 ?_
      refine lv_iconst (v := 1) hx hb d_T_forgive_39 (by decide) ?_
      refine lv_isub hx hb d_T_forgive_40 ?_
      refine va_put (D := (dC, dI)) (ci := 2) (v := .int ((F 1 10) - (1 : Int32))) (ty := .int) (C := "VotedTriple$VotedModule") (T := F_D) (N := 19) hx hb hw in_D ft_D tyok_D nm_D hown hK hP hD hS 3 rfl rfl 10 (by decide) (hw _ k_147) (fun _ h9 => h9) rfl (by decide +kernel) rfl rfl (Nat.le_of_ble_eq_true rfl) d_T_forgive_41 (fun H locs hP hD hS => ?_)
      replace hP : va_P (dC, dI) classes [(h0, .inr (0, oT uT p9 a9 e9 n9 o9)), (a9, .inl (ca, 3, .inr (.inr (.inr (.inr (mo da)))))), (da 0, .inr (2, oD (F 0) (ra 0) (ka 0))), (da 1, .inr (2, [.ref (ra 1), .int (F 1 1), .int (F 1 2), .int (F 1 3), .int (F 1 4), .int (F 1 5), .int (F 1 6), .ref (ka 1), .int (F 1 8), .int (F 1 9), .int ((F 1 10) - (1 : Int32)), .int (F 1 11), .int (F 1 12), .int (F 1 13), .int (F 1 14), .int (F 1 15), .int (F 1 16), .int (F 1 17), .int (F 1 18)])), (da 2, .inr (2, oD (F 2) (ra 2) (ka 2)))] H := hP
      replace hD : va_D A [(h0, .inr (0, oT uT p9 a9 e9 n9 o9)), (a9, .inl (ca, 3, .inr (.inr (.inr (.inr (mo da)))))), (da 0, .inr (2, oD (F 0) (ra 0) (ka 0))), (da 1, .inr (2, [.ref (ra 1), .int (F 1 1), .int (F 1 2), .int (F 1 3), .int (F 1 4), .int (F 1 5), .int (F 1 6), .ref (ka 1), .int (F 1 8), .int (F 1 9), .int ((F 1 10) - (1 : Int32)), .int (F 1 11), .int (F 1 12), .int (F 1 13), .int (F 1 14), .int (F 1 15), .int (F 1 16), .int (F 1 17), .int (F 1 18)])), (da 2, .inr (2, oD (F 2) (ra 2) (ka 2)))] := hD
      refine lv_iinc (k := 1) (v := 2) hx hb d_T_forgive_44 hl rfl rfl (by decide) rfl (fun ls hl => ?_)
      replace hl : lv_has ls 2 [(1, .int 2), (0, .ref h0)] := hl
      refine lv_goto (tgt := 12) hx hb d_T_forgive_47 rfl ?_
      have hSq : SP = s_T_forgive_cut12_2 (tri (F 0) (upc (F 1) 10 ((F 1 10) - (1 : Int32))) (F 2)) := by rw [hSq0, s_T_forgive_cut12_1]; try (rw [if_neg hc5]); all_goals rfl
      replace hl := lv_sub hl (l' := [(0, .ref h0), (1, .int 2)]) [1, 0] rfl
      replace hP := hP.sub (ws' := [(h0, .inr (0, oT uT p9 a9 e9 n9 o9)), (a9, .inl (ca, 3, .inr (.inr (.inr (.inr (mo da)))))), (da 0, .inr (2, oD (tri (F 0) (upc (F 1) 10 ((F 1 10) - (1 : Int32))) (F 2) 0) (ra 0) (ka 0))), (da 1, .inr (2, oD (tri (F 0) (upc (F 1) 10 ((F 1 10) - (1 : Int32))) (F 2) 1) (ra 1) (ka 1))), (da 2, .inr (2, oD (tri (F 0) (upc (F 1) 10 ((F 1 10) - (1 : Int32))) (F 2) 2) (ra 2) (ka 2)))]) [0, 1, 2, 3, 4] rfl
      replace hD := hD.sub (ws' := [(h0, .inr (0, oT uT p9 a9 e9 n9 o9)), (a9, .inl (ca, 3, .inr (.inr (.inr (.inr (mo da)))))), (da 0, .inr (2, oD (tri (F 0) (upc (F 1) 10 ((F 1 10) - (1 : Int32))) (F 2) 0) (ra 0) (ka 0))), (da 1, .inr (2, oD (tri (F 0) (upc (F 1) 10 ((F 1 10) - (1 : Int32))) (F 2) 1) (ra 1) (ka 1))), (da 2, .inr (2, oD (tri (F 0) (upc (F 1) 10 ((F 1 10) - (1 : Int32))) (F 2) 2) (ra 2) (ka 2)))]) [0, 1, 2, 3, 4] (by decide) rfl
      exact cut12_2 (tri (F 0) (upc (F 1) 10 ((F 1 10) - (1 : Int32))) (F 2)) _ _ _ hF hSq hl hP hD hS
  clear cut12_3 cut12_2
  refine lv_aload_n hx hb d_T_forgive_0 rfl (lv_at hl 0 rfl) ?_
  refine va_get (D := (dC, dI)) (ci := 0) (v := .int (uT 8)) (C := "VotedTriple") (T := F_T) (N := 11) hx hb hw in_T hown hK hP 0 rfl rfl 8 (by decide) (hw _ k_202) (fun _ h9 => h9) rfl d_T_forgive_1 ?_
  refine lv_iconst (v := 4) hx hb d_T_forgive_4 (by decide) ?_
  refine lv_irem hx hb d_T_forgive_5 (by decide) ?_
  refine lv_if_eq (tgt := 10) hx hb d_T_forgive_6 rfl (fun hc6 => ?_) (fun hc6 => ?_)
  · --  ((uT 8) - (uT 8) / (4 : Int32) * (4 : Int32)) = 0
    refine lv_iconst (v := 0) hx hb d_T_forgive_10 (by decide) ?_
    refine lv_istore_n hx hb d_T_forgive_11 rfl hl (by decide) rfl (fun ls hl => ?_)
    replace hl : lv_has ls 2 [(1, .int 0), (0, .ref h0)] := hl
    refine lv_iload_n hx hb d_T_forgive_12 rfl (lv_at hl 0 rfl) ?_
    refine lv_iconst (v := 3) hx hb d_T_forgive_13 (by decide) ?_
    refine lv_icmp_ge (tgt := 50) hx hb d_T_forgive_14 rfl (fun hc7 => by first | exact absurd hc7 (by decide) | exact absurd (by decide) hc7) (fun hc7 => ?_)
    refine lv_aload_n hx hb d_T_forgive_17 rfl (lv_at hl 1 rfl) ?_
    refine va_get (D := (dC, dI)) (ci := 0) (v := .ref a9) (C := "VotedTriple") (T := F_T) (N := 11) hx hb hw in_T hown hK hP 0 rfl rfl 1 (by decide) (hw _ k_195) (fun _ h9 => h9) rfl d_T_forgive_18 ?_
    refine lv_iload_n hx hb d_T_forgive_21 rfl (lv_at hl 0 rfl) ?_
    refine va_aldq hx hb hK hP 1 0 rfl rfl (by unfold vp_in; decide) d_T_forgive_22 ?_
    refine W.eq (g2 := F0 m 23 ls [.ref (da 0)]) rfl ?_
    refine va_get (D := (dC, dI)) (ci := 2) (v := .int (F 0 10)) (C := "VotedTriple$VotedModule") (T := F_D) (N := 19) hx hb hw in_D hown hK hP 2 rfl rfl 10 (by decide) (hw _ k_147) (fun _ h9 => h9) rfl d_T_forgive_23 ?_
    refine lv_if_le (tgt := 44) hx hb d_T_forgive_26 rfl (fun hc8 => ?_) (fun hc8 => ?_)
    · --  (F 0 10) ≤ 0
      refine lv_iinc (k := 0) (v := 1) hx hb d_T_forgive_44 hl rfl rfl (by decide) rfl (fun ls hl => ?_)
      replace hl : lv_has ls 2 [(1, .int 1), (0, .ref h0)] := hl
      refine lv_goto (tgt := 12) hx hb d_T_forgive_47 rfl ?_
      have hSq : SP = s_T_forgive_cut12_1 F := by rw [← hSP, s_T_forgive]; try (rw [if_pos hc6]); try (rw [if_pos hc8]); all_goals rfl
      replace hl := lv_sub hl (l' := [(0, .ref h0), (1, .int 1)]) [1, 0] rfl
      replace hP := hP.sub (ws' := [(h0, .inr (0, oT uT p9 a9 e9 n9 o9)), (a9, .inl (ca, 3, .inr (.inr (.inr (.inr (mo da)))))), (da 0, .inr (2, oD (F 0) (ra 0) (ka 0))), (da 1, .inr (2, oD (F 1) (ra 1) (ka 1))), (da 2, .inr (2, oD (F 2) (ra 2) (ka 2)))]) [0, 1, 2, 3, 4] rfl
      replace hD := hD.sub (ws' := [(h0, .inr (0, oT uT p9 a9 e9 n9 o9)), (a9, .inl (ca, 3, .inr (.inr (.inr (.inr (mo da)))))), (da 0, .inr (2, oD (F 0) (ra 0) (ka 0))), (da 1, .inr (2, oD (F 1) (ra 1) (ka 1))), (da 2, .inr (2, oD (F 2) (ra 2) (ka 2)))]) [0, 1, 2, 3, 4] (by decide) rfl
      exact cut12_1 F _ _ _ hF hSq hl hP hD hS
    · --  ¬ (F 0 10) ≤ 0
      refine lv_aload_n hx hb d_T_forgive_29 rfl (lv_at hl 1 rfl) ?_
      refine va_get (D := (dC, dI)) (ci := 0) (v := .ref a9) (C := "VotedTriple") (T := F_T) (N := 11) hx hb hw in_T hown hK hP 0 rfl rfl 1 (by decide) (hw _ k_195) (fun _ h9 => h9) rfl d_T_forgive_30 ?_
      refine lv_iload_n hx hb d_T_forgive_33 rfl (lv_at hl 0 rfl) ?_
      refine va_aldq hx hb hK hP 1 0 rfl rfl (by unfold vp_in; decide) d_T_forgive_34 ?_
      refine W.eq (g2 := F0 m 35 ls [.ref (da 0)]) rfl ?_
      refine lv_dup hx hb d_T_forgive_35 rfl ?_
      refine va_get (D := (dC, dI)) (ci := 2) (v := .int (F 0 10)) (C := "VotedTriple$VotedModule") (T := F_D) (N := 19) hx hb hw in_D hown hK hP 2 rfl rfl 10 (by decide) (hw _ k_147) (fun _ h9 => h9) rfl d_T_forgive_36 ?_
      refine lv_iconst (v := 1) hx hb d_T_forgive_39 (by decide) ?_
      refine lv_isub hx hb d_T_forgive_40 ?_
      refine va_put (D := (dC, dI)) (ci := 2) (v := .int ((F 0 10) - (1 : Int32))) (ty := .int) (C := "VotedTriple$VotedModule") (T := F_D) (N := 19) hx hb hw in_D ft_D tyok_D nm_D hown hK hP hD hS 2 rfl rfl 10 (by decide) (hw _ k_147) (fun _ h9 => h9) rfl (by decide +kernel) rfl rfl (Nat.le_of_ble_eq_true rfl) d_T_forgive_41 (fun H locs hP hD hS => ?_)
      replace hP : va_P (dC, dI) classes [(h0, .inr (0, oT uT p9 a9 e9 n9 o9)), (a9, .inl (ca, 3, .inr (.inr (.inr (.inr (mo da)))))), (da 0, .inr (2, [.ref (ra 0), .int (F 0 1), .int (F 0 2), .int (F 0 3), .int (F 0 4), .int (F 0 5), .int (F 0 6), .ref (ka 0), .int (F 0 8), .int (F 0 9), .int ((F 0 10) - (1 : Int32)), .int (F 0 11), .int (F 0 12), .int (F 0 13), .int (F 0 14), .int (F 0 15), .int (F 0 16), .int (F 0 17), .int (F 0 18)])), (da 1, .inr (2, oD (F 1) (ra 1) (ka 1))), (da 2, .inr (2, oD (F 2) (ra 2) (ka 2)))] H := hP
      replace hD : va_D A [(h0, .inr (0, oT uT p9 a9 e9 n9 o9)), (a9, .inl (ca, 3, .inr (.inr (.inr (.inr (mo da)))))), (da 0, .inr (2, [.ref (ra 0), .int (F 0 1), .int (F 0 2), .int (F 0 3), .int (F 0 4), .int (F 0 5), .int (F 0 6), .ref (ka 0), .int (F 0 8), .int (F 0 9), .int ((F 0 10) - (1 : Int32)), .int (F 0 11), .int (F 0 12), .int (F 0 13), .int (F 0 14), .int (F 0 15), .int (F 0 16), .int (F 0 17), .int (F 0 18)])), (da 1, .inr (2, oD (F 1) (ra 1) (ka 1))), (da 2, .inr (2, oD (F 2) (ra 2) (ka 2)))] := hD
      refine lv_iinc (k := 0) (v := 1) hx hb d_T_forgive_44 hl rfl rfl (by decide) rfl (fun ls hl => ?_)
      replace hl : lv_has ls 2 [(1, .int 1), (0, .ref h0)] := hl
      refine lv_goto (tgt := 12) hx hb d_T_forgive_47 rfl ?_
      have hSq : SP = s_T_forgive_cut12_1 (tri (upc (F 0) 10 ((F 0 10) - (1 : Int32))) (F 1) (F 2)) := by rw [← hSP, s_T_forgive]; try (rw [if_pos hc6]); try (rw [if_neg hc8]); all_goals rfl
      replace hl := lv_sub hl (l' := [(0, .ref h0), (1, .int 1)]) [1, 0] rfl
      replace hP := hP.sub (ws' := [(h0, .inr (0, oT uT p9 a9 e9 n9 o9)), (a9, .inl (ca, 3, .inr (.inr (.inr (.inr (mo da)))))), (da 0, .inr (2, oD (tri (upc (F 0) 10 ((F 0 10) - (1 : Int32))) (F 1) (F 2) 0) (ra 0) (ka 0))), (da 1, .inr (2, oD (tri (upc (F 0) 10 ((F 0 10) - (1 : Int32))) (F 1) (F 2) 1) (ra 1) (ka 1))), (da 2, .inr (2, oD (tri (upc (F 0) 10 ((F 0 10) - (1 : Int32))) (F 1) (F 2) 2) (ra 2) (ka 2)))]) [0, 1, 2, 3, 4] rfl
      replace hD := hD.sub (ws' := [(h0, .inr (0, oT uT p9 a9 e9 n9 o9)), (a9, .inl (ca, 3, .inr (.inr (.inr (.inr (mo da)))))), (da 0, .inr (2, oD (tri (upc (F 0) 10 ((F 0 10) - (1 : Int32))) (F 1) (F 2) 0) (ra 0) (ka 0))), (da 1, .inr (2, oD (tri (upc (F 0) 10 ((F 0 10) - (1 : Int32))) (F 1) (F 2) 1) (ra 1) (ka 1))), (da 2, .inr (2, oD (tri (upc (F 0) 10 ((F 0 10) - (1 : Int32))) (F 1) (F 2) 2) (ra 2) (ka 2)))]) [0, 1, 2, 3, 4] (by decide) rfl
      exact cut12_1 (tri (upc (F 0) 10 ((F 0 10) - (1 : Int32))) (F 1) (F 2)) _ _ _ hF hSq hl hP hD hS
  · --  ¬ ((uT 8) - (uT 8) / (4 : Int32) * (4 : Int32)) = 0
    have hP9 := hP.sub (ws' := [(h0, .inr (0, oT uT p9 a9 e9 n9 o9)), (a9, .inl (ca, 3, .inr (.inr (.inr (.inr (mo da)))))), (da 0, .inr (2, oD (F 0) (ra 0) (ka 0))), (da 1, .inr (2, oD (F 1) (ra 1) (ka 1))), (da 2, .inr (2, oD (F 2) (ra 2) (ka 2)))]) [0, 1, 2, 3, 4] rfl
    have hD9 := hD.sub (ws' := [(h0, .inr (0, oT uT p9 a9 e9 n9 o9)), (a9, .inl (ca, 3, .inr (.inr (.inr (.inr (mo da)))))), (da 0, .inr (2, oD (F 0) (ra 0) (ka 0))), (da 1, .inr (2, oD (F 1) (ra 1) (ka 1))), (da 2, .inr (2, oD (F 2) (ra 2) (ka 2)))]) [0, 1, 2, 3, 4] (by decide) rfl
    have hK9 := hK.sub (tys' := [(ca, .object "VotedTriple$VotedModule")]) [0] rfl
    refine W.widen (k := 0) (n := 0) (Nat.le_of_ble_eq_true rfl) (Nat.le_of_ble_eq_true rfl) ?_
    exact W.vret hx hb hr (fun t ht hW => ⟨⟨(F), rfl, ⟨hF, (by rw [← hSP, s_T_forgive]; try (rw [if_neg hc6]); all_goals rfl)⟩, by rw [ht]; exact hP9, va_K.moved hW.alike hK9, hD9⟩, hS.F ht⟩) hS.2.2 d_T_forgive_9
