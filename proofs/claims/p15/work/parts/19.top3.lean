set_option maxHeartbeats 4000000 in
set_option maxRecDepth 100000 in
theorem c_T_vote (l : Launch) (dC : Nat → ClassId) (dI : Nat → Nat → Nat) (h0 : Nat) (p9 : Nat) (a9 : Nat) (e9 : Nat) (n9 : Nat) (o9 : Nat) (ca : ClassId) (da : Nat → Nat) (ra : Nat → Nat) (ka : Nat → Nat) (uT : Nat → Int32) (F : Nat → Nat → Int32) (hF : f3 F) (sz : Nat) : Met l y_T_vote (tbw y_T_vote b_T_vote 3 (some .int)) ({ frames := 3, cells := 0, slots := 0, locals := 65 }) (va_Pc [.ref h0] (fun U => U.heap.size = sz ∧ va_P (dC, dI) classes [(h0, .inr (0, oT uT p9 a9 e9 n9 o9)), (a9, .inl (ca, 3, .inr (.inr (.inr (.inr (mo da)))))), (da 0, .inr (2, oD (F 0) (ra 0) (ka 0))), (da 1, .inr (2, oD (F 1) (ra 1) (ka 1))), (da 2, .inr (2, oD (F 2) (ra 2) (ka 2)))] U.heap ∧ va_K (dC, dI) classes [(ca, .object "VotedTriple$VotedModule")] U ∧ va_D (fun _ => True) [(h0, .inr (0, oT uT p9 a9 e9 n9 o9)), (a9, .inl (ca, 3, .inr (.inr (.inr (.inr (mo da)))))), (da 0, .inr (2, oD (F 0) (ra 0) (ka 0))), (da 1, .inr (2, oD (F 1) (ra 1) (ka 1))), (da 2, .inr (2, oD (F 2) (ra 2) (ka 2)))])) (va_Qi (fun (r : Int32) (u9 : (Nat → Nat → Int32) × Int32) => match u9 with | (F2, y9) => (i012 r ∧ f3 F2) ∧ (r, F2, y9) = s_T_vote uT F) (fun (u9 : (Nat → Nat → Int32) × Int32) t => match u9 with | (F2, y9) => va_P (dC, dI) classes [(h0, .inr (0, oT (upc uT 9 y9) p9 a9 e9 n9 o9)), (a9, .inl (ca, 3, .inr (.inr (.inr (.inr (mo da)))))), (da 0, .inr (2, oD (F2 0) (ra 0) (ka 0))), (da 1, .inr (2, oD (F2 1) (ra 1) (ka 1))), (da 2, .inr (2, oD (F2 2) (ra 2) (ka 2)))] t.heap ∧ va_K (dC, dI) classes [(ca, .object "VotedTriple$VotedModule")] t ∧ va_D (va_A [(h0, .inr (0, oT uT p9 a9 e9 n9 o9)), (a9, .inl (ca, 3, .inr (.inr (.inr (.inr (mo da)))))), (da 0, .inr (2, oD (F 0) (ra 0) (ka 0))), (da 1, .inr (2, oD (F 1) (ra 1) (ka 1))), (da 2, .inr (2, oD (F 2) (ra 2) (ka 2)))] sz) [(h0, .inr (0, oT (upc uT 9 y9) p9 a9 e9 n9 o9)), (a9, .inl (ca, 3, .inr (.inr (.inr (.inr (mo da)))))), (da 0, .inr (2, oD (F2 0) (ra 0) (ka 0))), (da 1, .inr (2, oD (F2 1) (ra 1) (ka 1))), (da 2, .inr (2, oD (F2 2) (ra 2) (ka 2)))]) (va_A [(h0, .inr (0, oT uT p9 a9 e9 n9 o9)), (a9, .inl (ca, 3, .inr (.inr (.inr (.inr (mo da)))))), (da 0, .inr (2, oD (F 0) (ra 0) (ka 0))), (da 1, .inr (2, oD (F 1) (ra 1) (ka 1))), (da 2, .inr (2, oD (F 2) (ra 2) (ka 2)))] sz)) 0 0 (va_A [(h0, .inr (0, oT uT p9 a9 e9 n9 o9)), (a9, .inl (ca, 3, .inr (.inr (.inr (.inr (mo da)))))), (da 0, .inr (2, oD (F 0) (ra 0) (ka 0))), (da 1, .inr (2, oD (F 1) (ra 1) (ka 1))), (da 2, .inr (2, oD (F 2) (ra 2) (ka 2)))] sz) := by
  refine Met.ofW (cc := b_T_vote) (maxL := 3) (ret := (some .int)) (by decide) rfl ?_
  intro p e s m args below meth c s₁ B hml hv
  obtain ⟨rfl, hsz, hP, hK, hD0⟩ := hv
  have hx := B.exec
  have hb := B.bytes
  have hr := B.returns
  have hts := atoms_spec (ws := (tbw y_T_vote b_T_vote 3 (some .int))) B.pre
  have hw : ∀ z9 ∈ tb, z9.before ([.ref h0] : List Value).toArray s = true := fun z9 h => hts z9 (List.mem_cons_of_mem _ h)
  have hown : s.vm.findClass "VotedTriple" = some m.cls := findClass_of_methodNamed B.named
  have hlocks := B.notSynchronized
  subst hsz
  replace hD := hD0.self (sz := s.heap.size)
  generalize hAe : va_A [(h0, .inr (0, oT uT p9 a9 e9 n9 o9)), (a9, .inl (ca, 3, .inr (.inr (.inr (.inr (mo da)))))), (da 0, .inr (2, oD (F 0) (ra 0) (ka 0))), (da 1, .inr (2, oD (F 1) (ra 1) (ka 1))), (da 2, .inr (2, oD (F 2) (ra 2) (ka 2)))] s.heap.size = A at hD ⊢
  have hA : ∀ q : Nat, s.heap.size ≤ q → A q := fun q h => by rw [← hAe]; exact Or.inr h
  have hS : va_S A s.heap s.heap [] := va_S.rf
  replace hl := lv_entry ([.ref h0]) (n := 3) (Nat.le_of_ble_eq_true rfl)
  rw [lg_entry_eq]
  generalize (lg_sl ([.ref h0]) ++ List.replicate (3 - (lg_sl ([.ref h0])).length) Slot.unset).toArray = ls at hl ⊢
  replace hl : lv_has ls 3 [(0, .ref h0)] := hl
  generalize hSP : s_T_vote uT F = SP
  have cut14_3 : ∀ (F : Nat → Nat → Int32) (w1 : Int32) (ls : Array Slot) (H : Heap) (locs : List Loc), f3 F → (w1 = 0 ∨ w1 = 1 ∨ w1 = 2) → SP = s_T_vote_cut14_3 uT F w1 →  lv_has ls 3 [(0, .ref h0), (1, .int w1), (2, .int 3)] → va_P (dC, dI) classes [(h0, .inr (0, oT uT p9 a9 e9 n9 o9)), (a9, .inl (ca, 3, .inr (.inr (.inr (.inr (mo da)))))), (da 0, .inr (2, oD (F 0) (ra 0) (ka 0))), (da 1, .inr (2, oD (F 1) (ra 1) (ka 1))), (da 2, .inr (2, oD (F 2) (ra 2) (ka 2)))] H → va_D A [(h0, .inr (0, oT uT p9 a9 e9 n9 o9)), (a9, .inl (ca, 3, .inr (.inr (.inr (.inr (mo da)))))), (da 0, .inr (2, oD (F 0) (ra 0) (ka 0))), (da 1, .inr (2, oD (F 1) (ra 1) (ka 1))), (da 2, .inr (2, oD (F 2) (ra 2) (ka 2)))] → va_S A s.heap H locs → W p l e (headSpec (tbw y_T_vote b_T_vote 3 (some .int)) ({ frames := 3, cells := 0, slots := 0, locals := 65 })).room s m ([.ref h0] : List Value).toArray below meth c H locs 0 0 (MQ below (va_Qi (fun (r : Int32) (u9 : (Nat → Nat → Int32) × Int32) => match u9 with | (F2, y9) => (i012 r ∧ f3 F2) ∧ (r, F2, y9) = SP) (fun (u9 : (Nat → Nat → Int32) × Int32) t => match u9 with | (F2, y9) => va_P (dC, dI) classes [(h0, .inr (0, oT (upc uT 9 y9) p9 a9 e9 n9 o9)), (a9, .inl (ca, 3, .inr (.inr (.inr (.inr (mo da)))))), (da 0, .inr (2, oD (F2 0) (ra 0) (ka 0))), (da 1, .inr (2, oD (F2 1) (ra 1) (ka 1))), (da 2, .inr (2, oD (F2 2) (ra 2) (ka 2)))] t.heap ∧ va_K (dC, dI) classes [(ca, .object "VotedTriple$VotedModule")] t ∧ va_D A [(h0, .inr (0, oT (upc uT 9 y9) p9 a9 e9 n9 o9)), (a9, .inl (ca, 3, .inr (.inr (.inr (.inr (mo da)))))), (da 0, .inr (2, oD (F2 0) (ra 0) (ka 0))), (da 1, .inr (2, oD (F2 1) (ra 1) (ka 1))), (da 2, .inr (2, oD (F2 2) (ra 2) (ka 2)))]) A) ([.ref h0] : List Value).toArray s 0 0 A) (F0 m 14 ls []) := by
    intro F w1 ls H locs hF h19 hSq0 hl hP hD hS
    refine lv_iload_n hx hb d_T_vote_14 rfl (lv_at hl 2 rfl) ?_
    refine lv_iconst (v := 3) hx hb d_T_vote_15 (by decide) ?_
    refine lv_icmp_ge (tgt := 43) hx hb d_T_vote_16 rfl (fun hc1 => ?_) (fun hc1 => by first | exact absurd (by decide) hc1 | exact absurd hc1 (by decide))
    rcases h19 with rfl | rfl | rfl
    · --  0
      refine lv_aload_n hx hb d_T_vote_43 rfl (lv_at hl 0 rfl) ?_
      refine lv_aload_n hx hb d_T_vote_44 rfl (lv_at hl 0 rfl) ?_
      refine va_get (D := (dC, dI)) (ci := 0) (v := .ref a9) (C := "VotedTriple") (T := F_T) (N := 11) hx hb hw in_T hown hK hP 0 rfl rfl 1 (by decide) (hw _ k_195) (fun _ h9 => h9) rfl d_T_vote_45 ?_
      refine lv_iload_n hx hb d_T_vote_48 rfl (lv_at hl 1 rfl) ?_
      refine va_aldq hx hb hK hP 1 0 rfl rfl (by unfold vp_in; decide) d_T_vote_49 ?_
      refine W.eq (g2 := F0 m 50 ls [.ref (da 0), .ref h0]) rfl ?_
      refine va_get (D := (dC, dI)) (ci := 2) (v := .int (F 0 18)) (C := "VotedTriple$VotedModule") (T := F_D) (N := 19) hx hb hw in_D hown hK hP 2 rfl rfl 18 (by decide) (hw _ k_161) (fun _ h9 => h9) rfl d_T_vote_50 ?_
      replace hPc := hP.sub (ws' := [(h0, .inr (0, oT uT p9 a9 e9 n9 o9)), (a9, .inl (ca, 3, .inr (.inr (.inr (.inr (mo da)))))), (da 0, .inr (2, oD (F 0) (ra 0) (ka 0))), (da 1, .inr (2, oD (F 1) (ra 1) (ka 1))), (da 2, .inr (2, oD (F 2) (ra 2) (ka 2)))]) [0, 1, 2, 3, 4] rfl
      replace hKc := hK.sub (tys' := [(ca, .object "VotedTriple$VotedModule")]) [0] rfl
      refine vp_callSi (va_runV (C := "VotedTriple") (As := [.int (F 0 18)]) (rest := []) ⟨hx, hb, hml, hown, hw⟩ (c_T_countBallots l dC dI h0 p9 a9 e9 n9 o9 ca da ra ka uT F (F 0 18)) (cwV 1 hw (gdV (k_591) (k_588) (k_590) (ks_9) (k_1)) rfl rfl rfl (by decide +kernel) ⟨Nat.le_of_ble_eq_true rfl, Nat.le_of_ble_eq_true rfl⟩) ⟨fun a U g mk q => ⟨q.1, q.2.1, va_K.moved (u := U) (U := U.calling g mk a) (Vm.Alike.refl U.vm) q.2.2⟩, va_recv hK hP rfl (q0 := 0) rfl, fun U hU hW => ⟨rfl, by rw [hU]; exact hPc, va_K.moved hW.alike hKc⟩⟩ rfl rfl hl.1 rfl (lv_room (Nat.le_of_ble_eq_true rfl)) d_T_vote_53 ⟨Nat.le_of_ble_eq_true rfl, Nat.le_of_ble_eq_true rfl⟩).run (fun r2 hr3 => ?_)
      obtain ⟨hr3, hr3E⟩ := hr3
      refine lv_aload_n hx hb d_T_vote_56 rfl (lv_at hl 0 rfl) ?_
      replace hPc := hP.sub (ws' := [(h0, .inr (0, oT uT p9 a9 e9 n9 o9)), (a9, .inl (ca, 3, .inr (.inr (.inr (.inr (mo da)))))), (da 0, .inr (2, oD (F 0) (ra 0) (ka 0))), (da 1, .inr (2, oD (F 1) (ra 1) (ka 1))), (da 2, .inr (2, oD (F 2) (ra 2) (ka 2)))]) [0, 1, 2, 3, 4] rfl
      replace hKc := hK.sub (tys' := [(ca, .object "VotedTriple$VotedModule")]) [0] rfl
      refine vp_callSi (va_runV (C := "VotedTriple") (As := []) (rest := [.int r2]) ⟨hx, hb, hml, hown, hw⟩ (c_T_countTrusted l dC dI h0 p9 a9 e9 n9 o9 ca da ra ka uT F) (cwV 0 hw (gdV (k_595) (k_592) (k_594) (ks_10) (k_1)) rfl rfl rfl (by decide +kernel) ⟨Nat.le_of_ble_eq_true rfl, Nat.le_of_ble_eq_true rfl⟩) ⟨fun a U g mk q => ⟨q.1, q.2.1, va_K.moved (u := U) (U := U.calling g mk a) (Vm.Alike.refl U.vm) q.2.2⟩, va_recv hK hP rfl (q0 := 0) rfl, fun U hU hW => ⟨rfl, by rw [hU]; exact hPc, va_K.moved hW.alike hKc⟩⟩ rfl rfl hl.1 rfl (lv_room (Nat.le_of_ble_eq_true rfl)) d_T_vote_57 ⟨Nat.le_of_ble_eq_true rfl, Nat.le_of_ble_eq_true rfl⟩).run (fun r4 hr5 => ?_)
      obtain ⟨hr5, hr5E⟩ := hr5
      refine lv_icmp_ne (tgt := 65) hx hb d_T_vote_60 rfl (fun hc6 => ?_) (fun hc6 => ?_)
      · --  ¬ r2 = r4
        refine lv_aload_n hx hb d_T_vote_65 rfl (lv_at hl 0 rfl) ?_
        refine lv_dup hx hb d_T_vote_66 rfl ?_
        refine va_get (D := (dC, dI)) (ci := 0) (v := .int (uT 9)) (C := "VotedTriple") (T := F_T) (N := 11) hx hb hw in_T hown hK hP 0 rfl rfl 9 (by decide) (hw _ k_203) (fun _ h9 => h9) rfl d_T_vote_67 ?_
        refine lv_iconst (v := 1) hx hb d_T_vote_70 (by decide) ?_
        refine lv_iadd hx hb d_T_vote_71 ?_
        refine va_put (D := (dC, dI)) (ci := 0) (v := .int ((uT 9) + (1 : Int32))) (ty := .int) (C := "VotedTriple") (T := F_T) (N := 11) hx hb hw in_T ft_T tyok_T nm_T hown hK hP hD hS 0 rfl rfl 9 (by decide) (hw _ k_203) (fun _ h9 => h9) rfl (by decide +kernel) rfl rfl (Nat.le_of_ble_eq_true rfl) d_T_vote_72 (fun H locs hP hD hS => ?_)
        replace hP : va_P (dC, dI) classes [(h0, .inr (0, [.ref p9, .ref a9, .ref e9, .ref n9, .ref o9, .int (uT 5), .int (uT 6), .int (uT 7), .int (uT 8), .int ((uT 9) + (1 : Int32)), .int (uT 10)])), (a9, .inl (ca, 3, .inr (.inr (.inr (.inr (mo da)))))), (da 0, .inr (2, oD (F 0) (ra 0) (ka 0))), (da 1, .inr (2, oD (F 1) (ra 1) (ka 1))), (da 2, .inr (2, oD (F 2) (ra 2) (ka 2)))] H := hP
        replace hD : va_D A [(h0, .inr (0, [.ref p9, .ref a9, .ref e9, .ref n9, .ref o9, .int (uT 5), .int (uT 6), .int (uT 7), .int (uT 8), .int ((uT 9) + (1 : Int32)), .int (uT 10)])), (a9, .inl (ca, 3, .inr (.inr (.inr (.inr (mo da)))))), (da 0, .inr (2, oD (F 0) (ra 0) (ka 0))), (da 1, .inr (2, oD (F 1) (ra 1) (ka 1))), (da 2, .inr (2, oD (F 2) (ra 2) (ka 2)))] := hD
        refine lv_aload_n hx hb d_T_vote_75 rfl (lv_at hl 0 rfl) ?_
        replace hP : va_P (dC, dI) classes [(h0, .inr (0, oT (upc uT 9 ((uT 9) + (1 : Int32))) p9 a9 e9 n9 o9)), (a9, .inl (ca, 3, .inr (.inr (.inr (.inr (mo da)))))), (da 0, .inr (2, oD (F 0) (ra 0) (ka 0))), (da 1, .inr (2, oD (F 1) (ra 1) (ka 1))), (da 2, .inr (2, oD (F 2) (ra 2) (ka 2)))] H := hP
        replace hD : va_D A [(h0, .inr (0, oT (upc uT 9 ((uT 9) + (1 : Int32))) p9 a9 e9 n9 o9)), (a9, .inl (ca, 3, .inr (.inr (.inr (.inr (mo da)))))), (da 0, .inr (2, oD (F 0) (ra 0) (ka 0))), (da 1, .inr (2, oD (F 1) (ra 1) (ka 1))), (da 2, .inr (2, oD (F 2) (ra 2) (ka 2)))] := hD
        replace hPc := hP.sub (ws' := [(h0, .inr (0, oT (upc uT 9 ((uT 9) + (1 : Int32))) p9 a9 e9 n9 o9)), (a9, .inl (ca, 3, .inr (.inr (.inr (.inr (mo da)))))), (da 0, .inr (2, oD (F 0) (ra 0) (ka 0))), (da 1, .inr (2, oD (F 1) (ra 1) (ka 1))), (da 2, .inr (2, oD (F 2) (ra 2) (ka 2)))]) [0, 1, 2, 3, 4] rfl
        replace hKc := hK.sub (tys' := [(ca, .object "VotedTriple$VotedModule")]) [0] rfl
        refine vp_callSi (va_runV (C := "VotedTriple") (As := []) (rest := []) ⟨hx, hb, hml, hown, hw⟩ (c_T_oneOfTheAlikePair l dC dI h0 p9 a9 e9 n9 o9 ca da ra ka (upc uT 9 ((uT 9) + (1 : Int32))) F) (cwV 0 hw (gdV (k_599) (k_596) (k_598) (ks_11) (k_1)) rfl rfl rfl (by decide +kernel) ⟨Nat.le_of_ble_eq_true rfl, Nat.le_of_ble_eq_true rfl⟩) ⟨fun a U g mk q => ⟨q.1, q.2.1, va_K.moved (u := U) (U := U.calling g mk a) (Vm.Alike.refl U.vm) q.2.2⟩, va_recv hK hP rfl (q0 := 0) rfl, fun U hU hW => ⟨rfl, by rw [hU]; exact hPc, va_K.moved hW.alike hKc⟩⟩ rfl rfl hl.1 rfl (lv_room (Nat.le_of_ble_eq_true rfl)) d_T_vote_76 ⟨Nat.le_of_ble_eq_true rfl, Nat.le_of_ble_eq_true rfl⟩).run (fun r7 hr8 => ?_)
        obtain ⟨hr8, hr8E⟩ := hr8
        rcases hr8 with rfl | rfl | rfl | rfl
        · --  (-1)
          refine lv_istore_n hx hb d_T_vote_79 rfl hl (by decide) rfl (fun ls hl => ?_)
          replace hl : lv_has ls 3 [(2, .int (-1)), (0, .ref h0), (1, .int 0)] := hl
          refine lv_iload_n hx hb d_T_vote_80 rfl (lv_at hl 0 rfl) ?_
          refine lv_iconst (v := (-1)) hx hb d_T_vote_81 (by decide) ?_
          refine lv_icmp_ne (tgt := 90) hx hb d_T_vote_82 rfl (fun hc9 => by first | exact absurd hc9 (fun hh => hh rfl) | exact absurd (fun hh => hh rfl) hc9) (fun hc9 => ?_)
          refine lv_aload_n hx hb d_T_vote_85 rfl (lv_at hl 1 rfl) ?_
          replace hPc := hP.sub (ws' := [(h0, .inr (0, oT (upc uT 9 ((uT 9) + (1 : Int32))) p9 a9 e9 n9 o9)), (a9, .inl (ca, 3, .inr (.inr (.inr (.inr (mo da)))))), (da 0, .inr (2, oD (F 0) (ra 0) (ka 0))), (da 1, .inr (2, oD (F 1) (ra 1) (ka 1))), (da 2, .inr (2, oD (F 2) (ra 2) (ka 2)))]) [0, 1, 2, 3, 4] rfl
          replace hKc := hK.sub (tys' := [(ca, .object "VotedTriple$VotedModule")]) [0] rfl
          refine vp_callSi (va_runV (C := "VotedTriple") (As := []) (rest := []) ⟨hx, hb, hml, hown, hw⟩ (c_T_soundOneOfTwo l dC dI h0 p9 a9 e9 n9 o9 ca da ra ka (upc uT 9 ((uT 9) + (1 : Int32))) F) (cwV 0 hw (gdV (k_603) (k_600) (k_602) (ks_12) (k_1)) rfl rfl rfl (by decide +kernel) ⟨Nat.le_of_ble_eq_true rfl, Nat.le_of_ble_eq_true rfl⟩) ⟨fun a U g mk q => ⟨q.1, q.2.1, va_K.moved (u := U) (U := U.calling g mk a) (Vm.Alike.refl U.vm) q.2.2⟩, va_recv hK hP rfl (q0 := 0) rfl, fun U hU hW => ⟨rfl, by rw [hU]; exact hPc, va_K.moved hW.alike hKc⟩⟩ rfl rfl hl.1 rfl (lv_room (Nat.le_of_ble_eq_true rfl)) d_T_vote_86 ⟨Nat.le_of_ble_eq_true rfl, Nat.le_of_ble_eq_true rfl⟩).run (fun r10 hr11 => ?_)
          obtain ⟨hr11, hr11E⟩ := hr11
          rcases hr11 with rfl | rfl | rfl | rfl
          · --  (-1)
            refine lv_istore_n hx hb d_T_vote_89 rfl hl (by decide) rfl (fun ls hl => ?_)
            replace hl : lv_has ls 3 [(2, .int (-1)), (0, .ref h0), (1, .int 0)] := hl
            refine lv_iload_n hx hb d_T_vote_90 rfl (lv_at hl 0 rfl) ?_
            refine lv_iconst (v := (-1)) hx hb d_T_vote_91 (by decide) ?_
            refine lv_icmp_eq (tgt := 108) hx hb d_T_vote_92 rfl (fun hc12 => ?_) (fun hc12 => by first | exact absurd (rfl) hc12 | exact absurd hc12 (rfl))
            refine lv_iload_n hx hb d_T_vote_108 rfl (lv_at hl 0 rfl) ?_
            have hP9 := hP.sub (ws' := [(h0, .inr (0, oT (upc uT 9 (upc uT 9 ((uT 9) + (1 : Int32)) 9)) p9 a9 e9 n9 o9)), (a9, .inl (ca, 3, .inr (.inr (.inr (.inr (mo da)))))), (da 0, .inr (2, oD (F 0) (ra 0) (ka 0))), (da 1, .inr (2, oD (F 1) (ra 1) (ka 1))), (da 2, .inr (2, oD (F 2) (ra 2) (ka 2)))]) [0, 1, 2, 3, 4] rfl
            have hD9 := hD.sub (ws' := [(h0, .inr (0, oT (upc uT 9 (upc uT 9 ((uT 9) + (1 : Int32)) 9)) p9 a9 e9 n9 o9)), (a9, .inl (ca, 3, .inr (.inr (.inr (.inr (mo da)))))), (da 0, .inr (2, oD (F 0) (ra 0) (ka 0))), (da 1, .inr (2, oD (F 1) (ra 1) (ka 1))), (da 2, .inr (2, oD (F 2) (ra 2) (ka 2)))]) [0, 1, 2, 3, 4] (by decide) rfl
            have hK9 := hK.sub (tys' := [(ca, .object "VotedTriple$VotedModule")]) [0] rfl
            refine W.widen (k := 0) (n := 0) (Nat.le_of_ble_eq_true rfl) (Nat.le_of_ble_eq_true rfl) ?_
            exact W.iret (v := (-1)) hx hb hr (fun t ht hW => ⟨⟨_, (F, upc uT 9 ((uT 9) + (1 : Int32)) 9), rfl, ⟨⟨(Or.inl rfl), hF⟩, (by rw [hSq0, s_T_vote_cut14_3]; try (rw [if_pos rfl]); try (rw [← hr3E, bnd_eq]); try (rw [← hr5E, bnd_eq]); try (rw [if_neg hc6]); try (rw [← hr8E, bnd_eq]); try (rw [if_pos rfl]); try (rw [← hr11E, bnd_eq]); try (rw [if_pos rfl]); all_goals rfl)⟩, by rw [ht]; exact hP9, va_K.moved hW.alike hK9, hD9⟩, hS.F ht⟩) hS.2.2 d_T_vote_109
          · --  0
            refine lv_istore_n hx hb d_T_vote_89 rfl hl (by decide) rfl (fun ls hl => ?_)
            replace hl : lv_has ls 3 [(2, .int 0), (0, .ref h0), (1, .int 0)] := hl
            refine lv_iload_n hx hb d_T_vote_90 rfl (lv_at hl 0 rfl) ?_
            refine lv_iconst (v := (-1)) hx hb d_T_vote_91 (by decide) ?_
            refine lv_icmp_eq (tgt := 108) hx hb d_T_vote_92 rfl (fun hc13 => by first | exact absurd hc13 (by decide) | exact absurd (by decide) hc13) (fun hc13 => ?_)
            refine lv_aload_n hx hb d_T_vote_95 rfl (lv_at hl 1 rfl) ?_
            refine lv_aload_n hx hb d_T_vote_96 rfl (lv_at hl 1 rfl) ?_
            refine va_get (D := (dC, dI)) (ci := 0) (v := .ref a9) (C := "VotedTriple") (T := F_T) (N := 11) hx hb hw in_T hown hK hP 0 rfl rfl 1 (by decide) (hw _ k_195) (fun _ h9 => h9) rfl d_T_vote_97 ?_
            refine lv_iload_n hx hb d_T_vote_100 rfl (lv_at hl 0 rfl) ?_
            refine va_aldq hx hb hK hP 1 0 rfl rfl (by unfold vp_in; decide) d_T_vote_101 ?_
            refine W.eq (g2 := F0 m 102 ls [.ref (da 0), .ref h0]) rfl ?_
            refine va_get (D := (dC, dI)) (ci := 2) (v := .int (F 0 18)) (C := "VotedTriple$VotedModule") (T := F_D) (N := 19) hx hb hw in_D hown hK hP 2 rfl rfl 18 (by decide) (hw _ k_161) (fun _ h9 => h9) rfl d_T_vote_102 ?_
            replace hPc := hP.sub (ws' := [(h0, .inr (0, oT (upc uT 9 ((uT 9) + (1 : Int32))) p9 a9 e9 n9 o9)), (a9, .inl (ca, 3, .inr (.inr (.inr (.inr (mo da)))))), (da 0, .inr (2, oD (F 0) (ra 0) (ka 0))), (da 1, .inr (2, oD (F 1) (ra 1) (ka 1))), (da 2, .inr (2, oD (F 2) (ra 2) (ka 2)))]) [0, 1, 2, 3, 4] rfl
            replace hKc := hK.sub (tys' := [(ca, .object "VotedTriple$VotedModule")]) [0] rfl
            replace hDc := hD.sub (ws' := [(h0, .inr (0, oT (upc uT 9 ((uT 9) + (1 : Int32))) p9 a9 e9 n9 o9)), (a9, .inl (ca, 3, .inr (.inr (.inr (.inr (mo da)))))), (da 0, .inr (2, oD (F 0) (ra 0) (ka 0))), (da 1, .inr (2, oD (F 1) (ra 1) (ka 1))), (da 2, .inr (2, oD (F 2) (ra 2) (ka 2)))]) [0, 1, 2, 3, 4] (by decide) rfl
            replace hFc := va_free (wc := [(h0, .inr (0, oT (upc uT 9 ((uT 9) + (1 : Int32))) p9 a9 e9 n9 o9)), (a9, .inl (ca, 3, .inr (.inr (.inr (.inr (mo da)))))), (da 0, .inr (2, oD (F 0) (ra 0) (ka 0))), (da 1, .inr (2, oD (F 1) (ra 1) (ka 1))), (da 2, .inr (2, oD (F 2) (ra 2) (ka 2)))]) hD hS hA [0, 1, 2, 3, 4] rfl
            refine va_callv (va_runV (C := "VotedTriple") (As := [.int (F 0 18)]) (rest := []) ⟨hx, hb, hml, hown, hw⟩ (c_T_nameAllUnlike l dC dI h0 p9 a9 e9 n9 o9 ca da ra ka (upc uT 9 ((uT 9) + (1 : Int32))) F (F 0 18) hF H.size) (cwV 1 hw (gdV (k_607) (k_604) (k_606) (ks_13) (k_1)) rfl rfl rfl (by decide +kernel) ⟨Nat.le_of_ble_eq_true rfl, Nat.le_of_ble_eq_true rfl⟩) ⟨fun a U g mk q => by obtain ⟨q0, q1, qP, qK, qD⟩ := q; exact ⟨q0, q1, qP, va_K.moved (u := U) (U := U.calling g mk a) (Vm.Alike.refl U.vm) qK, qD⟩, va_recv hK hP rfl (q0 := 0) rfl, fun U hU hW => ⟨rfl, by rw [hU], by rw [hU]; exact hPc, va_K.moved hW.alike hKc, hDc.weaken (fun _ _ _ _ => trivial)⟩⟩ rfl rfl hl.1 rfl (lv_room (Nat.le_of_ble_eq_true rfl)) d_T_vote_105 ⟨Nat.le_of_ble_eq_true rfl, Nat.le_of_ble_eq_true rfl⟩) hS (fun q _ h => hFc q h) hFc (fun u9 t H1 locs ht hvm hr15 hB hz1 hk1 hS => ?_)
            obtain ⟨F216, rfl⟩ : ∃ z, z = u9 := ⟨_, rfl⟩
            obtain ⟨hP1, hK1, hD1⟩ := hB
            rw [ht] at hP1
            replace hK1 := va_K.moved hvm.symm hK1
            try dsimp only at hr15 hP1 hK1 hD1
            obtain ⟨hr15, hr15E⟩ := hr15
            obtain ⟨hPz, hDz⟩ := va_join (wr := []) (w1 := [(h0, .inr (0, oT (upc uT 9 ((uT 9) + (1 : Int32))) p9 a9 e9 n9 o9)), (a9, .inl (ca, 3, .inr (.inr (.inr (.inr (mo da)))))), (da 0, .inr (2, oD (F216 0) (ra 0) (ka 0))), (da 1, .inr (2, oD (F216 1) (ra 1) (ka 1))), (da 2, .inr (2, oD (F216 2) (ra 2) (ka 2)))]) hP hD [0, 1, 2, 3, 4] [] rfl rfl (by decide) (by decide) hk1 hFc hP1 hD1
            clear hP hD hPc hDc hP1 hD1 hFc
            have hP := hPz
            have hD := hDz
            clear hPz hDz
            replace hK := (hK.sub (tys' := []) [] rfl).app hK1
            clear hK1 hKc
            generalize H1 = H at hP hS ⊢
            replace hP : va_P (dC, dI) classes [(h0, .inr (0, oT (upc uT 9 ((uT 9) + (1 : Int32))) p9 a9 e9 n9 o9)), (a9, .inl (ca, 3, .inr (.inr (.inr (.inr (mo da)))))), (da 0, .inr (2, oD (F216 0) (ra 0) (ka 0))), (da 1, .inr (2, oD (F216 1) (ra 1) (ka 1))), (da 2, .inr (2, oD (F216 2) (ra 2) (ka 2)))] H := hP
            replace hD : va_D A [(h0, .inr (0, oT (upc uT 9 ((uT 9) + (1 : Int32))) p9 a9 e9 n9 o9)), (a9, .inl (ca, 3, .inr (.inr (.inr (.inr (mo da)))))), (da 0, .inr (2, oD (F216 0) (ra 0) (ka 0))), (da 1, .inr (2, oD (F216 1) (ra 1) (ka 1))), (da 2, .inr (2, oD (F216 2) (ra 2) (ka 2)))] := hD
            replace hK : va_K (dC, dI) classes [(ca, .object "VotedTriple$VotedModule")] s := hK
            refine W.widen (k := 0) (n := 0) (Nat.le_of_ble_eq_true rfl) (Nat.le_of_ble_eq_true rfl) ?_
            refine lv_iload_n hx hb d_T_vote_108 rfl (lv_at hl 0 rfl) ?_
            have hP9 := hP.sub (ws' := [(h0, .inr (0, oT (upc uT 9 (upc uT 9 ((uT 9) + (1 : Int32)) 9)) p9 a9 e9 n9 o9)), (a9, .inl (ca, 3, .inr (.inr (.inr (.inr (mo da)))))), (da 0, .inr (2, oD (F216 0) (ra 0) (ka 0))), (da 1, .inr (2, oD (F216 1) (ra 1) (ka 1))), (da 2, .inr (2, oD (F216 2) (ra 2) (ka 2)))]) [0, 1, 2, 3, 4] rfl
            have hD9 := hD.sub (ws' := [(h0, .inr (0, oT (upc uT 9 (upc uT 9 ((uT 9) + (1 : Int32)) 9)) p9 a9 e9 n9 o9)), (a9, .inl (ca, 3, .inr (.inr (.inr (.inr (mo da)))))), (da 0, .inr (2, oD (F216 0) (ra 0) (ka 0))), (da 1, .inr (2, oD (F216 1) (ra 1) (ka 1))), (da 2, .inr (2, oD (F216 2) (ra 2) (ka 2)))]) [0, 1, 2, 3, 4] (by decide) rfl
            have hK9 := hK.sub (tys' := [(ca, .object "VotedTriple$VotedModule")]) [0] rfl
            refine W.widen (k := 0) (n := 0) (Nat.le_of_ble_eq_true rfl) (Nat.le_of_ble_eq_true rfl) ?_
            exact W.iret (v := 0) hx hb hr (fun t ht hW => ⟨⟨_, (F216, upc uT 9 ((uT 9) + (1 : Int32)) 9), rfl, ⟨⟨(Or.inr (Or.inl rfl)), hr15⟩, (by rw [hSq0, s_T_vote_cut14_3]; try (rw [if_pos rfl]); try (rw [← hr3E, bnd_eq]); try (rw [← hr5E, bnd_eq]); try (rw [if_neg hc6]); try (rw [← hr8E, bnd_eq]); try (rw [if_pos rfl]); try (rw [← hr11E, bnd_eq]); try (rw [if_neg (by decide)]); try (rw [if_pos rfl]); try (rw [← hr15E, bnd_eq]); all_goals rfl)⟩, by rw [ht]; exact hP9, va_K.moved hW.alike hK9, hD9⟩, hS.F ht⟩) hS.2.2 d_T_vote_109
          · --  1
            refine lv_istore_n hx hb d_T_vote_89 rfl hl (by decide) rfl (fun ls hl => ?_)
            replace hl : lv_has ls 3 [(2, .int 1), (0, .ref h0), (1, .int 0)] := hl
            refine lv_iload_n hx hb d_T_vote_90 rfl (lv_at hl 0 rfl) ?_
            refine lv_iconst (v := (-1)) hx hb d_T_vote_91 (by decide) ?_
            refine lv_icmp_eq (tgt := 108) hx hb d_T_vote_92 rfl (fun hc17 => by first | exact absurd hc17 (by decide) | exact absurd (by decide) hc17) (fun hc17 => ?_)
            refine lv_aload_n hx hb d_T_vote_95 rfl (lv_at hl 1 rfl) ?_
            refine lv_aload_n hx hb d_T_vote_96 rfl (lv_at hl 1 rfl) ?_
            refine va_get (D := (dC, dI)) (ci := 0) (v := .ref a9) (C := "VotedTriple") (T := F_T) (N := 11) hx hb hw in_T hown hK hP 0 rfl rfl 1 (by decide) (hw _ k_195) (fun _ h9 => h9) rfl d_T_vote_97 ?_
            refine lv_iload_n hx hb d_T_vote_100 rfl (lv_at hl 0 rfl) ?_
            refine va_aldq hx hb hK hP 1 0 rfl rfl (by unfold vp_in; decide) d_T_vote_101 ?_
            refine W.eq (g2 := F0 m 102 ls [.ref (da 1), .ref h0]) rfl ?_
            refine va_get (D := (dC, dI)) (ci := 2) (v := .int (F 1 18)) (C := "VotedTriple$VotedModule") (T := F_D) (N := 19) hx hb hw in_D hown hK hP 3 rfl rfl 18 (by decide) (hw _ k_161) (fun _ h9 => h9) rfl d_T_vote_102 ?_
            replace hPc := hP.sub (ws' := [(h0, .inr (0, oT (upc uT 9 ((uT 9) + (1 : Int32))) p9 a9 e9 n9 o9)), (a9, .inl (ca, 3, .inr (.inr (.inr (.inr (mo da)))))), (da 0, .inr (2, oD (F 0) (ra 0) (ka 0))), (da 1, .inr (2, oD (F 1) (ra 1) (ka 1))), (da 2, .inr (2, oD (F 2) (ra 2) (ka 2)))]) [0, 1, 2, 3, 4] rfl
            replace hKc := hK.sub (tys' := [(ca, .object "VotedTriple$VotedModule")]) [0] rfl
            replace hDc := hD.sub (ws' := [(h0, .inr (0, oT (upc uT 9 ((uT 9) + (1 : Int32))) p9 a9 e9 n9 o9)), (a9, .inl (ca, 3, .inr (.inr (.inr (.inr (mo da)))))), (da 0, .inr (2, oD (F 0) (ra 0) (ka 0))), (da 1, .inr (2, oD (F 1) (ra 1) (ka 1))), (da 2, .inr (2, oD (F 2) (ra 2) (ka 2)))]) [0, 1, 2, 3, 4] (by decide) rfl
            replace hFc := va_free (wc := [(h0, .inr (0, oT (upc uT 9 ((uT 9) + (1 : Int32))) p9 a9 e9 n9 o9)), (a9, .inl (ca, 3, .inr (.inr (.inr (.inr (mo da)))))), (da 0, .inr (2, oD (F 0) (ra 0) (ka 0))), (da 1, .inr (2, oD (F 1) (ra 1) (ka 1))), (da 2, .inr (2, oD (F 2) (ra 2) (ka 2)))]) hD hS hA [0, 1, 2, 3, 4] rfl
            refine va_callv (va_runV (C := "VotedTriple") (As := [.int (F 1 18)]) (rest := []) ⟨hx, hb, hml, hown, hw⟩ (c_T_nameAllUnlike l dC dI h0 p9 a9 e9 n9 o9 ca da ra ka (upc uT 9 ((uT 9) + (1 : Int32))) F (F 1 18) hF H.size) (cwV 1 hw (gdV (k_607) (k_604) (k_606) (ks_13) (k_1)) rfl rfl rfl (by decide +kernel) ⟨Nat.le_of_ble_eq_true rfl, Nat.le_of_ble_eq_true rfl⟩) ⟨fun a U g mk q => by obtain ⟨q0, q1, qP, qK, qD⟩ := q; exact ⟨q0, q1, qP, va_K.moved (u := U) (U := U.calling g mk a) (Vm.Alike.refl U.vm) qK, qD⟩, va_recv hK hP rfl (q0 := 0) rfl, fun U hU hW => ⟨rfl, by rw [hU], by rw [hU]; exact hPc, va_K.moved hW.alike hKc, hDc.weaken (fun _ _ _ _ => trivial)⟩⟩ rfl rfl hl.1 rfl (lv_room (Nat.le_of_ble_eq_true rfl)) d_T_vote_105 ⟨Nat.le_of_ble_eq_true rfl, Nat.le_of_ble_eq_true rfl⟩) hS (fun q _ h => hFc q h) hFc (fun u9 t H1 locs ht hvm hr19 hB hz1 hk1 hS => ?_)
            obtain ⟨F220, rfl⟩ : ∃ z, z = u9 := ⟨_, rfl⟩
            obtain ⟨hP1, hK1, hD1⟩ := hB
            rw [ht] at hP1
            replace hK1 := va_K.moved hvm.symm hK1
            try dsimp only at hr19 hP1 hK1 hD1
            obtain ⟨hr19, hr19E⟩ := hr19
            obtain ⟨hPz, hDz⟩ := va_join (wr := []) (w1 := [(h0, .inr (0, oT (upc uT 9 ((uT 9) + (1 : Int32))) p9 a9 e9 n9 o9)), (a9, .inl (ca, 3, .inr (.inr (.inr (.inr (mo da)))))), (da 0, .inr (2, oD (F220 0) (ra 0) (ka 0))), (da 1, .inr (2, oD (F220 1) (ra 1) (ka 1))), (da 2, .inr (2, oD (F220 2) (ra 2) (ka 2)))]) hP hD [0, 1, 2, 3, 4] [] rfl rfl (by decide) (by decide) hk1 hFc hP1 hD1
            clear hP hD hPc hDc hP1 hD1 hFc
            have hP := hPz
            have hD := hDz
            clear hPz hDz
            replace hK := (hK.sub (tys' := []) [] rfl).app hK1
            clear hK1 hKc
            generalize H1 = H at hP hS ⊢
            replace hP : va_P (dC, dI) classes [(h0, .inr (0, oT (upc uT 9 ((uT 9) + (1 : Int32))) p9 a9 e9 n9 o9)), (a9, .inl (ca, 3, .inr (.inr (.inr (.inr (mo da)))))), (da 0, .inr (2, oD (F220 0) (ra 0) (ka 0))), (da 1, .inr (2, oD (F220 1) (ra 1) (ka 1))), (da 2, .inr (2, oD (F220 2) (ra 2) (ka 2)))] H := hP
            replace hD : va_D A [(h0, .inr (0, oT (upc uT 9 ((uT 9) + (1 : Int32))) p9 a9 e9 n9 o9)), (a9, .inl (ca, 3, .inr (.inr (.inr (.inr (mo da)))))), (da 0, .inr (2, oD (F220 0) (ra 0) (ka 0))), (da 1, .inr (2, oD (F220 1) (ra 1) (ka 1))), (da 2, .inr (2, oD (F220 2) (ra 2) (ka 2)))] := hD
            replace hK : va_K (dC, dI) classes [(ca, .object "VotedTriple$VotedModule")] s := hK
            refine W.widen (k := 0) (n := 0) (Nat.le_of_ble_eq_true rfl) (Nat.le_of_ble_eq_true rfl) ?_
            refine lv_iload_n hx hb d_T_vote_108 rfl (lv_at hl 0 rfl) ?_
            have hP9 := hP.sub (ws' := [(h0, .inr (0, oT (upc uT 9 (upc uT 9 ((uT 9) + (1 : Int32)) 9)) p9 a9 e9 n9 o9)), (a9, .inl (ca, 3, .inr (.inr (.inr (.inr (mo da)))))), (da 0, .inr (2, oD (F220 0) (ra 0) (ka 0))), (da 1, .inr (2, oD (F220 1) (ra 1) (ka 1))), (da 2, .inr (2, oD (F220 2) (ra 2) (ka 2)))]) [0, 1, 2, 3, 4] rfl
            have hD9 := hD.sub (ws' := [(h0, .inr (0, oT (upc uT 9 (upc uT 9 ((uT 9) + (1 : Int32)) 9)) p9 a9 e9 n9 o9)), (a9, .inl (ca, 3, .inr (.inr (.inr (.inr (mo da)))))), (da 0, .inr (2, oD (F220 0) (ra 0) (ka 0))), (da 1, .inr (2, oD (F220 1) (ra 1) (ka 1))), (da 2, .inr (2, oD (F220 2) (ra 2) (ka 2)))]) [0, 1, 2, 3, 4] (by decide) rfl
            have hK9 := hK.sub (tys' := [(ca, .object "VotedTriple$VotedModule")]) [0] rfl
            refine W.widen (k := 0) (n := 0) (Nat.le_of_ble_eq_true rfl) (Nat.le_of_ble_eq_true rfl) ?_
            exact W.iret (v := 1) hx hb hr (fun t ht hW => ⟨⟨_, (F220, upc uT 9 ((uT 9) + (1 : Int32)) 9), rfl, ⟨⟨(Or.inr (Or.inr (Or.inl rfl))), hr19⟩, (by rw [hSq0, s_T_vote_cut14_3]; try (rw [if_pos rfl]); try (rw [← hr3E, bnd_eq]); try (rw [← hr5E, bnd_eq]); try (rw [if_neg hc6]); try (rw [← hr8E, bnd_eq]); try (rw [if_pos rfl]); try (rw [← hr11E, bnd_eq]); try (rw [if_neg (by decide)]); try (rw [if_neg (by decide)]); try (rw [if_pos rfl]); try (rw [← hr19E, bnd_eq]); all_goals rfl)⟩, by rw [ht]; exact hP9, va_K.moved hW.alike hK9, hD9⟩, hS.F ht⟩) hS.2.2 d_T_vote_109
          · --  2
            refine lv_istore_n hx hb d_T_vote_89 rfl hl (by decide) rfl (fun ls hl => ?_)
            replace hl : lv_has ls 3 [(2, .int 2), (0, .ref h0), (1, .int 0)] := hl
            refine lv_iload_n hx hb d_T_vote_90 rfl (lv_at hl 0 rfl) ?_
            refine lv_iconst (v := (-1)) hx hb d_T_vote_91 (by decide) ?_
            refine lv_icmp_eq (tgt := 108) hx hb d_T_vote_92 rfl (fun hc21 => by first | exact absurd hc21 (by decide) | exact absurd (by decide) hc21) (fun hc21 => ?_)
            refine lv_aload_n hx hb d_T_vote_95 rfl (lv_at hl 1 rfl) ?_
            refine lv_aload_n hx hb d_T_vote_96 rfl (lv_at hl 1 rfl) ?_
            refine va_get (D := (dC, dI)) (ci := 0) (v := .ref a9) (C := "VotedTriple") (T := F_T) (N := 11) hx hb hw in_T hown hK hP 0 rfl rfl 1 (by decide) (hw _ k_195) (fun _ h9 => h9) rfl d_T_vote_97 ?_
            refine lv_iload_n hx hb d_T_vote_100 rfl (lv_at hl 0 rfl) ?_
            refine va_aldq hx hb hK hP 1 0 rfl rfl (by unfold vp_in; decide) d_T_vote_101 ?_
            refine W.eq (g2 := F0 m 102 ls [.ref (da 2), .ref h0]) rfl ?_
            refine va_get (D := (dC, dI)) (ci := 2) (v := .int (F 2 18)) (C := "VotedTriple$VotedModule") (T := F_D) (N := 19) hx hb hw in_D hown hK hP 4 rfl rfl 18 (by decide) (hw _ k_161) (fun _ h9 => h9) rfl d_T_vote_102 ?_
            replace hPc := hP.sub (ws' := [(h0, .inr (0, oT (upc uT 9 ((uT 9) + (1 : Int32))) p9 a9 e9 n9 o9)), (a9, .inl (ca, 3, .inr (.inr (.inr (.inr (mo da)))))), (da 0, .inr (2, oD (F 0) (ra 0) (ka 0))), (da 1, .inr (2, oD (F 1) (ra 1) (ka 1))), (da 2, .inr (2, oD (F 2) (ra 2) (ka 2)))]) [0, 1, 2, 3, 4] rfl
            replace hKc := hK.sub (tys' := [(ca, .object "VotedTriple$VotedModule")]) [0] rfl
            replace hDc := hD.sub (ws' := [(h0, .inr (0, oT (upc uT 9 ((uT 9) + (1 : Int32))) p9 a9 e9 n9 o9)), (a9, .inl (ca, 3, .inr (.inr (.inr (.inr (mo da)))))), (da 0, .inr (2, oD (F 0) (ra 0) (ka 0))), (da 1, .inr (2, oD (F 1) (ra 1) (ka 1))), (da 2, .inr (2, oD (F 2) (ra 2) (ka 2)))]) [0, 1, 2, 3, 4] (by decide) rfl
            replace hFc := va_free (wc := [(h0, .inr (0, oT (upc uT 9 ((uT 9) + (1 : Int32))) p9 a9 e9 n9 o9)), (a9, .inl (ca, 3, .inr (.inr (.inr (.inr (mo da)))))), (da 0, .inr (2, oD (F 0) (ra 0) (ka 0))), (da 1, .inr (2, oD (F 1) (ra 1) (ka 1))), (da 2, .inr (2, oD (F 2) (ra 2) (ka 2)))]) hD hS hA [0, 1, 2, 3, 4] rfl
            refine va_callv (va_runV (C := "VotedTriple") (As := [.int (F 2 18)]) (rest := []) ⟨hx, hb, hml, hown, hw⟩ (c_T_nameAllUnlike l dC dI h0 p9 a9 e9 n9 o9 ca da ra ka (upc uT 9 ((uT 9) + (1 : Int32))) F (F 2 18) hF H.size) (cwV 1 hw (gdV (k_607) (k_604) (k_606) (ks_13) (k_1)) rfl rfl rfl (by decide +kernel) ⟨Nat.le_of_ble_eq_true rfl, Nat.le_of_ble_eq_true rfl⟩) ⟨fun a U g mk q => by obtain ⟨q0, q1, qP, qK, qD⟩ := q; exact ⟨q0, q1, qP, va_K.moved (u := U) (U := U.calling g mk a) (Vm.Alike.refl U.vm) qK, qD⟩, va_recv hK hP rfl (q0 := 0) rfl, fun U hU hW => ⟨rfl, by rw [hU], by rw [hU]; exact hPc, va_K.moved hW.alike hKc, hDc.weaken (fun _ _ _ _ => trivial)⟩⟩ rfl rfl hl.1 rfl (lv_room (Nat.le_of_ble_eq_true rfl)) d_T_vote_105 ⟨Nat.le_of_ble_eq_true rfl, Nat.le_of_ble_eq_true rfl⟩) hS (fun q _ h => hFc q h) hFc (fun u9 t H1 locs ht hvm hr23 hB hz1 hk1 hS => ?_)
            obtain ⟨F224, rfl⟩ : ∃ z, z = u9 := ⟨_, rfl⟩
            obtain ⟨hP1, hK1, hD1⟩ := hB
            rw [ht] at hP1
            replace hK1 := va_K.moved hvm.symm hK1
            try dsimp only at hr23 hP1 hK1 hD1
            obtain ⟨hr23, hr23E⟩ := hr23
            obtain ⟨hPz, hDz⟩ := va_join (wr := []) (w1 := [(h0, .inr (0, oT (upc uT 9 ((uT 9) + (1 : Int32))) p9 a9 e9 n9 o9)), (a9, .inl (ca, 3, .inr (.inr (.inr (.inr (mo da)))))), (da 0, .inr (2, oD (F224 0) (ra 0) (ka 0))), (da 1, .inr (2, oD (F224 1) (ra 1) (ka 1))), (da 2, .inr (2, oD (F224 2) (ra 2) (ka 2)))]) hP hD [0, 1, 2, 3, 4] [] rfl rfl (by decide) (by decide) hk1 hFc hP1 hD1
            clear hP hD hPc hDc hP1 hD1 hFc
            have hP := hPz
            have hD := hDz
            clear hPz hDz
            replace hK := (hK.sub (tys' := []) [] rfl).app hK1
            clear hK1 hKc
            generalize H1 = H at hP hS ⊢
            replace hP : va_P (dC, dI) classes [(h0, .inr (0, oT (upc uT 9 ((uT 9) + (1 : Int32))) p9 a9 e9 n9 o9)), (a9, .inl (ca, 3, .inr (.inr (.inr (.inr (mo da)))))), (da 0, .inr (2, oD (F224 0) (ra 0) (ka 0))), (da 1, .inr (2, oD (F224 1) (ra 1) (ka 1))), (da 2, .inr (2, oD (F224 2) (ra 2) (ka 2)))] H := hP
            replace hD : va_D A [(h0, .inr (0, oT (upc uT 9 ((uT 9) + (1 : Int32))) p9 a9 e9 n9 o9)), (a9, .inl (ca, 3, .inr (.inr (.inr (.inr (mo da)))))), (da 0, .inr (2, oD (F224 0) (ra 0) (ka 0))), (da 1, .inr (2, oD (F224 1) (ra 1) (ka 1))), (da 2, .inr (2, oD (F224 2) (ra 2) (ka 2)))] := hD
            replace hK : va_K (dC, dI) classes [(ca, .object "VotedTriple$VotedModule")] s := hK
            refine W.widen (k := 0) (n := 0) (Nat.le_of_ble_eq_true rfl) (Nat.le_of_ble_eq_true rfl) ?_
            refine lv_iload_n hx hb d_T_vote_108 rfl (lv_at hl 0 rfl) ?_
            have hP9 := hP.sub (ws' := [(h0, .inr (0, oT (upc uT 9 (upc uT 9 ((uT 9) + (1 : Int32)) 9)) p9 a9 e9 n9 o9)), (a9, .inl (ca, 3, .inr (.inr (.inr (.inr (mo da)))))), (da 0, .inr (2, oD (F224 0) (ra 0) (ka 0))), (da 1, .inr (2, oD (F224 1) (ra 1) (ka 1))), (da 2, .inr (2, oD (F224 2) (ra 2) (ka 2)))]) [0, 1, 2, 3, 4] rfl
            have hD9 := hD.sub (ws' := [(h0, .inr (0, oT (upc uT 9 (upc uT 9 ((uT 9) + (1 : Int32)) 9)) p9 a9 e9 n9 o9)), (a9, .inl (ca, 3, .inr (.inr (.inr (.inr (mo da)))))), (da 0, .inr (2, oD (F224 0) (ra 0) (ka 0))), (da 1, .inr (2, oD (F224 1) (ra 1) (ka 1))), (da 2, .inr (2, oD (F224 2) (ra 2) (ka 2)))]) [0, 1, 2, 3, 4] (by decide) rfl
            have hK9 := hK.sub (tys' := [(ca, .object "VotedTriple$VotedModule")]) [0] rfl
            refine W.widen (k := 0) (n := 0) (Nat.le_of_ble_eq_true rfl) (Nat.le_of_ble_eq_true rfl) ?_
            exact W.iret (v := 2) hx hb hr (fun t ht hW => ⟨⟨_, (F224, upc uT 9 ((uT 9) + (1 : Int32)) 9), rfl, ⟨⟨(Or.inr (Or.inr (Or.inr rfl))), hr23⟩, (by rw [hSq0, s_T_vote_cut14_3]; try (rw [if_pos rfl]); try (rw [← hr3E, bnd_eq]); try (rw [← hr5E, bnd_eq]); try (rw [if_neg hc6]); try (rw [← hr8E, bnd_eq]); try (rw [if_pos rfl]); try (rw [← hr11E, bnd_eq]); try (rw [if_neg (by decide)]); try (rw [if_neg (by decide)]); try (rw [if_neg (by decide)]); try (rw [← hr23E, bnd_eq]); all_goals rfl)⟩, by rw [ht]; exact hP9, va_K.moved hW.alike hK9, hD9⟩, hS.F ht⟩) hS.2.2 d_T_vote_109
        · --  0
          refine lv_istore_n hx hb d_T_vote_79 rfl hl (by decide) rfl (fun ls hl => ?_)
          replace hl : lv_has ls 3 [(2, .int 0), (0, .ref h0), (1, .int 0)] := hl
          refine lv_iload_n hx hb d_T_vote_80 rfl (lv_at hl 0 rfl) ?_
          refine lv_iconst (v := (-1)) hx hb d_T_vote_81 (by decide) ?_
          refine lv_icmp_ne (tgt := 90) hx hb d_T_vote_82 rfl (fun hc25 => ?_) (fun hc25 => by first | exact absurd (by decide) hc25 | exact absurd hc25 (by decide))
          refine lv_iload_n hx hb d_T_vote_90 rfl (lv_at hl 0 rfl) ?_
          refine lv_iconst (v := (-1)) hx hb d_T_vote_91 (by decide) ?_
          refine lv_icmp_eq (tgt := 108) hx hb d_T_vote_92 rfl (fun hc26 => by first | exact absurd hc26 (by decide) | exact absurd (by decide) hc26) (fun hc26 => ?_)
          refine lv_aload_n hx hb d_T_vote_95 rfl (lv_at hl 1 rfl) ?_
          refine lv_aload_n hx hb d_T_vote_96 rfl (lv_at hl 1 rfl) ?_
          refine va_get (D := (dC, dI)) (ci := 0) (v := .ref a9) (C := "VotedTriple") (T := F_T) (N := 11) hx hb hw in_T hown hK hP 0 rfl rfl 1 (by decide) (hw _ k_195) (fun _ h9 => h9) rfl d_T_vote_97 ?_
          refine lv_iload_n hx hb d_T_vote_100 rfl (lv_at hl 0 rfl) ?_
          refine va_aldq hx hb hK hP 1 0 rfl rfl (by unfold vp_in; decide) d_T_vote_101 ?_
          refine W.eq (g2 := F0 m 102 ls [.ref (da 0), .ref h0]) rfl ?_
          refine va_get (D := (dC, dI)) (ci := 2) (v := .int (F 0 18)) (C := "VotedTriple$VotedModule") (T := F_D) (N := 19) hx hb hw in_D hown hK hP 2 rfl rfl 18 (by decide) (hw _ k_161) (fun _ h9 => h9) rfl d_T_vote_102 ?_
          replace hPc := hP.sub (ws' := [(h0, .inr (0, oT (upc uT 9 ((uT 9) + (1 : Int32))) p9 a9 e9 n9 o9)), (a9, .inl (ca, 3, .inr (.inr (.inr (.inr (mo da)))))), (da 0, .inr (2, oD (F 0) (ra 0) (ka 0))), (da 1, .inr (2, oD (F 1) (ra 1) (ka 1))), (da 2, .inr (2, oD (F 2) (ra 2) (ka 2)))]) [0, 1, 2, 3, 4] rfl
          replace hKc := hK.sub (tys' := [(ca, .object "VotedTriple$VotedModule")]) [0] rfl
          replace hDc := hD.sub (ws' := [(h0, .inr (0, oT (upc uT 9 ((uT 9) + (1 : Int32))) p9 a9 e9 n9 o9)), (a9, .inl (ca, 3, .inr (.inr (.inr (.inr (mo da)))))), (da 0, .inr (2, oD (F 0) (ra 0) (ka 0))), (da 1, .inr (2, oD (F 1) (ra 1) (ka 1))), (da 2, .inr (2, oD (F 2) (ra 2) (ka 2)))]) [0, 1, 2, 3, 4] (by decide) rfl
          replace hFc := va_free (wc := [(h0, .inr (0, oT (upc uT 9 ((uT 9) + (1 : Int32))) p9 a9 e9 n9 o9)), (a9, .inl (ca, 3, .inr (.inr (.inr (.inr (mo da)))))), (da 0, .inr (2, oD (F 0) (ra 0) (ka 0))), (da 1, .inr (2, oD (F 1) (ra 1) (ka 1))), (da 2, .inr (2, oD (F 2) (ra 2) (ka 2)))]) hD hS hA [0, 1, 2, 3, 4] rfl
          refine va_callv (va_runV (C := "VotedTriple") (As := [.int (F 0 18)]) (rest := []) ⟨hx, hb, hml, hown, hw⟩ (c_T_nameAllUnlike l dC dI h0 p9 a9 e9 n9 o9 ca da ra ka (upc uT 9 ((uT 9) + (1 : Int32))) F (F 0 18) hF H.size) (cwV 1 hw (gdV (k_607) (k_604) (k_606) (ks_13) (k_1)) rfl rfl rfl (by decide +kernel) ⟨Nat.le_of_ble_eq_true rfl, Nat.le_of_ble_eq_true rfl⟩) ⟨fun a U g mk q => by obtain ⟨q0, q1, qP, qK, qD⟩ := q; exact ⟨q0, q1, qP, va_K.moved (u := U) (U := U.calling g mk a) (Vm.Alike.refl U.vm) qK, qD⟩, va_recv hK hP rfl (q0 := 0) rfl, fun U hU hW => ⟨rfl, by rw [hU], by rw [hU]; exact hPc, va_K.moved hW.alike hKc, hDc.weaken (fun _ _ _ _ => trivial)⟩⟩ rfl rfl hl.1 rfl (lv_room (Nat.le_of_ble_eq_true rfl)) d_T_vote_105 ⟨Nat.le_of_ble_eq_true rfl, Nat.le_of_ble_eq_true rfl⟩) hS (fun q _ h => hFc q h) hFc (fun u9 t H1 locs ht hvm hr28 hB hz1 hk1 hS => ?_)
          obtain ⟨F229, rfl⟩ : ∃ z, z = u9 := ⟨_, rfl⟩
          obtain ⟨hP1, hK1, hD1⟩ := hB
          rw [ht] at hP1
          replace hK1 := va_K.moved hvm.symm hK1
          try dsimp only at hr28 hP1 hK1 hD1
          obtain ⟨hr28, hr28E⟩ := hr28
          obtain ⟨hPz, hDz⟩ := va_join (wr := []) (w1 := [(h0, .inr (0, oT (upc uT 9 ((uT 9) + (1 : Int32))) p9 a9 e9 n9 o9)), (a9, .inl (ca, 3, .inr (.inr (.inr (.inr (mo da)))))), (da 0, .inr (2, oD (F229 0) (ra 0) (ka 0))), (da 1, .inr (2, oD (F229 1) (ra 1) (ka 1))), (da 2, .inr (2, oD (F229 2) (ra 2) (ka 2)))]) hP hD [0, 1, 2, 3, 4] [] rfl rfl (by decide) (by decide) hk1 hFc hP1 hD1
          clear hP hD hPc hDc hP1 hD1 hFc
          have hP := hPz
          have hD := hDz
          clear hPz hDz
          replace hK := (hK.sub (tys' := []) [] rfl).app hK1
          clear hK1 hKc
          generalize H1 = H at hP hS ⊢
          replace hP : va_P (dC, dI) classes [(h0, .inr (0, oT (upc uT 9 ((uT 9) + (1 : Int32))) p9 a9 e9 n9 o9)), (a9, .inl (ca, 3, .inr (.inr (.inr (.inr (mo da)))))), (da 0, .inr (2, oD (F229 0) (ra 0) (ka 0))), (da 1, .inr (2, oD (F229 1) (ra 1) (ka 1))), (da 2, .inr (2, oD (F229 2) (ra 2) (ka 2)))] H := hP
          replace hD : va_D A [(h0, .inr (0, oT (upc uT 9 ((uT 9) + (1 : Int32))) p9 a9 e9 n9 o9)), (a9, .inl (ca, 3, .inr (.inr (.inr (.inr (mo da)))))), (da 0, .inr (2, oD (F229 0) (ra 0) (ka 0))), (da 1, .inr (2, oD (F229 1) (ra 1) (ka 1))), (da 2, .inr (2, oD (F229 2) (ra 2) (ka 2)))] := hD
          replace hK : va_K (dC, dI) classes [(ca, .object "VotedTriple$VotedModule")] s := hK
          refine W.widen (k := 0) (n := 0) (Nat.le_of_ble_eq_true rfl) (Nat.le_of_ble_eq_true rfl) ?_
          refine lv_iload_n hx hb d_T_vote_108 rfl (lv_at hl 0 rfl) ?_
          have hP9 := hP.sub (ws' := [(h0, .inr (0, oT (upc uT 9 (upc uT 9 ((uT 9) + (1 : Int32)) 9)) p9 a9 e9 n9 o9)), (a9, .inl (ca, 3, .inr (.inr (.inr (.inr (mo da)))))), (da 0, .inr (2, oD (F229 0) (ra 0) (ka 0))), (da 1, .inr (2, oD (F229 1) (ra 1) (ka 1))), (da 2, .inr (2, oD (F229 2) (ra 2) (ka 2)))]) [0, 1, 2, 3, 4] rfl
          have hD9 := hD.sub (ws' := [(h0, .inr (0, oT (upc uT 9 (upc uT 9 ((uT 9) + (1 : Int32)) 9)) p9 a9 e9 n9 o9)), (a9, .inl (ca, 3, .inr (.inr (.inr (.inr (mo da)))))), (da 0, .inr (2, oD (F229 0) (ra 0) (ka 0))), (da 1, .inr (2, oD (F229 1) (ra 1) (ka 1))), (da 2, .inr (2, oD (F229 2) (ra 2) (ka 2)))]) [0, 1, 2, 3, 4] (by decide) rfl
          have hK9 := hK.sub (tys' := [(ca, .object "VotedTriple$VotedModule")]) [0] rfl
          refine W.widen (k := 0) (n := 0) (Nat.le_of_ble_eq_true rfl) (Nat.le_of_ble_eq_true rfl) ?_
          exact W.iret (v := 0) hx hb hr (fun t ht hW => ⟨⟨_, (F229, upc uT 9 ((uT 9) + (1 : Int32)) 9), rfl, ⟨⟨(Or.inr (Or.inl rfl)), hr28⟩, (by rw [hSq0, s_T_vote_cut14_3]; try (rw [if_pos rfl]); try (rw [← hr3E, bnd_eq]); try (rw [← hr5E, bnd_eq]); try (rw [if_neg hc6]); try (rw [← hr8E, bnd_eq]); try (rw [if_neg (by decide)]); try (rw [if_pos rfl]); try (rw [← hr28E, bnd_eq]); all_goals rfl)⟩, by rw [ht]; exact hP9, va_K.moved hW.alike hK9, hD9⟩, hS.F ht⟩) hS.2.2 d_T_vote_109
        · --  1
          refine lv_istore_n hx hb d_T_vote_79 rfl hl (by decide) rfl (fun ls hl => ?_)
          replace hl : lv_has ls 3 [(2, .int 1), (0, .ref h0), (1, .int 0)] := hl
          refine lv_iload_n hx hb d_T_vote_80 rfl (lv_at hl 0 rfl) ?_
          refine lv_iconst (v := (-1)) hx hb d_T_vote_81 (by decide) ?_
          refine lv_icmp_ne (tgt := 90) hx hb d_T_vote_82 rfl (fun hc30 => ?_) (fun hc30 => by first | exact absurd (by decide) hc30 | exact absurd hc30 (by decide))
          refine lv_iload_n hx hb d_T_vote_90 rfl (lv_at hl 0 rfl) ?_
          refine lv_iconst (v := (-1)) hx hb d_T_vote_91 (by decide) ?_
          refine lv_icmp_eq (tgt := 108) hx hb d_T_vote_92 rfl (fun hc31 => by first | exact absurd hc31 (by decide) | exact absurd (by decide) hc31) (fun hc31 => ?_)
          refine lv_aload_n hx hb d_T_vote_95 rfl (lv_at hl 1 rfl) ?_
          refine lv_aload_n hx hb d_T_vote_96 rfl (lv_at hl 1 rfl) ?_
          refine va_get (D := (dC, dI)) (ci := 0) (v := .ref a9) (C := "VotedTriple") (T := F_T) (N := 11) hx hb hw in_T hown hK hP 0 rfl rfl 1 (by decide) (hw _ k_195) (fun _ h9 => h9) rfl d_T_vote_97 ?_
          refine lv_iload_n hx hb d_T_vote_100 rfl (lv_at hl 0 rfl) ?_
          refine va_aldq hx hb hK hP 1 0 rfl rfl (by unfold vp_in; decide) d_T_vote_101 ?_
          refine W.eq (g2 := F0 m 102 ls [.ref (da 1), .ref h0]) rfl ?_
          refine va_get (D := (dC, dI)) (ci := 2) (v := .int (F 1 18)) (C := "VotedTriple$VotedModule") (T := F_D) (N := 19) hx hb hw in_D hown hK hP 3 rfl rfl 18 (by decide) (hw _ k_161) (fun _ h9 => h9) rfl d_T_vote_102 ?_
          replace hPc := hP.sub (ws' := [(h0, .inr (0, oT (upc uT 9 ((uT 9) + (1 : Int32))) p9 a9 e9 n9 o9)), (a9, .inl (ca, 3, .inr (.inr (.inr (.inr (mo da)))))), (da 0, .inr (2, oD (F 0) (ra 0) (ka 0))), (da 1, .inr (2, oD (F 1) (ra 1) (ka 1))), (da 2, .inr (2, oD (F 2) (ra 2) (ka 2)))]) [0, 1, 2, 3, 4] rfl
          replace hKc := hK.sub (tys' := [(ca, .object "VotedTriple$VotedModule")]) [0] rfl
          replace hDc := hD.sub (ws' := [(h0, .inr (0, oT (upc uT 9 ((uT 9) + (1 : Int32))) p9 a9 e9 n9 o9)), (a9, .inl (ca, 3, .inr (.inr (.inr (.inr (mo da)))))), (da 0, .inr (2, oD (F 0) (ra 0) (ka 0))), (da 1, .inr (2, oD (F 1) (ra 1) (ka 1))), (da 2, .inr (2, oD (F 2) (ra 2) (ka 2)))]) [0, 1, 2, 3, 4] (by decide) rfl
          replace hFc := va_free (wc := [(h0, .inr (0, oT (upc uT 9 ((uT 9) + (1 : Int32))) p9 a9 e9 n9 o9)), (a9, .inl (ca, 3, .inr (.inr (.inr (.inr (mo da)))))), (da 0, .inr (2, oD (F 0) (ra 0) (ka 0))), (da 1, .inr (2, oD (F 1) (ra 1) (ka 1))), (da 2, .inr (2, oD (F 2) (ra 2) (ka 2)))]) hD hS hA [0, 1, 2, 3, 4] rfl
          refine va_callv (va_runV (C := "VotedTriple") (As := [.int (F 1 18)]) (rest := []) ⟨hx, hb, hml, hown, hw⟩ (c_T_nameAllUnlike l dC dI h0 p9 a9 e9 n9 o9 ca da ra ka (upc uT 9 ((uT 9) + (1 : Int32))) F (F 1 18) hF H.size) (cwV 1 hw (gdV (k_607) (k_604) (k_606) (ks_13) (k_1)) rfl rfl rfl (by decide +kernel) ⟨Nat.le_of_ble_eq_true rfl, Nat.le_of_ble_eq_true rfl⟩) ⟨fun a U g mk q => by obtain ⟨q0, q1, qP, qK, qD⟩ := q; exact ⟨q0, q1, qP, va_K.moved (u := U) (U := U.calling g mk a) (Vm.Alike.refl U.vm) qK, qD⟩, va_recv hK hP rfl (q0 := 0) rfl, fun U hU hW => ⟨rfl, by rw [hU], by rw [hU]; exact hPc, va_K.moved hW.alike hKc, hDc.weaken (fun _ _ _ _ => trivial)⟩⟩ rfl rfl hl.1 rfl (lv_room (Nat.le_of_ble_eq_true rfl)) d_T_vote_105 ⟨Nat.le_of_ble_eq_true rfl, Nat.le_of_ble_eq_true rfl⟩) hS (fun q _ h => hFc q h) hFc (fun u9 t H1 locs ht hvm hr33 hB hz1 hk1 hS => ?_)
          obtain ⟨F234, rfl⟩ : ∃ z, z = u9 := ⟨_, rfl⟩
          obtain ⟨hP1, hK1, hD1⟩ := hB
          rw [ht] at hP1
          replace hK1 := va_K.moved hvm.symm hK1
          try dsimp only at hr33 hP1 hK1 hD1
          obtain ⟨hr33, hr33E⟩ := hr33
          obtain ⟨hPz, hDz⟩ := va_join (wr := []) (w1 := [(h0, .inr (0, oT (upc uT 9 ((uT 9) + (1 : Int32))) p9 a9 e9 n9 o9)), (a9, .inl (ca, 3, .inr (.inr (.inr (.inr (mo da)))))), (da 0, .inr (2, oD (F234 0) (ra 0) (ka 0))), (da 1, .inr (2, oD (F234 1) (ra 1) (ka 1))), (da 2, .inr (2, oD (F234 2) (ra 2) (ka 2)))]) hP hD [0, 1, 2, 3, 4] [] rfl rfl (by decide) (by decide) hk1 hFc hP1 hD1
          clear hP hD hPc hDc hP1 hD1 hFc
          have hP := hPz
          have hD := hDz
          clear hPz hDz
          replace hK := (hK.sub (tys' := []) [] rfl).app hK1
          clear hK1 hKc
          generalize H1 = H at hP hS ⊢
          replace hP : va_P (dC, dI) classes [(h0, .inr (0, oT (upc uT 9 ((uT 9) + (1 : Int32))) p9 a9 e9 n9 o9)), (a9, .inl (ca, 3, .inr (.inr (.inr (.inr (mo da)))))), (da 0, .inr (2, oD (F234 0) (ra 0) (ka 0))), (da 1, .inr (2, oD (F234 1) (ra 1) (ka 1))), (da 2, .inr (2, oD (F234 2) (ra 2) (ka 2)))] H := hP
          replace hD : va_D A [(h0, .inr (0, oT (upc uT 9 ((uT 9) + (1 : Int32))) p9 a9 e9 n9 o9)), (a9, .inl (ca, 3, .inr (.inr (.inr (.inr (mo da)))))), (da 0, .inr (2, oD (F234 0) (ra 0) (ka 0))), (da 1, .inr (2, oD (F234 1) (ra 1) (ka 1))), (da 2, .inr (2, oD (F234 2) (ra 2) (ka 2)))] := hD
          replace hK : va_K (dC, dI) classes [(ca, .object "VotedTriple$VotedModule")] s := hK
          refine W.widen (k := 0) (n := 0) (Nat.le_of_ble_eq_true rfl) (Nat.le_of_ble_eq_true rfl) ?_
          refine lv_iload_n hx hb d_T_vote_108 rfl (lv_at hl 0 rfl) ?_
          have hP9 := hP.sub (ws' := [(h0, .inr (0, oT (upc uT 9 (upc uT 9 ((uT 9) + (1 : Int32)) 9)) p9 a9 e9 n9 o9)), (a9, .inl (ca, 3, .inr (.inr (.inr (.inr (mo da)))))), (da 0, .inr (2, oD (F234 0) (ra 0) (ka 0))), (da 1, .inr (2, oD (F234 1) (ra 1) (ka 1))), (da 2, .inr (2, oD (F234 2) (ra 2) (ka 2)))]) [0, 1, 2, 3, 4] rfl
          have hD9 := hD.sub (ws' := [(h0, .inr (0, oT (upc uT 9 (upc uT 9 ((uT 9) + (1 : Int32)) 9)) p9 a9 e9 n9 o9)), (a9, .inl (ca, 3, .inr (.inr (.inr (.inr (mo da)))))), (da 0, .inr (2, oD (F234 0) (ra 0) (ka 0))), (da 1, .inr (2, oD (F234 1) (ra 1) (ka 1))), (da 2, .inr (2, oD (F234 2) (ra 2) (ka 2)))]) [0, 1, 2, 3, 4] (by decide) rfl
          have hK9 := hK.sub (tys' := [(ca, .object "VotedTriple$VotedModule")]) [0] rfl
          refine W.widen (k := 0) (n := 0) (Nat.le_of_ble_eq_true rfl) (Nat.le_of_ble_eq_true rfl) ?_
          exact W.iret (v := 1) hx hb hr (fun t ht hW => ⟨⟨_, (F234, upc uT 9 ((uT 9) + (1 : Int32)) 9), rfl, ⟨⟨(Or.inr (Or.inr (Or.inl rfl))), hr33⟩, (by rw [hSq0, s_T_vote_cut14_3]; try (rw [if_pos rfl]); try (rw [← hr3E, bnd_eq]); try (rw [← hr5E, bnd_eq]); try (rw [if_neg hc6]); try (rw [← hr8E, bnd_eq]); try (rw [if_neg (by decide)]); try (rw [if_neg (by decide)]); try (rw [if_pos rfl]); try (rw [← hr33E, bnd_eq]); all_goals rfl)⟩, by rw [ht]; exact hP9, va_K.moved hW.alike hK9, hD9⟩, hS.F ht⟩) hS.2.2 d_T_vote_109
        · --  2
          refine lv_istore_n hx hb d_T_vote_79 rfl hl (by decide) rfl (fun ls hl => ?_)
          replace hl : lv_has ls 3 [(2, .int 2), (0, .ref h0), (1, .int 0)] := hl
          refine lv_iload_n hx hb d_T_vote_80 rfl (lv_at hl 0 rfl) ?_
          refine lv_iconst (v := (-1)) hx hb d_T_vote_81 (by decide) ?_
          refine lv_icmp_ne (tgt := 90) hx hb d_T_vote_82 rfl (fun hc35 => ?_) (fun hc35 => by first | exact absurd (by decide) hc35 | exact absurd hc35 (by decide))
          refine lv_iload_n hx hb d_T_vote_90 rfl (lv_at hl 0 rfl) ?_
          refine lv_iconst (v := (-1)) hx hb d_T_vote_91 (by decide) ?_
          refine lv_icmp_eq (tgt := 108) hx hb d_T_vote_92 rfl (fun hc36 => by first | exact absurd hc36 (by decide) | exact absurd (by decide) hc36) (fun hc36 => ?_)
          refine lv_aload_n hx hb d_T_vote_95 rfl (lv_at hl 1 rfl) ?_
          refine lv_aload_n hx hb d_T_vote_96 rfl (lv_at hl 1 rfl) ?_
          refine va_get (D := (dC, dI)) (ci := 0) (v := .ref a9) (C := "VotedTriple") (T := F_T) (N := 11) hx hb hw in_T hown hK hP 0 rfl rfl 1 (by decide) (hw _ k_195) (fun _ h9 => h9) rfl d_T_vote_97 ?_
          refine lv_iload_n hx hb d_T_vote_100 rfl (lv_at hl 0 rfl) ?_
          refine va_aldq hx hb hK hP 1 0 rfl rfl (by unfold vp_in; decide) d_T_vote_101 ?_
          refine W.eq (g2 := F0 m 102 ls [.ref (da 2), .ref h0]) rfl ?_
          refine va_get (D := (dC, dI)) (ci := 2) (v := .int (F 2 18)) (C := "VotedTriple$VotedModule") (T := F_D) (N := 19) hx hb hw in_D hown hK hP 4 rfl rfl 18 (by decide) (hw _ k_161) (fun _ h9 => h9) rfl d_T_vote_102 ?_
          replace hPc := hP.sub (ws' := [(h0, .inr (0, oT (upc uT 9 ((uT 9) + (1 : Int32))) p9 a9 e9 n9 o9)), (a9, .inl (ca, 3, .inr (.inr (.inr (.inr (mo da)))))), (da 0, .inr (2, oD (F 0) (ra 0) (ka 0))), (da 1, .inr (2, oD (F 1) (ra 1) (ka 1))), (da 2, .inr (2, oD (F 2) (ra 2) (ka 2)))]) [0, 1, 2, 3, 4] rfl
          replace hKc := hK.sub (tys' := [(ca, .object "VotedTriple$VotedModule")]) [0] rfl
          replace hDc := hD.sub (ws' := [(h0, .inr (0, oT (upc uT 9 ((uT 9) + (1 : Int32))) p9 a9 e9 n9 o9)), (a9, .inl (ca, 3, .inr (.inr (.inr (.inr (mo da)))))), (da 0, .inr (2, oD (F 0) (ra 0) (ka 0))), (da 1, .inr (2, oD (F 1) (ra 1) (ka 1))), (da 2, .inr (2, oD (F 2) (ra 2) (ka 2)))]) [0, 1, 2, 3, 4] (by decide) rfl
          replace hFc := va_free (wc := [(h0, .inr (0, oT (upc uT 9 ((uT 9) + (1 : Int32))) p9 a9 e9 n9 o9)), (a9, .inl (ca, 3, .inr (.inr (.inr (.inr (mo da)))))), (da 0, .inr (2, oD (F 0) (ra 0) (ka 0))), (da 1, .inr (2, oD (F 1) (ra 1) (ka 1))), (da 2, .inr (2, oD (F 2) (ra 2) (ka 2)))]) hD hS hA [0, 1, 2, 3, 4] rfl
          refine va_callv (va_runV (C := "VotedTriple") (As := [.int (F 2 18)]) (rest := []) ⟨hx, hb, hml, hown, hw⟩ (c_T_nameAllUnlike l dC dI h0 p9 a9 e9 n9 o9 ca da ra ka (upc uT 9 ((uT 9) + (1 : Int32))) F (F 2 18) hF H.size) (cwV 1 hw (gdV (k_607) (k_604) (k_606) (ks_13) (k_1)) rfl rfl rfl (by decide +kernel) ⟨Nat.le_of_ble_eq_true rfl, Nat.le_of_ble_eq_true rfl⟩) ⟨fun a U g mk q => by obtain ⟨q0, q1, qP, qK, qD⟩ := q; exact ⟨q0, q1, qP, va_K.moved (u := U) (U := U.calling g mk a) (Vm.Alike.refl U.vm) qK, qD⟩, va_recv hK hP rfl (q0 := 0) rfl, fun U hU hW => ⟨rfl, by rw [hU], by rw [hU]; exact hPc, va_K.moved hW.alike hKc, hDc.weaken (fun _ _ _ _ => trivial)⟩⟩ rfl rfl hl.1 rfl (lv_room (Nat.le_of_ble_eq_true rfl)) d_T_vote_105 ⟨Nat.le_of_ble_eq_true rfl, Nat.le_of_ble_eq_true rfl⟩) hS (fun q _ h => hFc q h) hFc (fun u9 t H1 locs ht hvm hr38 hB hz1 hk1 hS => ?_)
          obtain ⟨F239, rfl⟩ : ∃ z, z = u9 := ⟨_, rfl⟩
          obtain ⟨hP1, hK1, hD1⟩ := hB
          rw [ht] at hP1
          replace hK1 := va_K.moved hvm.symm hK1
          try dsimp only at hr38 hP1 hK1 hD1
          obtain ⟨hr38, hr38E⟩ := hr38
          obtain ⟨hPz, hDz⟩ := va_join (wr := []) (w1 := [(h0, .inr (0, oT (upc uT 9 ((uT 9) + (1 : Int32))) p9 a9 e9 n9 o9)), (a9, .inl (ca, 3, .inr (.inr (.inr (.inr (mo da)))))), (da 0, .inr (2, oD (F239 0) (ra 0) (ka 0))), (da 1, .inr (2, oD (F239 1) (ra 1) (ka 1))), (da 2, .inr (2, oD (F239 2) (ra 2) (ka 2)))]) hP hD [0, 1, 2, 3, 4] [] rfl rfl (by decide) (by decide) hk1 hFc hP1 hD1
          clear hP hD hPc hDc hP1 hD1 hFc
          have hP := hPz
          have hD := hDz
          clear hPz hDz
          replace hK := (hK.sub (tys' := []) [] rfl).app hK1
          clear hK1 hKc
          generalize H1 = H at hP hS ⊢
          replace hP : va_P (dC, dI) classes [(h0, .inr (0, oT (upc uT 9 ((uT 9) + (1 : Int32))) p9 a9 e9 n9 o9)), (a9, .inl (ca, 3, .inr (.inr (.inr (.inr (mo da)))))), (da 0, .inr (2, oD (F239 0) (ra 0) (ka 0))), (da 1, .inr (2, oD (F239 1) (ra 1) (ka 1))), (da 2, .inr (2, oD (F239 2) (ra 2) (ka 2)))] H := hP
          replace hD : va_D A [(h0, .inr (0, oT (upc uT 9 ((uT 9) + (1 : Int32))) p9 a9 e9 n9 o9)), (a9, .inl (ca, 3, .inr (.inr (.inr (.inr (mo da)))))), (da 0, .inr (2, oD (F239 0) (ra 0) (ka 0))), (da 1, .inr (2, oD (F239 1) (ra 1) (ka 1))), (da 2, .inr (2, oD (F239 2) (ra 2) (ka 2)))] := hD
          replace hK : va_K (dC, dI) classes [(ca, .object "VotedTriple$VotedModule")] s := hK
          refine W.widen (k := 0) (n := 0) (Nat.le_of_ble_eq_true rfl) (Nat.le_of_ble_eq_true rfl) ?_
          refine lv_iload_n hx hb d_T_vote_108 rfl (lv_at hl 0 rfl) ?_
          have hP9 := hP.sub (ws' := [(h0, .inr (0, oT (upc uT 9 (upc uT 9 ((uT 9) + (1 : Int32)) 9)) p9 a9 e9 n9 o9)), (a9, .inl (ca, 3, .inr (.inr (.inr (.inr (mo da)))))), (da 0, .inr (2, oD (F239 0) (ra 0) (ka 0))), (da 1, .inr (2, oD (F239 1) (ra 1) (ka 1))), (da 2, .inr (2, oD (F239 2) (ra 2) (ka 2)))]) [0, 1, 2, 3, 4] rfl
          have hD9 := hD.sub (ws' := [(h0, .inr (0, oT (upc uT 9 (upc uT 9 ((uT 9) + (1 : Int32)) 9)) p9 a9 e9 n9 o9)), (a9, .inl (ca, 3, .inr (.inr (.inr (.inr (mo da)))))), (da 0, .inr (2, oD (F239 0) (ra 0) (ka 0))), (da 1, .inr (2, oD (F239 1) (ra 1) (ka 1))), (da 2, .inr (2, oD (F239 2) (ra 2) (ka 2)))]) [0, 1, 2, 3, 4] (by decide) rfl
          have hK9 := hK.sub (tys' := [(ca, .object "VotedTriple$VotedModule")]) [0] rfl
          refine W.widen (k := 0) (n := 0) (Nat.le_of_ble_eq_true rfl) (Nat.le_of_ble_eq_true rfl) ?_
          exact W.iret (v := 2) hx hb hr (fun t ht hW => ⟨⟨_, (F239, upc uT 9 ((uT 9) + (1 : Int32)) 9), rfl, ⟨⟨(Or.inr (Or.inr (Or.inr rfl))), hr38⟩, (by rw [hSq0, s_T_vote_cut14_3]; try (rw [if_pos rfl]); try (rw [← hr3E, bnd_eq]); try (rw [← hr5E, bnd_eq]); try (rw [if_neg hc6]); try (rw [← hr8E, bnd_eq]); try (rw [if_neg (by decide)]); try (rw [if_neg (by decide)]); try (rw [if_neg (by decide)]); try (rw [← hr38E, bnd_eq]); all_goals rfl)⟩, by rw [ht]; exact hP9, va_K.moved hW.alike hK9, hD9⟩, hS.F ht⟩) hS.2.2 d_T_vote_109
      · --  r2 = r4
        refine lv_iload_n hx hb d_T_vote_63 rfl (lv_at hl 1 rfl) ?_
        have hP9 := hP.sub (ws' := [(h0, .inr (0, oT (upc uT 9 (uT 9)) p9 a9 e9 n9 o9)), (a9, .inl (ca, 3, .inr (.inr (.inr (.inr (mo da)))))), (da 0, .inr (2, oD (F 0) (ra 0) (ka 0))), (da 1, .inr (2, oD (F 1) (ra 1) (ka 1))), (da 2, .inr (2, oD (F 2) (ra 2) (ka 2)))]) [0, 1, 2, 3, 4] rfl
        have hD9 := hD.sub (ws' := [(h0, .inr (0, oT (upc uT 9 (uT 9)) p9 a9 e9 n9 o9)), (a9, .inl (ca, 3, .inr (.inr (.inr (.inr (mo da)))))), (da 0, .inr (2, oD (F 0) (ra 0) (ka 0))), (da 1, .inr (2, oD (F 1) (ra 1) (ka 1))), (da 2, .inr (2, oD (F 2) (ra 2) (ka 2)))]) [0, 1, 2, 3, 4] (by decide) rfl
        have hK9 := hK.sub (tys' := [(ca, .object "VotedTriple$VotedModule")]) [0] rfl
        refine W.widen (k := 0) (n := 0) (Nat.le_of_ble_eq_true rfl) (Nat.le_of_ble_eq_true rfl) ?_
        exact W.iret (v := 0) hx hb hr (fun t ht hW => ⟨⟨_, (F, uT 9), rfl, ⟨⟨(Or.inr (Or.inl rfl)), hF⟩, (by rw [hSq0, s_T_vote_cut14_3]; try (rw [if_pos rfl]); try (rw [← hr3E, bnd_eq]); try (rw [← hr5E, bnd_eq]); try (rw [if_pos hc6]); all_goals rfl)⟩, by rw [ht]; exact hP9, va_K.moved hW.alike hK9, hD9⟩, hS.F ht⟩) hS.2.2 d_T_vote_64
    · --  1
      refine lv_aload_n hx hb d_T_vote_43 rfl (lv_at hl 0 rfl) ?_
      refine lv_aload_n hx hb d_T_vote_44 rfl (lv_at hl 0 rfl) ?_
      refine va_get (D := (dC, dI)) (ci := 0) (v := .ref a9) (C := "VotedTriple") (T := F_T) (N := 11) hx hb hw in_T hown hK hP 0 rfl rfl 1 (by decide) (hw _ k_195) (fun _ h9 => h9) rfl d_T_vote_45 ?_
      refine lv_iload_n hx hb d_T_vote_48 rfl (lv_at hl 1 rfl) ?_
      refine va_aldq hx hb hK hP 1 0 rfl rfl (by unfold vp_in; decide) d_T_vote_49 ?_
      refine W.eq (g2 := F0 m 50 ls [.ref (da 1), .ref h0]) rfl ?_
      refine va_get (D := (dC, dI)) (ci := 2) (v := .int (F 1 18)) (C := "VotedTriple$VotedModule") (T := F_D) (N := 19) hx hb hw in_D hown hK hP 3 rfl rfl 18 (by decide) (hw _ k_161) (fun _ h9 => h9) rfl d_T_vote_50 ?_
      replace hPc := hP.sub (ws' := [(h0, .inr (0, oT uT p9 a9 e9 n9 o9)), (a9, .inl (ca, 3, .inr (.inr (.inr (.inr (mo da)))))), (da 0, .inr (2, oD (F 0) (ra 0) (ka 0))), (da 1, .inr (2, oD (F 1) (ra 1) (ka 1))), (da 2, .inr (2, oD (F 2) (ra 2) (ka 2)))]) [0, 1, 2, 3, 4] rfl
      replace hKc := hK.sub (tys' := [(ca, .object "VotedTriple$VotedModule")]) [0] rfl
      refine vp_callSi (va_runV (C := "VotedTriple") (As := [.int (F 1 18)]) (rest := []) ⟨hx, hb, hml, hown, hw⟩ (c_T_countBallots l dC dI h0 p9 a9 e9 n9 o9 ca da ra ka uT F (F 1 18)) (cwV 1 hw (gdV (k_591) (k_588) (k_590) (ks_9) (k_1)) rfl rfl rfl (by decide +kernel) ⟨Nat.le_of_ble_eq_true rfl, Nat.le_of_ble_eq_true rfl⟩) ⟨fun a U g mk q => ⟨q.1, q.2.1, va_K.moved (u := U) (U := U.calling g mk a) (Vm.Alike.refl U.vm) q.2.2⟩, va_recv hK hP rfl (q0 := 0) rfl, fun U hU hW => ⟨rfl, by rw [hU]; exact hPc, va_K.moved hW.alike hKc⟩⟩ rfl rfl hl.1 rfl (lv_room (Nat.le_of_ble_eq_true rfl)) d_T_vote_53 ⟨Nat.le_of_ble_eq_true rfl, Nat.le_of_ble_eq_true rfl⟩).run (fun r40 hr41 => ?_)
      obtain ⟨hr41, hr41E⟩ := hr41
      refine lv_aload_n hx hb d_T_vote_56 rfl (lv_at hl 0 rfl) ?_
      replace hPc := hP.sub (ws' := [(h0, .inr (0, oT uT p9 a9 e9 n9 o9)), (a9, .inl (ca, 3, .inr (.inr (.inr (.inr (mo da)))))), (da 0, .inr (2, oD (F 0) (ra 0) (ka 0))), (da 1, .inr (2, oD (F 1) (ra 1) (ka 1))), (da 2, .inr (2, oD (F 2) (ra 2) (ka 2)))]) [0, 1, 2, 3, 4] rfl
      replace hKc := hK.sub (tys' := [(ca, .object "VotedTriple$VotedModule")]) [0] rfl
      refine vp_callSi (va_runV (C := "VotedTriple") (As := []) (rest := [.int r40]) ⟨hx, hb, hml, hown, hw⟩ (c_T_countTrusted l dC dI h0 p9 a9 e9 n9 o9 ca da ra ka uT F) (cwV 0 hw (gdV (k_595) (k_592) (k_594) (ks_10) (k_1)) rfl rfl rfl (by decide +kernel) ⟨Nat.le_of_ble_eq_true rfl, Nat.le_of_ble_eq_true rfl⟩) ⟨fun a U g mk q => ⟨q.1, q.2.1, va_K.moved (u := U) (U := U.calling g mk a) (Vm.Alike.refl U.vm) q.2.2⟩, va_recv hK hP rfl (q0 := 0) rfl, fun U hU hW => ⟨rfl, by rw [hU]; exact hPc, va_K.moved hW.alike hKc⟩⟩ rfl rfl hl.1 rfl (lv_room (Nat.le_of_ble_eq_true rfl)) d_T_vote_57 ⟨Nat.le_of_ble_eq_true rfl, Nat.le_of_ble_eq_true rfl⟩).run (fun r42 hr43 => ?_)
      obtain ⟨hr43, hr43E⟩ := hr43
      refine lv_icmp_ne (tgt := 65) hx hb d_T_vote_60 rfl (fun hc44 => ?_) (fun hc44 => ?_)
      · --  ¬ r40 = r42
        refine lv_aload_n hx hb d_T_vote_65 rfl (lv_at hl 0 rfl) ?_
        refine lv_dup hx hb d_T_vote_66 rfl ?_
        refine va_get (D := (dC, dI)) (ci := 0) (v := .int (uT 9)) (C := "VotedTriple") (T := F_T) (N := 11) hx hb hw in_T hown hK hP 0 rfl rfl 9 (by decide) (hw _ k_203) (fun _ h9 => h9) rfl d_T_vote_67 ?_
        refine lv_iconst (v := 1) hx hb d_T_vote_70 (by decide) ?_
        refine lv_iadd hx hb d_T_vote_71 ?_
        refine va_put (D := (dC, dI)) (ci := 0) (v := .int ((uT 9) + (1 : Int32))) (ty := .int) (C := "VotedTriple") (T := F_T) (N := 11) hx hb hw in_T ft_T tyok_T nm_T hown hK hP hD hS 0 rfl rfl 9 (by decide) (hw _ k_203) (fun _ h9 => h9) rfl (by decide +kernel) rfl rfl (Nat.le_of_ble_eq_true rfl) d_T_vote_72 (fun H locs hP hD hS => ?_)
        replace hP : va_P (dC, dI) classes [(h0, .inr (0, [.ref p9, .ref a9, .ref e9, .ref n9, .ref o9, .int (uT 5), .int (uT 6), .int (uT 7), .int (uT 8), .int ((uT 9) + (1 : Int32)), .int (uT 10)])), (a9, .inl (ca, 3, .inr (.inr (.inr (.inr (mo da)))))), (da 0, .inr (2, oD (F 0) (ra 0) (ka 0))), (da 1, .inr (2, oD (F 1) (ra 1) (ka 1))), (da 2, .inr (2, oD (F 2) (ra 2) (ka 2)))] H := hP
        replace hD : va_D A [(h0, .inr (0, [.ref p9, .ref a9, .ref e9, .ref n9, .ref o9, .int (uT 5), .int (uT 6), .int (uT 7), .int (uT 8), .int ((uT 9) + (1 : Int32)), .int (uT 10)])), (a9, .inl (ca, 3, .inr (.inr (.inr (.inr (mo da)))))), (da 0, .inr (2, oD (F 0) (ra 0) (ka 0))), (da 1, .inr (2, oD (F 1) (ra 1) (ka 1))), (da 2, .inr (2, oD (F 2) (ra 2) (ka 2)))] := hD
        refine lv_aload_n hx hb d_T_vote_75 rfl (lv_at hl 0 rfl) ?_
        replace hP : va_P (dC, dI) classes [(h0, .inr (0, oT (upc uT 9 ((uT 9) + (1 : Int32))) p9 a9 e9 n9 o9)), (a9, .inl (ca, 3, .inr (.inr (.inr (.inr (mo da)))))), (da 0, .inr (2, oD (F 0) (ra 0) (ka 0))), (da 1, .inr (2, oD (F 1) (ra 1) (ka 1))), (da 2, .inr (2, oD (F 2) (ra 2) (ka 2)))] H := hP
        replace hD : va_D A [(h0, .inr (0, oT (upc uT 9 ((uT 9) + (1 : Int32))) p9 a9 e9 n9 o9)), (a9, .inl (ca, 3, .inr (.inr (.inr (.inr (mo da)))))), (da 0, .inr (2, oD (F 0) (ra 0) (ka 0))), (da 1, .inr (2, oD (F 1) (ra 1) (ka 1))), (da 2, .inr (2, oD (F 2) (ra 2) (ka 2)))] := hD
        replace hPc := hP.sub (ws' := [(h0, .inr (0, oT (upc uT 9 ((uT 9) + (1 : Int32))) p9 a9 e9 n9 o9)), (a9, .inl (ca, 3, .inr (.inr (.inr (.inr (mo da)))))), (da 0, .inr (2, oD (F 0) (ra 0) (ka 0))), (da 1, .inr (2, oD (F 1) (ra 1) (ka 1))), (da 2, .inr (2, oD (F 2) (ra 2) (ka 2)))]) [0, 1, 2, 3, 4] rfl
        replace hKc := hK.sub (tys' := [(ca, .object "VotedTriple$VotedModule")]) [0] rfl
        refine vp_callSi (va_runV (C := "VotedTriple") (As := []) (rest := []) ⟨hx, hb, hml, hown, hw⟩ (c_T_oneOfTheAlikePair l dC dI h0 p9 a9 e9 n9 o9 ca da ra ka (upc uT 9 ((uT 9) + (1 : Int32))) F) (cwV 0 hw (gdV (k_599) (k_596) (k_598) (ks_11) (k_1)) rfl rfl rfl (by decide +kernel) ⟨Nat.le_of_ble_eq_true rfl, Nat.le_of_ble_eq_true rfl⟩) ⟨fun a U g mk q => ⟨q.1, q.2.1, va_K.moved (u := U) (U := U.calling g mk a) (Vm.Alike.refl U.vm) q.2.2⟩, va_recv hK hP rfl (q0 := 0) rfl, fun U hU hW => ⟨rfl, by rw [hU]; exact hPc, va_K.moved hW.alike hKc⟩⟩ rfl rfl hl.1 rfl (lv_room (Nat.le_of_ble_eq_true rfl)) d_T_vote_76 ⟨Nat.le_of_ble_eq_true rfl, Nat.le_of_ble_eq_true rfl⟩).run (fun r45 hr46 => ?_)
        obtain ⟨hr46, hr46E⟩ := hr46
        rcases hr46 with rfl | rfl | rfl | rfl
        · --  (-1)
          refine lv_istore_n hx hb d_T_vote_79 rfl hl (by decide) rfl (fun ls hl => ?_)
          replace hl : lv_has ls 3 [(2, .int (-1)), (0, .ref h0), (1, .int 1)] := hl
          refine lv_iload_n hx hb d_T_vote_80 rfl (lv_at hl 0 rfl) ?_
          refine lv_iconst (v := (-1)) hx hb d_T_vote_81 (by decide) ?_
          refine lv_icmp_ne (tgt := 90) hx hb d_T_vote_82 rfl (fun hc47 => by first | exact absurd hc47 (fun hh => hh rfl) | exact absurd (fun hh => hh rfl) hc47) (fun hc47 => ?_)
          refine lv_aload_n hx hb d_T_vote_85 rfl (lv_at hl 1 rfl) ?_
          replace hPc := hP.sub (ws' := [(h0, .inr (0, oT (upc uT 9 ((uT 9) + (1 : Int32))) p9 a9 e9 n9 o9)), (a9, .inl (ca, 3, .inr (.inr (.inr (.inr (mo da)))))), (da 0, .inr (2, oD (F 0) (ra 0) (ka 0))), (da 1, .inr (2, oD (F 1) (ra 1) (ka 1))), (da 2, .inr (2, oD (F 2) (ra 2) (ka 2)))]) [0, 1, 2, 3, 4] rfl
          replace hKc := hK.sub (tys' := [(ca, .object "VotedTriple$VotedModule")]) [0] rfl
          refine vp_callSi (va_runV (C := "VotedTriple") (As := []) (rest := []) ⟨hx, hb, hml, hown, hw⟩ (c_T_soundOneOfTwo l dC dI h0 p9 a9 e9 n9 o9 ca da ra ka (upc uT 9 ((uT 9) + (1 : Int32))) F) (cwV 0 hw (gdV (k_603) (k_600) (k_602) (ks_12) (k_1)) rfl rfl rfl (by decide +kernel) ⟨Nat.le_of_ble_eq_true rfl, Nat.le_of_ble_eq_true rfl⟩) ⟨fun a U g mk q => ⟨q.1, q.2.1, va_K.moved (u := U) (U := U.calling g mk a) (Vm.Alike.refl U.vm) q.2.2⟩, va_recv hK hP rfl (q0 := 0) rfl, fun U hU hW => ⟨rfl, by rw [hU]; exact hPc, va_K.moved hW.alike hKc⟩⟩ rfl rfl hl.1 rfl (lv_room (Nat.le_of_ble_eq_true rfl)) d_T_vote_86 ⟨Nat.le_of_ble_eq_true rfl, Nat.le_of_ble_eq_true rfl⟩).run (fun r48 hr49 => ?_)
          obtain ⟨hr49, hr49E⟩ := hr49
          rcases hr49 with rfl | rfl | rfl | rfl
          · --  (-1)
            refine lv_istore_n hx hb d_T_vote_89 rfl hl (by decide) rfl (fun ls hl => ?_)
            replace hl : lv_has ls 3 [(2, .int (-1)), (0, .ref h0), (1, .int 1)] := hl
            refine lv_iload_n hx hb d_T_vote_90 rfl (lv_at hl 0 rfl) ?_
            refine lv_iconst (v := (-1)) hx hb d_T_vote_91 (by decide) ?_
            refine lv_icmp_eq (tgt := 108) hx hb d_T_vote_92 rfl (fun hc50 => ?_) (fun hc50 => by first | exact absurd (rfl) hc50 | exact absurd hc50 (rfl))
            refine lv_iload_n hx hb d_T_vote_108 rfl (lv_at hl 0 rfl) ?_
            have hP9 := hP.sub (ws' := [(h0, .inr (0, oT (upc uT 9 (upc uT 9 ((uT 9) + (1 : Int32)) 9)) p9 a9 e9 n9 o9)), (a9, .inl (ca, 3, .inr (.inr (.inr (.inr (mo da)))))), (da 0, .inr (2, oD (F 0) (ra 0) (ka 0))), (da 1, .inr (2, oD (F 1) (ra 1) (ka 1))), (da 2, .inr (2, oD (F 2) (ra 2) (ka 2)))]) [0, 1, 2, 3, 4] rfl
            have hD9 := hD.sub (ws' := [(h0, .inr (0, oT (upc uT 9 (upc uT 9 ((uT 9) + (1 : Int32)) 9)) p9 a9 e9 n9 o9)), (a9, .inl (ca, 3, .inr (.inr (.inr (.inr (mo da)))))), (da 0, .inr (2, oD (F 0) (ra 0) (ka 0))), (da 1, .inr (2, oD (F 1) (ra 1) (ka 1))), (da 2, .inr (2, oD (F 2) (ra 2) (ka 2)))]) [0, 1, 2, 3, 4] (by decide) rfl
            have hK9 := hK.sub (tys' := [(ca, .object "VotedTriple$VotedModule")]) [0] rfl
            refine W.widen (k := 0) (n := 0) (Nat.le_of_ble_eq_true rfl) (Nat.le_of_ble_eq_true rfl) ?_
            exact W.iret (v := (-1)) hx hb hr (fun t ht hW => ⟨⟨_, (F, upc uT 9 ((uT 9) + (1 : Int32)) 9), rfl, ⟨⟨(Or.inl rfl), hF⟩, (by rw [hSq0, s_T_vote_cut14_3]; try (rw [if_neg (by decide)]); try (rw [if_pos rfl]); try (rw [← hr41E, bnd_eq]); try (rw [← hr43E, bnd_eq]); try (rw [if_neg hc44]); try (rw [← hr46E, bnd_eq]); try (rw [if_pos rfl]); try (rw [← hr49E, bnd_eq]); try (rw [if_pos rfl]); all_goals rfl)⟩, by rw [ht]; exact hP9, va_K.moved hW.alike hK9, hD9⟩, hS.F ht⟩) hS.2.2 d_T_vote_109
          · --  0
            refine lv_istore_n hx hb d_T_vote_89 rfl hl (by decide) rfl (fun ls hl => ?_)
            replace hl : lv_has ls 3 [(2, .int 0), (0, .ref h0), (1, .int 1)] := hl
            refine lv_iload_n hx hb d_T_vote_90 rfl (lv_at hl 0 rfl) ?_
            refine lv_iconst (v := (-1)) hx hb d_T_vote_91 (by decide) ?_
            refine lv_icmp_eq (tgt := 108) hx hb d_T_vote_92 rfl (fun hc51 => by first | exact absurd hc51 (by decide) | exact absurd (by decide) hc51) (fun hc51 => ?_)
            refine lv_aload_n hx hb d_T_vote_95 rfl (lv_at hl 1 rfl) ?_
            refine lv_aload_n hx hb d_T_vote_96 rfl (lv_at hl 1 rfl) ?_
            refine va_get (D := (dC, dI)) (ci := 0) (v := .ref a9) (C := "VotedTriple") (T := F_T) (N := 11) hx hb hw in_T hown hK hP 0 rfl rfl 1 (by decide) (hw _ k_195) (fun _ h9 => h9) rfl d_T_vote_97 ?_
            refine lv_iload_n hx hb d_T_vote_100 rfl (lv_at hl 0 rfl) ?_
            refine va_aldq hx hb hK hP 1 0 rfl rfl (by unfold vp_in; decide) d_T_vote_101 ?_
            refine W.eq (g2 := F0 m 102 ls [.ref (da 0), .ref h0]) rfl ?_
            refine va_get (D := (dC, dI)) (ci := 2) (v := .int (F 0 18)) (C := "VotedTriple$VotedModule") (T := F_D) (N := 19) hx hb hw in_D hown hK hP 2 rfl rfl 18 (by decide) (hw _ k_161) (fun _ h9 => h9) rfl d_T_vote_102 ?_
            replace hPc := hP.sub (ws' := [(h0, .inr (0, oT (upc uT 9 ((uT 9) + (1 : Int32))) p9 a9 e9 n9 o9)), (a9, .inl (ca, 3, .inr (.inr (.inr (.inr (mo da)))))), (da 0, .inr (2, oD (F 0) (ra 0) (ka 0))), (da 1, .inr (2, oD (F 1) (ra 1) (ka 1))), (da 2, .inr (2, oD (F 2) (ra 2) (ka 2)))]) [0, 1, 2, 3, 4] rfl
            replace hKc := hK.sub (tys' := [(ca, .object "VotedTriple$VotedModule")]) [0] rfl
            replace hDc := hD.sub (ws' := [(h0, .inr (0, oT (upc uT 9 ((uT 9) + (1 : Int32))) p9 a9 e9 n9 o9)), (a9, .inl (ca, 3, .inr (.inr (.inr (.inr (mo da)))))), (da 0, .inr (2, oD (F 0) (ra 0) (ka 0))), (da 1, .inr (2, oD (F 1) (ra 1) (ka 1))), (da 2, .inr (2, oD (F 2) (ra 2) (ka 2)))]) [0, 1, 2, 3, 4] (by decide) rfl
            replace hFc := va_free (wc := [(h0, .inr (0, oT (upc uT 9 ((uT 9) + (1 : Int32))) p9 a9 e9 n9 o9)), (a9, .inl (ca, 3, .inr (.inr (.inr (.inr (mo da)))))), (da 0, .inr (2, oD (F 0) (ra 0) (ka 0))), (da 1, .inr (2, oD (F 1) (ra 1) (ka 1))), (da 2, .inr (2, oD (F 2) (ra 2) (ka 2)))]) hD hS hA [0, 1, 2, 3, 4] rfl
            refine va_callv (va_runV (C := "VotedTriple") (As := [.int (F 0 18)]) (rest := []) ⟨hx, hb, hml, hown, hw⟩ (c_T_nameAllUnlike l dC dI h0 p9 a9 e9 n9 o9 ca da ra ka (upc uT 9 ((uT 9) + (1 : Int32))) F (F 0 18) hF H.size) (cwV 1 hw (gdV (k_607) (k_604) (k_606) (ks_13) (k_1)) rfl rfl rfl (by decide +kernel) ⟨Nat.le_of_ble_eq_true rfl, Nat.le_of_ble_eq_true rfl⟩) ⟨fun a U g mk q => by obtain ⟨q0, q1, qP, qK, qD⟩ := q; exact ⟨q0, q1, qP, va_K.moved (u := U) (U := U.calling g mk a) (Vm.Alike.refl U.vm) qK, qD⟩, va_recv hK hP rfl (q0 := 0) rfl, fun U hU hW => ⟨rfl, by rw [hU], by rw [hU]; exact hPc, va_K.moved hW.alike hKc, hDc.weaken (fun _ _ _ _ => trivial)⟩⟩ rfl rfl hl.1 rfl (lv_room (Nat.le_of_ble_eq_true rfl)) d_T_vote_105 ⟨Nat.le_of_ble_eq_true rfl, Nat.le_of_ble_eq_true rfl⟩) hS (fun q _ h => hFc q h) hFc (fun u9 t H1 locs ht hvm hr53 hB hz1 hk1 hS => ?_)
            obtain ⟨F254, rfl⟩ : ∃ z, z = u9 := ⟨_, rfl⟩
            obtain ⟨hP1, hK1, hD1⟩ := hB
            rw [ht] at hP1
            replace hK1 := va_K.moved hvm.symm hK1
            try dsimp only at hr53 hP1 hK1 hD1
            obtain ⟨hr53, hr53E⟩ := hr53
            obtain ⟨hPz, hDz⟩ := va_join (wr := []) (w1 := [(h0, .inr (0, oT (upc uT 9 ((uT 9) + (1 : Int32))) p9 a9 e9 n9 o9)), (a9, .inl (ca, 3, .inr (.inr (.inr (.inr (mo da)))))), (da 0, .inr (2, oD (F254 0) (ra 0) (ka 0))), (da 1, .inr (2, oD (F254 1) (ra 1) (ka 1))), (da 2, .inr (2, oD (F254 2) (ra 2) (ka 2)))]) hP hD [0, 1, 2, 3, 4] [] rfl rfl (by decide) (by decide) hk1 hFc hP1 hD1
            clear hP hD hPc hDc hP1 hD1 hFc
            have hP := hPz
            have hD := hDz
            clear hPz hDz
            replace hK := (hK.sub (tys' := []) [] rfl).app hK1
            clear hK1 hKc
            generalize H1 = H at hP hS ⊢
            replace hP : va_P (dC, dI) classes [(h0, .inr (0, oT (upc uT 9 ((uT 9) + (1 : Int32))) p9 a9 e9 n9 o9)), (a9, .inl (ca, 3, .inr (.inr (.inr (.inr (mo da)))))), (da 0, .inr (2, oD (F254 0) (ra 0) (ka 0))), (da 1, .inr (2, oD (F254 1) (ra 1) (ka 1))), (da 2, .inr (2, oD (F254 2) (ra 2) (ka 2)))] H := hP
            replace hD : va_D A [(h0, .inr (0, oT (upc uT 9 ((uT 9) + (1 : Int32))) p9 a9 e9 n9 o9)), (a9, .inl (ca, 3, .inr (.inr (.inr (.inr (mo da)))))), (da 0, .inr (2, oD (F254 0) (ra 0) (ka 0))), (da 1, .inr (2, oD (F254 1) (ra 1) (ka 1))), (da 2, .inr (2, oD (F254 2) (ra 2) (ka 2)))] := hD
            replace hK : va_K (dC, dI) classes [(ca, .object "VotedTriple$VotedModule")] s := hK
            refine W.widen (k := 0) (n := 0) (Nat.le_of_ble_eq_true rfl) (Nat.le_of_ble_eq_true rfl) ?_
            refine lv_iload_n hx hb d_T_vote_108 rfl (lv_at hl 0 rfl) ?_
            have hP9 := hP.sub (ws' := [(h0, .inr (0, oT (upc uT 9 (upc uT 9 ((uT 9) + (1 : Int32)) 9)) p9 a9 e9 n9 o9)), (a9, .inl (ca, 3, .inr (.inr (.inr (.inr (mo da)))))), (da 0, .inr (2, oD (F254 0) (ra 0) (ka 0))), (da 1, .inr (2, oD (F254 1) (ra 1) (ka 1))), (da 2, .inr (2, oD (F254 2) (ra 2) (ka 2)))]) [0, 1, 2, 3, 4] rfl
            have hD9 := hD.sub (ws' := [(h0, .inr (0, oT (upc uT 9 (upc uT 9 ((uT 9) + (1 : Int32)) 9)) p9 a9 e9 n9 o9)), (a9, .inl (ca, 3, .inr (.inr (.inr (.inr (mo da)))))), (da 0, .inr (2, oD (F254 0) (ra 0) (ka 0))), (da 1, .inr (2, oD (F254 1) (ra 1) (ka 1))), (da 2, .inr (2, oD (F254 2) (ra 2) (ka 2)))]) [0, 1, 2, 3, 4] (by decide) rfl
            have hK9 := hK.sub (tys' := [(ca, .object "VotedTriple$VotedModule")]) [0] rfl
            refine W.widen (k := 0) (n := 0) (Nat.le_of_ble_eq_true rfl) (Nat.le_of_ble_eq_true rfl) ?_
            exact W.iret (v := 0) hx hb hr (fun t ht hW => ⟨⟨_, (F254, upc uT 9 ((uT 9) + (1 : Int32)) 9), rfl, ⟨⟨(Or.inr (Or.inl rfl)), hr53⟩, (by rw [hSq0, s_T_vote_cut14_3]; try (rw [if_neg (by decide)]); try (rw [if_pos rfl]); try (rw [← hr41E, bnd_eq]); try (rw [← hr43E, bnd_eq]); try (rw [if_neg hc44]); try (rw [← hr46E, bnd_eq]); try (rw [if_pos rfl]); try (rw [← hr49E, bnd_eq]); try (rw [if_neg (by decide)]); try (rw [if_pos rfl]); try (rw [← hr53E, bnd_eq]); all_goals rfl)⟩, by rw [ht]; exact hP9, va_K.moved hW.alike hK9, hD9⟩, hS.F ht⟩) hS.2.2 d_T_vote_109
          · --  1
            refine lv_istore_n hx hb d_T_vote_89 rfl hl (by decide) rfl (fun ls hl => ?_)
            replace hl : lv_has ls 3 [(2, .int 1), (0, .ref h0), (1, .int 1)] := hl
            refine lv_iload_n hx hb d_T_vote_90 rfl (lv_at hl 0 rfl) ?_
            refine lv_iconst (v := (-1)) hx hb d_T_vote_91 (by decide) ?_
            refine lv_icmp_eq (tgt := 108) hx hb d_T_vote_92 rfl (fun hc55 => by first | exact absurd hc55 (by decide) | exact absurd (by decide) hc55) (fun hc55 => ?_)
            refine lv_aload_n hx hb d_T_vote_95 rfl (lv_at hl 1 rfl) ?_
            refine lv_aload_n hx hb d_T_vote_96 rfl (lv_at hl 1 rfl) ?_
            refine va_get (D := (dC, dI)) (ci := 0) (v := .ref a9) (C := "VotedTriple") (T := F_T) (N := 11) hx hb hw in_T hown hK hP 0 rfl rfl 1 (by decide) (hw _ k_195) (fun _ h9 => h9) rfl d_T_vote_97 ?_
            refine lv_iload_n hx hb d_T_vote_100 rfl (lv_at hl 0 rfl) ?_
            refine va_aldq hx hb hK hP 1 0 rfl rfl (by unfold vp_in; decide) d_T_vote_101 ?_
            refine W.eq (g2 := F0 m 102 ls [.ref (da 1), .ref h0]) rfl ?_
            refine va_get (D := (dC, dI)) (ci := 2) (v := .int (F 1 18)) (C := "VotedTriple$VotedModule") (T := F_D) (N := 19) hx hb hw in_D hown hK hP 3 rfl rfl 18 (by decide) (hw _ k_161) (fun _ h9 => h9) rfl d_T_vote_102 ?_
            replace hPc := hP.sub (ws' := [(h0, .inr (0, oT (upc uT 9 ((uT 9) + (1 : Int32))) p9 a9 e9 n9 o9)), (a9, .inl (ca, 3, .inr (.inr (.inr (.inr (mo da)))))), (da 0, .inr (2, oD (F 0) (ra 0) (ka 0))), (da 1, .inr (2, oD (F 1) (ra 1) (ka 1))), (da 2, .inr (2, oD (F 2) (ra 2) (ka 2)))]) [0, 1, 2, 3, 4] rfl
            replace hKc := hK.sub (tys' := [(ca, .object "VotedTriple$VotedModule")]) [0] rfl
            replace hDc := hD.sub (ws' := [(h0, .inr (0, oT (upc uT 9 ((uT 9) + (1 : Int32))) p9 a9 e9 n9 o9)), (a9, .inl (ca, 3, .inr (.inr (.inr (.inr (mo da)))))), (da 0, .inr (2, oD (F 0) (ra 0) (ka 0))), (da 1, .inr (2, oD (F 1) (ra 1) (ka 1))), (da 2, .inr (2, oD (F 2) (ra 2) (ka 2)))]) [0, 1, 2, 3, 4] (by decide) rfl
            replace hFc := va_free (wc := [(h0, .inr (0, oT (upc uT 9 ((uT 9) + (1 : Int32))) p9 a9 e9 n9 o9)), (a9, .inl (ca, 3, .inr (.inr (.inr (.inr (mo da)))))), (da 0, .inr (2, oD (F 0) (ra 0) (ka 0))), (da 1, .inr (2, oD (F 1) (ra 1) (ka 1))), (da 2, .inr (2, oD (F 2) (ra 2) (ka 2)))]) hD hS hA [0, 1, 2, 3, 4] rfl
            refine va_callv (va_runV (C := "VotedTriple") (As := [.int (F 1 18)]) (rest := []) ⟨hx, hb, hml, hown, hw⟩ (c_T_nameAllUnlike l dC dI h0 p9 a9 e9 n9 o9 ca da ra ka (upc uT 9 ((uT 9) + (1 : Int32))) F (F 1 18) hF H.size) (cwV 1 hw (gdV (k_607) (k_604) (k_606) (ks_13) (k_1)) rfl rfl rfl (by decide +kernel) ⟨Nat.le_of_ble_eq_true rfl, Nat.le_of_ble_eq_true rfl⟩) ⟨fun a U g mk q => by obtain ⟨q0, q1, qP, qK, qD⟩ := q; exact ⟨q0, q1, qP, va_K.moved (u := U) (U := U.calling g mk a) (Vm.Alike.refl U.vm) qK, qD⟩, va_recv hK hP rfl (q0 := 0) rfl, fun U hU hW => ⟨rfl, by rw [hU], by rw [hU]; exact hPc, va_K.moved hW.alike hKc, hDc.weaken (fun _ _ _ _ => trivial)⟩⟩ rfl rfl hl.1 rfl (lv_room (Nat.le_of_ble_eq_true rfl)) d_T_vote_105 ⟨Nat.le_of_ble_eq_true rfl, Nat.le_of_ble_eq_true rfl⟩) hS (fun q _ h => hFc q h) hFc (fun u9 t H1 locs ht hvm hr57 hB hz1 hk1 hS => ?_)
            obtain ⟨F258, rfl⟩ : ∃ z, z = u9 := ⟨_, rfl⟩
            obtain ⟨hP1, hK1, hD1⟩ := hB
            rw [ht] at hP1
            replace hK1 := va_K.moved hvm.symm hK1
            try dsimp only at hr57 hP1 hK1 hD1
            obtain ⟨hr57, hr57E⟩ := hr57
            obtain ⟨hPz, hDz⟩ := va_join (wr := []) (w1 := [(h0, .inr (0, oT (upc uT 9 ((uT 9) + (1 : Int32))) p9 a9 e9 n9 o9)), (a9, .inl (ca, 3, .inr (.inr (.inr (.inr (mo da)))))), (da 0, .inr (2, oD (F258 0) (ra 0) (ka 0))), (da 1, .inr (2, oD (F258 1) (ra 1) (ka 1))), (da 2, .inr (2, oD (F258 2) (ra 2) (ka 2)))]) hP hD [0, 1, 2, 3, 4] [] rfl rfl (by decide) (by decide) hk1 hFc hP1 hD1
            clear hP hD hPc hDc hP1 hD1 hFc
            have hP := hPz
            have hD := hDz
            clear hPz hDz
            replace hK := (hK.sub (tys' := []) [] rfl).app hK1
            clear hK1 hKc
            generalize H1 = H at hP hS ⊢
            replace hP : va_P (dC, dI) classes [(h0, .inr (0, oT (upc uT 9 ((uT 9) + (1 : Int32))) p9 a9 e9 n9 o9)), (a9, .inl (ca, 3, .inr (.inr (.inr (.inr (mo da)))))), (da 0, .inr (2, oD (F258 0) (ra 0) (ka 0))), (da 1, .inr (2, oD (F258 1) (ra 1) (ka 1))), (da 2, .inr (2, oD (F258 2) (ra 2) (ka 2)))] H := hP
            replace hD : va_D A [(h0, .inr (0, oT (upc uT 9 ((uT 9) + (1 : Int32))) p9 a9 e9 n9 o9)), (a9, .inl (ca, 3, .inr (.inr (.inr (.inr (mo da)))))), (da 0, .inr (2, oD (F258 0) (ra 0) (ka 0))), (da 1, .inr (2, oD (F258 1) (ra 1) (ka 1))), (da 2, .inr (2, oD (F258 2) (ra 2) (ka 2)))] := hD
            replace hK : va_K (dC, dI) classes [(ca, .object "VotedTriple$VotedModule")] s := hK
            refine W.widen (k := 0) (n := 0) (Nat.le_of_ble_eq_true rfl) (Nat.le_of_ble_eq_true rfl) ?_
            refine lv_iload_n hx hb d_T_vote_108 rfl (lv_at hl 0 rfl) ?_
            have hP9 := hP.sub (ws' := [(h0, .inr (0, oT (upc uT 9 (upc uT 9 ((uT 9) + (1 : Int32)) 9)) p9 a9 e9 n9 o9)), (a9, .inl (ca, 3, .inr (.inr (.inr (.inr (mo da)))))), (da 0, .inr (2, oD (F258 0) (ra 0) (ka 0))), (da 1, .inr (2, oD (F258 1) (ra 1) (ka 1))), (da 2, .inr (2, oD (F258 2) (ra 2) (ka 2)))]) [0, 1, 2, 3, 4] rfl
            have hD9 := hD.sub (ws' := [(h0, .inr (0, oT (upc uT 9 (upc uT 9 ((uT 9) + (1 : Int32)) 9)) p9 a9 e9 n9 o9)), (a9, .inl (ca, 3, .inr (.inr (.inr (.inr (mo da)))))), (da 0, .inr (2, oD (F258 0) (ra 0) (ka 0))), (da 1, .inr (2, oD (F258 1) (ra 1) (ka 1))), (da 2, .inr (2, oD (F258 2) (ra 2) (ka 2)))]) [0, 1, 2, 3, 4] (by decide) rfl
            have hK9 := hK.sub (tys' := [(ca, .object "VotedTriple$VotedModule")]) [0] rfl
            refine W.widen (k := 0) (n := 0) (Nat.le_of_ble_eq_true rfl) (Nat.le_of_ble_eq_true rfl) ?_
            exact W.iret (v := 1) hx hb hr (fun t ht hW => ⟨⟨_, (F258, upc uT 9 ((uT 9) + (1 : Int32)) 9), rfl, ⟨⟨(Or.inr (Or.inr (Or.inl rfl))), hr57⟩, (by rw [hSq0, s_T_vote_cut14_3]; try (rw [if_neg (by decide)]); try (rw [if_pos rfl]); try (rw [← hr41E, bnd_eq]); try (rw [← hr43E, bnd_eq]); try (rw [if_neg hc44]); try (rw [← hr46E, bnd_eq]); try (rw [if_pos rfl]); try (rw [← hr49E, bnd_eq]); try (rw [if_neg (by decide)]); try (rw [if_neg (by decide)]); try (rw [if_pos rfl]); try (rw [← hr57E, bnd_eq]); all_goals rfl)⟩, by rw [ht]; exact hP9, va_K.moved hW.alike hK9, hD9⟩, hS.F ht⟩) hS.2.2 d_T_vote_109
          · --  2
            refine lv_istore_n hx hb d_T_vote_89 rfl hl (by decide) rfl (fun ls hl => ?_)
            replace hl : lv_has ls 3 [(2, .int 2), (0, .ref h0), (1, .int 1)] := hl
            refine lv_iload_n hx hb d_T_vote_90 rfl (lv_at hl 0 rfl) ?_
            refine lv_iconst (v := (-1)) hx hb d_T_vote_91 (by decide) ?_
            refine lv_icmp_eq (tgt := 108) hx hb d_T_vote_92 rfl (fun hc59 => by first | exact absurd hc59 (by decide) | exact absurd (by decide) hc59) (fun hc59 => ?_)
            refine lv_aload_n hx hb d_T_vote_95 rfl (lv_at hl 1 rfl) ?_
            refine lv_aload_n hx hb d_T_vote_96 rfl (lv_at hl 1 rfl) ?_
            refine va_get (D := (dC, dI)) (ci := 0) (v := .ref a9) (C := "VotedTriple") (T := F_T) (N := 11) hx hb hw in_T hown hK hP 0 rfl rfl 1 (by decide) (hw _ k_195) (fun _ h9 => h9) rfl d_T_vote_97 ?_
            refine lv_iload_n hx hb d_T_vote_100 rfl (lv_at hl 0 rfl) ?_
            refine va_aldq hx hb hK hP 1 0 rfl rfl (by unfold vp_in; decide) d_T_vote_101 ?_
            refine W.eq (g2 := F0 m 102 ls [.ref (da 2), .ref h0]) rfl ?_
            refine va_get (D := (dC, dI)) (ci := 2) (v := .int (F 2 18)) (C := "VotedTriple$VotedModule") (T := F_D) (N := 19) hx hb hw in_D hown hK hP 4 rfl rfl 18 (by decide) (hw _ k_161) (fun _ h9 => h9) rfl d_T_vote_102 ?_
            replace hPc := hP.sub (ws' := [(h0, .inr (0, oT (upc uT 9 ((uT 9) + (1 : Int32))) p9 a9 e9 n9 o9)), (a9, .inl (ca, 3, .inr (.inr (.inr (.inr (mo da)))))), (da 0, .inr (2, oD (F 0) (ra 0) (ka 0))), (da 1, .inr (2, oD (F 1) (ra 1) (ka 1))), (da 2, .inr (2, oD (F 2) (ra 2) (ka 2)))]) [0, 1, 2, 3, 4] rfl
            replace hKc := hK.sub (tys' := [(ca, .object "VotedTriple$VotedModule")]) [0] rfl
            replace hDc := hD.sub (ws' := [(h0, .inr (0, oT (upc uT 9 ((uT 9) + (1 : Int32))) p9 a9 e9 n9 o9)), (a9, .inl (ca, 3, .inr (.inr (.inr (.inr (mo da)))))), (da 0, .inr (2, oD (F 0) (ra 0) (ka 0))), (da 1, .inr (2, oD (F 1) (ra 1) (ka 1))), (da 2, .inr (2, oD (F 2) (ra 2) (ka 2)))]) [0, 1, 2, 3, 4] (by decide) rfl
            replace hFc := va_free (wc := [(h0, .inr (0, oT (upc uT 9 ((uT 9) + (1 : Int32))) p9 a9 e9 n9 o9)), (a9, .inl (ca, 3, .inr (.inr (.inr (.inr (mo da)))))), (da 0, .inr (2, oD (F 0) (ra 0) (ka 0))), (da 1, .inr (2, oD (F 1) (ra 1) (ka 1))), (da 2, .inr (2, oD (F 2) (ra 2) (ka 2)))]) hD hS hA [0, 1, 2, 3, 4] rfl
            refine va_callv (va_runV (C := "VotedTriple") (As := [.int (F 2 18)]) (rest := []) ⟨hx, hb, hml, hown, hw⟩ (c_T_nameAllUnlike l dC dI h0 p9 a9 e9 n9 o9 ca da ra ka (upc uT 9 ((uT 9) + (1 : Int32))) F (F 2 18) hF H.size) (cwV 1 hw (gdV (k_607) (k_604) (k_606) (ks_13) (k_1)) rfl rfl rfl (by decide +kernel) ⟨Nat.le_of_ble_eq_true rfl, Nat.le_of_ble_eq_true rfl⟩) ⟨fun a U g mk q => by obtain ⟨q0, q1, qP, qK, qD⟩ := q; exact ⟨q0, q1, qP, va_K.moved (u := U) (U := U.calling g mk a) (Vm.Alike.refl U.vm) qK, qD⟩, va_recv hK hP rfl (q0 := 0) rfl, fun U hU hW => ⟨rfl, by rw [hU], by rw [hU]; exact hPc, va_K.moved hW.alike hKc, hDc.weaken (fun _ _ _ _ => trivial)⟩⟩ rfl rfl hl.1 rfl (lv_room (Nat.le_of_ble_eq_true rfl)) d_T_vote_105 ⟨Nat.le_of_ble_eq_true rfl, Nat.le_of_ble_eq_true rfl⟩) hS (fun q _ h => hFc q h) hFc (fun u9 t H1 locs ht hvm hr61 hB hz1 hk1 hS => ?_)
            obtain ⟨F262, rfl⟩ : ∃ z, z = u9 := ⟨_, rfl⟩
            obtain ⟨hP1, hK1, hD1⟩ := hB
            rw [ht] at hP1
            replace hK1 := va_K.moved hvm.symm hK1
            try dsimp only at hr61 hP1 hK1 hD1
            obtain ⟨hr61, hr61E⟩ := hr61
            obtain ⟨hPz, hDz⟩ := va_join (wr := []) (w1 := [(h0, .inr (0, oT (upc uT 9 ((uT 9) + (1 : Int32))) p9 a9 e9 n9 o9)), (a9, .inl (ca, 3, .inr (.inr (.inr (.inr (mo da)))))), (da 0, .inr (2, oD (F262 0) (ra 0) (ka 0))), (da 1, .inr (2, oD (F262 1) (ra 1) (ka 1))), (da 2, .inr (2, oD (F262 2) (ra 2) (ka 2)))]) hP hD [0, 1, 2, 3, 4] [] rfl rfl (by decide) (by decide) hk1 hFc hP1 hD1
            clear hP hD hPc hDc hP1 hD1 hFc
            have hP := hPz
            have hD := hDz
            clear hPz hDz
            replace hK := (hK.sub (tys' := []) [] rfl).app hK1
            clear hK1 hKc
            generalize H1 = H at hP hS ⊢
            replace hP : va_P (dC, dI) classes [(h0, .inr (0, oT (upc uT 9 ((uT 9) + (1 : Int32))) p9 a9 e9 n9 o9)), (a9, .inl (ca, 3, .inr (.inr (.inr (.inr (mo da)))))), (da 0, .inr (2, oD (F262 0) (ra 0) (ka 0))), (da 1, .inr (2, oD (F262 1) (ra 1) (ka 1))), (da 2, .inr (2, oD (F262 2) (ra 2) (ka 2)))] H := hP
            replace hD : va_D A [(h0, .inr (0, oT (upc uT 9 ((uT 9) + (1 : Int32))) p9 a9 e9 n9 o9)), (a9, .inl (ca, 3, .inr (.inr (.inr (.inr (mo da)))))), (da 0, .inr (2, oD (F262 0) (ra 0) (ka 0))), (da 1, .inr (2, oD (F262 1) (ra 1) (ka 1))), (da 2, .inr (2, oD (F262 2) (ra 2) (ka 2)))] := hD
            replace hK : va_K (dC, dI) classes [(ca, .object "VotedTriple$VotedModule")] s := hK
            refine W.widen (k := 0) (n := 0) (Nat.le_of_ble_eq_true rfl) (Nat.le_of_ble_eq_true rfl) ?_
            refine lv_iload_n hx hb d_T_vote_108 rfl (lv_at hl 0 rfl) ?_
            have hP9 := hP.sub (ws' := [(h0, .inr (0, oT (upc uT 9 (upc uT 9 ((uT 9) + (1 : Int32)) 9)) p9 a9 e9 n9 o9)), (a9, .inl (ca, 3, .inr (.inr (.inr (.inr (mo da)))))), (da 0, .inr (2, oD (F262 0) (ra 0) (ka 0))), (da 1, .inr (2, oD (F262 1) (ra 1) (ka 1))), (da 2, .inr (2, oD (F262 2) (ra 2) (ka 2)))]) [0, 1, 2, 3, 4] rfl
            have hD9 := hD.sub (ws' := [(h0, .inr (0, oT (upc uT 9 (upc uT 9 ((uT 9) + (1 : Int32)) 9)) p9 a9 e9 n9 o9)), (a9, .inl (ca, 3, .inr (.inr (.inr (.inr (mo da)))))), (da 0, .inr (2, oD (F262 0) (ra 0) (ka 0))), (da 1, .inr (2, oD (F262 1) (ra 1) (ka 1))), (da 2, .inr (2, oD (F262 2) (ra 2) (ka 2)))]) [0, 1, 2, 3, 4] (by decide) rfl
            have hK9 := hK.sub (tys' := [(ca, .object "VotedTriple$VotedModule")]) [0] rfl
            refine W.widen (k := 0) (n := 0) (Nat.le_of_ble_eq_true rfl) (Nat.le_of_ble_eq_true rfl) ?_
            exact W.iret (v := 2) hx hb hr (fun t ht hW => ⟨⟨_, (F262, upc uT 9 ((uT 9) + (1 : Int32)) 9), rfl, ⟨⟨(Or.inr (Or.inr (Or.inr rfl))), hr61⟩, (by rw [hSq0, s_T_vote_cut14_3]; try (rw [if_neg (by decide)]); try (rw [if_pos rfl]); try (rw [← hr41E, bnd_eq]); try (rw [← hr43E, bnd_eq]); try (rw [if_neg hc44]); try (rw [← hr46E, bnd_eq]); try (rw [if_pos rfl]); try (rw [← hr49E, bnd_eq]); try (rw [if_neg (by decide)]); try (rw [if_neg (by decide)]); try (rw [if_neg (by decide)]); try (rw [← hr61E, bnd_eq]); all_goals rfl)⟩, by rw [ht]; exact hP9, va_K.moved hW.alike hK9, hD9⟩, hS.F ht⟩) hS.2.2 d_T_vote_109
        · --  0
          refine lv_istore_n hx hb d_T_vote_79 rfl hl (by decide) rfl (fun ls hl => ?_)
          replace hl : lv_has ls 3 [(2, .int 0), (0, .ref h0), (1, .int 1)] := hl
          refine lv_iload_n hx hb d_T_vote_80 rfl (lv_at hl 0 rfl) ?_
          refine lv_iconst (v := (-1)) hx hb d_T_vote_81 (by decide) ?_
          refine lv_icmp_ne (tgt := 90) hx hb d_T_vote_82 rfl (fun hc63 => ?_) (fun hc63 => by first | exact absurd (by decide) hc63 | exact absurd hc63 (by decide))
          refine lv_iload_n hx hb d_T_vote_90 rfl (lv_at hl 0 rfl) ?_
          refine lv_iconst (v := (-1)) hx hb d_T_vote_91 (by decide) ?_
          refine lv_icmp_eq (tgt := 108) hx hb d_T_vote_92 rfl (fun hc64 => by first | exact absurd hc64 (by decide) | exact absurd (by decide) hc64) (fun hc64 => ?_)
          refine lv_aload_n hx hb d_T_vote_95 rfl (lv_at hl 1 rfl) ?_
          refine lv_aload_n hx hb d_T_vote_96 rfl (lv_at hl 1 rfl) ?_
          refine va_get (D := (dC, dI)) (ci := 0) (v := .ref a9) (C := "VotedTriple") (T := F_T) (N := 11) hx hb hw in_T hown hK hP 0 rfl rfl 1 (by decide) (hw _ k_195) (fun _ h9 => h9) rfl d_T_vote_97 ?_
          refine lv_iload_n hx hb d_T_vote_100 rfl (lv_at hl 0 rfl) ?_
          refine va_aldq hx hb hK hP 1 0 rfl rfl (by unfold vp_in; decide) d_T_vote_101 ?_
          refine W.eq (g2 := F0 m 102 ls [.ref (da 0), .ref h0]) rfl ?_
          refine va_get (D := (dC, dI)) (ci := 2) (v := .int (F 0 18)) (C := "VotedTriple$VotedModule") (T := F_D) (N := 19) hx hb hw in_D hown hK hP 2 rfl rfl 18 (by decide) (hw _ k_161) (fun _ h9 => h9) rfl d_T_vote_102 ?_
          replace hPc := hP.sub (ws' := [(h0, .inr (0, oT (upc uT 9 ((uT 9) + (1 : Int32))) p9 a9 e9 n9 o9)), (a9, .inl (ca, 3, .inr (.inr (.inr (.inr (mo da)))))), (da 0, .inr (2, oD (F 0) (ra 0) (ka 0))), (da 1, .inr (2, oD (F 1) (ra 1) (ka 1))), (da 2, .inr (2, oD (F 2) (ra 2) (ka 2)))]) [0, 1, 2, 3, 4] rfl
          replace hKc := hK.sub (tys' := [(ca, .object "VotedTriple$VotedModule")]) [0] rfl
          replace hDc := hD.sub (ws' := [(h0, .inr (0, oT (upc uT 9 ((uT 9) + (1 : Int32))) p9 a9 e9 n9 o9)), (a9, .inl (ca, 3, .inr (.inr (.inr (.inr (mo da)))))), (da 0, .inr (2, oD (F 0) (ra 0) (ka 0))), (da 1, .inr (2, oD (F 1) (ra 1) (ka 1))), (da 2, .inr (2, oD (F 2) (ra 2) (ka 2)))]) [0, 1, 2, 3, 4] (by decide) rfl
          replace hFc := va_free (wc := [(h0, .inr (0, oT (upc uT 9 ((uT 9) + (1 : Int32))) p9 a9 e9 n9 o9)), (a9, .inl (ca, 3, .inr (.inr (.inr (.inr (mo da)))))), (da 0, .inr (2, oD (F 0) (ra 0) (ka 0))), (da 1, .inr (2, oD (F 1) (ra 1) (ka 1))), (da 2, .inr (2, oD (F 2) (ra 2) (ka 2)))]) hD hS hA [0, 1, 2, 3, 4] rfl
          refine va_callv (va_runV (C := "VotedTriple") (As := [.int (F 0 18)]) (rest := []) ⟨hx, hb, hml, hown, hw⟩ (c_T_nameAllUnlike l dC dI h0 p9 a9 e9 n9 o9 ca da ra ka (upc uT 9 ((uT 9) + (1 : Int32))) F (F 0 18) hF H.size) (cwV 1 hw (gdV (k_607) (k_604) (k_606) (ks_13) (k_1)) rfl rfl rfl (by decide +kernel) ⟨Nat.le_of_ble_eq_true rfl, Nat.le_of_ble_eq_true rfl⟩) ⟨fun a U g mk q => by obtain ⟨q0, q1, qP, qK, qD⟩ := q; exact ⟨q0, q1, qP, va_K.moved (u := U) (U := U.calling g mk a) (Vm.Alike.refl U.vm) qK, qD⟩, va_recv hK hP rfl (q0 := 0) rfl, fun U hU hW => ⟨rfl, by rw [hU], by rw [hU]; exact hPc, va_K.moved hW.alike hKc, hDc.weaken (fun _ _ _ _ => trivial)⟩⟩ rfl rfl hl.1 rfl (lv_room (Nat.le_of_ble_eq_true rfl)) d_T_vote_105 ⟨Nat.le_of_ble_eq_true rfl, Nat.le_of_ble_eq_true rfl⟩) hS (fun q _ h => hFc q h) hFc (fun u9 t H1 locs ht hvm hr66 hB hz1 hk1 hS => ?_)
          obtain ⟨F267, rfl⟩ : ∃ z, z = u9 := ⟨_, rfl⟩
          obtain ⟨hP1, hK1, hD1⟩ := hB
          rw [ht] at hP1
          replace hK1 := va_K.moved hvm.symm hK1
          try dsimp only at hr66 hP1 hK1 hD1
          obtain ⟨hr66, hr66E⟩ := hr66
          obtain ⟨hPz, hDz⟩ := va_join (wr := []) (w1 := [(h0, .inr (0, oT (upc uT 9 ((uT 9) + (1 : Int32))) p9 a9 e9 n9 o9)), (a9, .inl (ca, 3, .inr (.inr (.inr (.inr (mo da)))))), (da 0, .inr (2, oD (F267 0) (ra 0) (ka 0))), (da 1, .inr (2, oD (F267 1) (ra 1) (ka 1))), (da 2, .inr (2, oD (F267 2) (ra 2) (ka 2)))]) hP hD [0, 1, 2, 3, 4] [] rfl rfl (by decide) (by decide) hk1 hFc hP1 hD1
          clear hP hD hPc hDc hP1 hD1 hFc
          have hP := hPz
          have hD := hDz
          clear hPz hDz
          replace hK := (hK.sub (tys' := []) [] rfl).app hK1
          clear hK1 hKc
          generalize H1 = H at hP hS ⊢
          replace hP : va_P (dC, dI) classes [(h0, .inr (0, oT (upc uT 9 ((uT 9) + (1 : Int32))) p9 a9 e9 n9 o9)), (a9, .inl (ca, 3, .inr (.inr (.inr (.inr (mo da)))))), (da 0, .inr (2, oD (F267 0) (ra 0) (ka 0))), (da 1, .inr (2, oD (F267 1) (ra 1) (ka 1))), (da 2, .inr (2, oD (F267 2) (ra 2) (ka 2)))] H := hP
          replace hD : va_D A [(h0, .inr (0, oT (upc uT 9 ((uT 9) + (1 : Int32))) p9 a9 e9 n9 o9)), (a9, .inl (ca, 3, .inr (.inr (.inr (.inr (mo da)))))), (da 0, .inr (2, oD (F267 0) (ra 0) (ka 0))), (da 1, .inr (2, oD (F267 1) (ra 1) (ka 1))), (da 2, .inr (2, oD (F267 2) (ra 2) (ka 2)))] := hD
          replace hK : va_K (dC, dI) classes [(ca, .object "VotedTriple$VotedModule")] s := hK
          refine W.widen (k := 0) (n := 0) (Nat.le_of_ble_eq_true rfl) (Nat.le_of_ble_eq_true rfl) ?_
          refine lv_iload_n hx hb d_T_vote_108 rfl (lv_at hl 0 rfl) ?_
          have hP9 := hP.sub (ws' := [(h0, .inr (0, oT (upc uT 9 (upc uT 9 ((uT 9) + (1 : Int32)) 9)) p9 a9 e9 n9 o9)), (a9, .inl (ca, 3, .inr (.inr (.inr (.inr (mo da)))))), (da 0, .inr (2, oD (F267 0) (ra 0) (ka 0))), (da 1, .inr (2, oD (F267 1) (ra 1) (ka 1))), (da 2, .inr (2, oD (F267 2) (ra 2) (ka 2)))]) [0, 1, 2, 3, 4] rfl
          have hD9 := hD.sub (ws' := [(h0, .inr (0, oT (upc uT 9 (upc uT 9 ((uT 9) + (1 : Int32)) 9)) p9 a9 e9 n9 o9)), (a9, .inl (ca, 3, .inr (.inr (.inr (.inr (mo da)))))), (da 0, .inr (2, oD (F267 0) (ra 0) (ka 0))), (da 1, .inr (2, oD (F267 1) (ra 1) (ka 1))), (da 2, .inr (2, oD (F267 2) (ra 2) (ka 2)))]) [0, 1, 2, 3, 4] (by decide) rfl
          have hK9 := hK.sub (tys' := [(ca, .object "VotedTriple$VotedModule")]) [0] rfl
          refine W.widen (k := 0) (n := 0) (Nat.le_of_ble_eq_true rfl) (Nat.le_of_ble_eq_true rfl) ?_
          exact W.iret (v := 0) hx hb hr (fun t ht hW => ⟨⟨_, (F267, upc uT 9 ((uT 9) + (1 : Int32)) 9), rfl, ⟨⟨(Or.inr (Or.inl rfl)), hr66⟩, (by rw [hSq0, s_T_vote_cut14_3]; try (rw [if_neg (by decide)]); try (rw [if_pos rfl]); try (rw [← hr41E, bnd_eq]); try (rw [← hr43E, bnd_eq]); try (rw [if_neg hc44]); try (rw [← hr46E, bnd_eq]); try (rw [if_neg (by decide)]); try (rw [if_pos rfl]); try (rw [← hr66E, bnd_eq]); all_goals rfl)⟩, by rw [ht]; exact hP9, va_K.moved hW.alike hK9, hD9⟩, hS.F ht⟩) hS.2.2 d_T_vote_109
        · --  1
          refine lv_istore_n hx hb d_T_vote_79 rfl hl (by decide) rfl (fun ls hl => ?_)
          replace hl : lv_has ls 3 [(2, .int 1), (0, .ref h0), (1, .int 1)] := hl
          refine lv_iload_n hx hb d_T_vote_80 rfl (lv_at hl 0 rfl) ?_
          refine lv_iconst (v := (-1)) hx hb d_T_vote_81 (by decide) ?_
          refine lv_icmp_ne (tgt := 90) hx hb d_T_vote_82 rfl (fun hc68 => ?_) (fun hc68 => by first | exact absurd (by decide) hc68 | exact absurd hc68 (by decide))
          refine lv_iload_n hx hb d_T_vote_90 rfl (lv_at hl 0 rfl) ?_
          refine lv_iconst (v := (-1)) hx hb d_T_vote_91 (by decide) ?_
          refine lv_icmp_eq (tgt := 108) hx hb d_T_vote_92 rfl (fun hc69 => by first | exact absurd hc69 (by decide) | exact absurd (by decide) hc69) (fun hc69 => ?_)
          refine lv_aload_n hx hb d_T_vote_95 rfl (lv_at hl 1 rfl) ?_
          refine lv_aload_n hx hb d_T_vote_96 rfl (lv_at hl 1 rfl) ?_
          refine va_get (D := (dC, dI)) (ci := 0) (v := .ref a9) (C := "VotedTriple") (T := F_T) (N := 11) hx hb hw in_T hown hK hP 0 rfl rfl 1 (by decide) (hw _ k_195) (fun _ h9 => h9) rfl d_T_vote_97 ?_
          refine lv_iload_n hx hb d_T_vote_100 rfl (lv_at hl 0 rfl) ?_
          refine va_aldq hx hb hK hP 1 0 rfl rfl (by unfold vp_in; decide) d_T_vote_101 ?_
          refine W.eq (g2 := F0 m 102 ls [.ref (da 1), .ref h0]) rfl ?_
          refine va_get (D := (dC, dI)) (ci := 2) (v := .int (F 1 18)) (C := "VotedTriple$VotedModule") (T := F_D) (N := 19) hx hb hw in_D hown hK hP 3 rfl rfl 18 (by decide) (hw _ k_161) (fun _ h9 => h9) rfl d_T_vote_102 ?_
          replace hPc := hP.sub (ws' := [(h0, .inr (0, oT (upc uT 9 ((uT 9) + (1 : Int32))) p9 a9 e9 n9 o9)), (a9, .inl (ca, 3, .inr (.inr (.inr (.inr (mo da)))))), (da 0, .inr (2, oD (F 0) (ra 0) (ka 0))), (da 1, .inr (2, oD (F 1) (ra 1) (ka 1))), (da 2, .inr (2, oD (F 2) (ra 2) (ka 2)))]) [0, 1, 2, 3, 4] rfl
          replace hKc := hK.sub (tys' := [(ca, .object "VotedTriple$VotedModule")]) [0] rfl
          replace hDc := hD.sub (ws' := [(h0, .inr (0, oT (upc uT 9 ((uT 9) + (1 : Int32))) p9 a9 e9 n9 o9)), (a9, .inl (ca, 3, .inr (.inr (.inr (.inr (mo da)))))), (da 0, .inr (2, oD (F 0) (ra 0) (ka 0))), (da 1, .inr (2, oD (F 1) (ra 1) (ka 1))), (da 2, .inr (2, oD (F 2) (ra 2) (ka 2)))]) [0, 1, 2, 3, 4] (by decide) rfl
          replace hFc := va_free (wc := [(h0, .inr (0, oT (upc uT 9 ((uT 9) + (1 : Int32))) p9 a9 e9 n9 o9)), (a9, .inl (ca, 3, .inr (.inr (.inr (.inr (mo da)))))), (da 0, .inr (2, oD (F 0) (ra 0) (ka 0))), (da 1, .inr (2, oD (F 1) (ra 1) (ka 1))), (da 2, .inr (2, oD (F 2) (ra 2) (ka 2)))]) hD hS hA [0, 1, 2, 3, 4] rfl
          refine va_callv (va_runV (C := "VotedTriple") (As := [.int (F 1 18)]) (rest := []) ⟨hx, hb, hml, hown, hw⟩ (c_T_nameAllUnlike l dC dI h0 p9 a9 e9 n9 o9 ca da ra ka (upc uT 9 ((uT 9) + (1 : Int32))) F (F 1 18) hF H.size) (cwV 1 hw (gdV (k_607) (k_604) (k_606) (ks_13) (k_1)) rfl rfl rfl (by decide +kernel) ⟨Nat.le_of_ble_eq_true rfl, Nat.le_of_ble_eq_true rfl⟩) ⟨fun a U g mk q => by obtain ⟨q0, q1, qP, qK, qD⟩ := q; exact ⟨q0, q1, qP, va_K.moved (u := U) (U := U.calling g mk a) (Vm.Alike.refl U.vm) qK, qD⟩, va_recv hK hP rfl (q0 := 0) rfl, fun U hU hW => ⟨rfl, by rw [hU], by rw [hU]; exact hPc, va_K.moved hW.alike hKc, hDc.weaken (fun _ _ _ _ => trivial)⟩⟩ rfl rfl hl.1 rfl (lv_room (Nat.le_of_ble_eq_true rfl)) d_T_vote_105 ⟨Nat.le_of_ble_eq_true rfl, Nat.le_of_ble_eq_true rfl⟩) hS (fun q _ h => hFc q h) hFc (fun u9 t H1 locs ht hvm hr71 hB hz1 hk1 hS => ?_)
          obtain ⟨F272, rfl⟩ : ∃ z, z = u9 := ⟨_, rfl⟩
          obtain ⟨hP1, hK1, hD1⟩ := hB
          rw [ht] at hP1
          replace hK1 := va_K.moved hvm.symm hK1
          try dsimp only at hr71 hP1 hK1 hD1
          obtain ⟨hr71, hr71E⟩ := hr71
          obtain ⟨hPz, hDz⟩ := va_join (wr := []) (w1 := [(h0, .inr (0, oT (upc uT 9 ((uT 9) + (1 : Int32))) p9 a9 e9 n9 o9)), (a9, .inl (ca, 3, .inr (.inr (.inr (.inr (mo da)))))), (da 0, .inr (2, oD (F272 0) (ra 0) (ka 0))), (da 1, .inr (2, oD (F272 1) (ra 1) (ka 1))), (da 2, .inr (2, oD (F272 2) (ra 2) (ka 2)))]) hP hD [0, 1, 2, 3, 4] [] rfl rfl (by decide) (by decide) hk1 hFc hP1 hD1
          clear hP hD hPc hDc hP1 hD1 hFc
          have hP := hPz
          have hD := hDz
          clear hPz hDz
          replace hK := (hK.sub (tys' := []) [] rfl).app hK1
          clear hK1 hKc
          generalize H1 = H at hP hS ⊢
          replace hP : va_P (dC, dI) classes [(h0, .inr (0, oT (upc uT 9 ((uT 9) + (1 : Int32))) p9 a9 e9 n9 o9)), (a9, .inl (ca, 3, .inr (.inr (.inr (.inr (mo da)))))), (da 0, .inr (2, oD (F272 0) (ra 0) (ka 0))), (da 1, .inr (2, oD (F272 1) (ra 1) (ka 1))), (da 2, .inr (2, oD (F272 2) (ra 2) (ka 2)))] H := hP
          replace hD : va_D A [(h0, .inr (0, oT (upc uT 9 ((uT 9) + (1 : Int32))) p9 a9 e9 n9 o9)), (a9, .inl (ca, 3, .inr (.inr (.inr (.inr (mo da)))))), (da 0, .inr (2, oD (F272 0) (ra 0) (ka 0))), (da 1, .inr (2, oD (F272 1) (ra 1) (ka 1))), (da 2, .inr (2, oD (F272 2) (ra 2) (ka 2)))] := hD
          replace hK : va_K (dC, dI) classes [(ca, .object "VotedTriple$VotedModule")] s := hK
          refine W.widen (k := 0) (n := 0) (Nat.le_of_ble_eq_true rfl) (Nat.le_of_ble_eq_true rfl) ?_
          refine lv_iload_n hx hb d_T_vote_108 rfl (lv_at hl 0 rfl) ?_
          have hP9 := hP.sub (ws' := [(h0, .inr (0, oT (upc uT 9 (upc uT 9 ((uT 9) + (1 : Int32)) 9)) p9 a9 e9 n9 o9)), (a9, .inl (ca, 3, .inr (.inr (.inr (.inr (mo da)))))), (da 0, .inr (2, oD (F272 0) (ra 0) (ka 0))), (da 1, .inr (2, oD (F272 1) (ra 1) (ka 1))), (da 2, .inr (2, oD (F272 2) (ra 2) (ka 2)))]) [0, 1, 2, 3, 4] rfl
          have hD9 := hD.sub (ws' := [(h0, .inr (0, oT (upc uT 9 (upc uT 9 ((uT 9) + (1 : Int32)) 9)) p9 a9 e9 n9 o9)), (a9, .inl (ca, 3, .inr (.inr (.inr (.inr (mo da)))))), (da 0, .inr (2, oD (F272 0) (ra 0) (ka 0))), (da 1, .inr (2, oD (F272 1) (ra 1) (ka 1))), (da 2, .inr (2, oD (F272 2) (ra 2) (ka 2)))]) [0, 1, 2, 3, 4] (by decide) rfl
          have hK9 := hK.sub (tys' := [(ca, .object "VotedTriple$VotedModule")]) [0] rfl
          refine W.widen (k := 0) (n := 0) (Nat.le_of_ble_eq_true rfl) (Nat.le_of_ble_eq_true rfl) ?_
          exact W.iret (v := 1) hx hb hr (fun t ht hW => ⟨⟨_, (F272, upc uT 9 ((uT 9) + (1 : Int32)) 9), rfl, ⟨⟨(Or.inr (Or.inr (Or.inl rfl))), hr71⟩, (by rw [hSq0, s_T_vote_cut14_3]; try (rw [if_neg (by decide)]); try (rw [if_pos rfl]); try (rw [← hr41E, bnd_eq]); try (rw [← hr43E, bnd_eq]); try (rw [if_neg hc44]); try (rw [← hr46E, bnd_eq]); try (rw [if_neg (by decide)]); try (rw [if_neg (by decide)]); try (rw [if_pos rfl]); try (rw [← hr71E, bnd_eq]); all_goals rfl)⟩, by rw [ht]; exact hP9, va_K.moved hW.alike hK9, hD9⟩, hS.F ht⟩) hS.2.2 d_T_vote_109
        · --  2
          refine lv_istore_n hx hb d_T_vote_79 rfl hl (by decide) rfl (fun ls hl => ?_)
          replace hl : lv_has ls 3 [(2, .int 2), (0, .ref h0), (1, .int 1)] := hl
          refine lv_iload_n hx hb d_T_vote_80 rfl (lv_at hl 0 rfl) ?_
          refine lv_iconst (v := (-1)) hx hb d_T_vote_81 (by decide) ?_
          refine lv_icmp_ne (tgt := 90) hx hb d_T_vote_82 rfl (fun hc73 => ?_) (fun hc73 => by first | exact absurd (by decide) hc73 | exact absurd hc73 (by decide))
          refine lv_iload_n hx hb d_T_vote_90 rfl (lv_at hl 0 rfl) ?_
          refine lv_iconst (v := (-1)) hx hb d_T_vote_91 (by decide) ?_
          refine lv_icmp_eq (tgt := 108) hx hb d_T_vote_92 rfl (fun hc74 => by first | exact absurd hc74 (by decide) | exact absurd (by decide) hc74) (fun hc74 => ?_)
          refine lv_aload_n hx hb d_T_vote_95 rfl (lv_at hl 1 rfl) ?_
          refine lv_aload_n hx hb d_T_vote_96 rfl (lv_at hl 1 rfl) ?_
          refine va_get (D := (dC, dI)) (ci := 0) (v := .ref a9) (C := "VotedTriple") (T := F_T) (N := 11) hx hb hw in_T hown hK hP 0 rfl rfl 1 (by decide) (hw _ k_195) (fun _ h9 => h9) rfl d_T_vote_97 ?_
          refine lv_iload_n hx hb d_T_vote_100 rfl (lv_at hl 0 rfl) ?_
          refine va_aldq hx hb hK hP 1 0 rfl rfl (by unfold vp_in; decide) d_T_vote_101 ?_
          refine W.eq (g2 := F0 m 102 ls [.ref (da 2), .ref h0]) rfl ?_
          refine va_get (D := (dC, dI)) (ci := 2) (v := .int (F 2 18)) (C := "VotedTriple$VotedModule") (T := F_D) (N := 19) hx hb hw in_D hown hK hP 4 rfl rfl 18 (by decide) (hw _ k_161) (fun _ h9 => h9) rfl d_T_vote_102 ?_
          replace hPc := hP.sub (ws' := [(h0, .inr (0, oT (upc uT 9 ((uT 9) + (1 : Int32))) p9 a9 e9 n9 o9)), (a9, .inl (ca, 3, .inr (.inr (.inr (.inr (mo da)))))), (da 0, .inr (2, oD (F 0) (ra 0) (ka 0))), (da 1, .inr (2, oD (F 1) (ra 1) (ka 1))), (da 2, .inr (2, oD (F 2) (ra 2) (ka 2)))]) [0, 1, 2, 3, 4] rfl
          replace hKc := hK.sub (tys' := [(ca, .object "VotedTriple$VotedModule")]) [0] rfl
          replace hDc := hD.sub (ws' := [(h0, .inr (0, oT (upc uT 9 ((uT 9) + (1 : Int32))) p9 a9 e9 n9 o9)), (a9, .inl (ca, 3, .inr (.inr (.inr (.inr (mo da)))))), (da 0, .inr (2, oD (F 0) (ra 0) (ka 0))), (da 1, .inr (2, oD (F 1) (ra 1) (ka 1))), (da 2, .inr (2, oD (F 2) (ra 2) (ka 2)))]) [0, 1, 2, 3, 4] (by decide) rfl
          replace hFc := va_free (wc := [(h0, .inr (0, oT (upc uT 9 ((uT 9) + (1 : Int32))) p9 a9 e9 n9 o9)), (a9, .inl (ca, 3, .inr (.inr (.inr (.inr (mo da)))))), (da 0, .inr (2, oD (F 0) (ra 0) (ka 0))), (da 1, .inr (2, oD (F 1) (ra 1) (ka 1))), (da 2, .inr (2, oD (F 2) (ra 2) (ka 2)))]) hD hS hA [0, 1, 2, 3, 4] rfl
          refine va_callv (va_runV (C := "VotedTriple") (As := [.int (F 2 18)]) (rest := []) ⟨hx, hb, hml, hown, hw⟩ (c_T_nameAllUnlike l dC dI h0 p9 a9 e9 n9 o9 ca da ra ka (upc uT 9 ((uT 9) + (1 : Int32))) F (F 2 18) hF H.size) (cwV 1 hw (gdV (k_607) (k_604) (k_606) (ks_13) (k_1)) rfl rfl rfl (by decide +kernel) ⟨Nat.le_of_ble_eq_true rfl, Nat.le_of_ble_eq_true rfl⟩) ⟨fun a U g mk q => by obtain ⟨q0, q1, qP, qK, qD⟩ := q; exact ⟨q0, q1, qP, va_K.moved (u := U) (U := U.calling g mk a) (Vm.Alike.refl U.vm) qK, qD⟩, va_recv hK hP rfl (q0 := 0) rfl, fun U hU hW => ⟨rfl, by rw [hU], by rw [hU]; exact hPc, va_K.moved hW.alike hKc, hDc.weaken (fun _ _ _ _ => trivial)⟩⟩ rfl rfl hl.1 rfl (lv_room (Nat.le_of_ble_eq_true rfl)) d_T_vote_105 ⟨Nat.le_of_ble_eq_true rfl, Nat.le_of_ble_eq_true rfl⟩) hS (fun q _ h => hFc q h) hFc (fun u9 t H1 locs ht hvm hr76 hB hz1 hk1 hS => ?_)
          obtain ⟨F277, rfl⟩ : ∃ z, z = u9 := ⟨_, rfl⟩
          obtain ⟨hP1, hK1, hD1⟩ := hB
          rw [ht] at hP1
          replace hK1 := va_K.moved hvm.symm hK1
          try dsimp only at hr76 hP1 hK1 hD1
          obtain ⟨hr76, hr76E⟩ := hr76
          obtain ⟨hPz, hDz⟩ := va_join (wr := []) (w1 := [(h0, .inr (0, oT (upc uT 9 ((uT 9) + (1 : Int32))) p9 a9 e9 n9 o9)), (a9, .inl (ca, 3, .inr (.inr (.inr (.inr (mo da)))))), (da 0, .inr (2, oD (F277 0) (ra 0) (ka 0))), (da 1, .inr (2, oD (F277 1) (ra 1) (ka 1))), (da 2, .inr (2, oD (F277 2) (ra 2) (ka 2)))]) hP hD [0, 1, 2, 3, 4] [] rfl rfl (by decide) (by decide) hk1 hFc hP1 hD1
          clear hP hD hPc hDc hP1 hD1 hFc
          have hP := hPz
          have hD := hDz
          clear hPz hDz
          replace hK := (hK.sub (tys' := []) [] rfl).app hK1
          clear hK1 hKc
          generalize H1 = H at hP hS ⊢
          replace hP : va_P (dC, dI) classes [(h0, .inr (0, oT (upc uT 9 ((uT 9) + (1 : Int32))) p9 a9 e9 n9 o9)), (a9, .inl (ca, 3, .inr (.inr (.inr (.inr (mo da)))))), (da 0, .inr (2, oD (F277 0) (ra 0) (ka 0))), (da 1, .inr (2, oD (F277 1) (ra 1) (ka 1))), (da 2, .inr (2, oD (F277 2) (ra 2) (ka 2)))] H := hP
          replace hD : va_D A [(h0, .inr (0, oT (upc uT 9 ((uT 9) + (1 : Int32))) p9 a9 e9 n9 o9)), (a9, .inl (ca, 3, .inr (.inr (.inr (.inr (mo da)))))), (da 0, .inr (2, oD (F277 0) (ra 0) (ka 0))), (da 1, .inr (2, oD (F277 1) (ra 1) (ka 1))), (da 2, .inr (2, oD (F277 2) (ra 2) (ka 2)))] := hD
          replace hK : va_K (dC, dI) classes [(ca, .object "VotedTriple$VotedModule")] s := hK
          refine W.widen (k := 0) (n := 0) (Nat.le_of_ble_eq_true rfl) (Nat.le_of_ble_eq_true rfl) ?_
          refine lv_iload_n hx hb d_T_vote_108 rfl (lv_at hl 0 rfl) ?_
          have hP9 := hP.sub (ws' := [(h0, .inr (0, oT (upc uT 9 (upc uT 9 ((uT 9) + (1 : Int32)) 9)) p9 a9 e9 n9 o9)), (a9, .inl (ca, 3, .inr (.inr (.inr (.inr (mo da)))))), (da 0, .inr (2, oD (F277 0) (ra 0) (ka 0))), (da 1, .inr (2, oD (F277 1) (ra 1) (ka 1))), (da 2, .inr (2, oD (F277 2) (ra 2) (ka 2)))]) [0, 1, 2, 3, 4] rfl
          have hD9 := hD.sub (ws' := [(h0, .inr (0, oT (upc uT 9 (upc uT 9 ((uT 9) + (1 : Int32)) 9)) p9 a9 e9 n9 o9)), (a9, .inl (ca, 3, .inr (.inr (.inr (.inr (mo da)))))), (da 0, .inr (2, oD (F277 0) (ra 0) (ka 0))), (da 1, .inr (2, oD (F277 1) (ra 1) (ka 1))), (da 2, .inr (2, oD (F277 2) (ra 2) (ka 2)))]) [0, 1, 2, 3, 4] (by decide) rfl
          have hK9 := hK.sub (tys' := [(ca, .object "VotedTriple$VotedModule")]) [0] rfl
          refine W.widen (k := 0) (n := 0) (Nat.le_of_ble_eq_true rfl) (Nat.le_of_ble_eq_true rfl) ?_
          exact W.iret (v := 2) hx hb hr (fun t ht hW => ⟨⟨_, (F277, upc uT 9 ((uT 9) + (1 : Int32)) 9), rfl, ⟨⟨(Or.inr (Or.inr (Or.inr rfl))), hr76⟩, (by rw [hSq0, s_T_vote_cut14_3]; try (rw [if_neg (by decide)]); try (rw [if_pos rfl]); try (rw [← hr41E, bnd_eq]); try (rw [← hr43E, bnd_eq]); try (rw [if_neg hc44]); try (rw [← hr46E, bnd_eq]); try (rw [if_neg (by decide)]); try (rw [if_neg (by decide)]); try (rw [if_neg (by decide)]); try (rw [← hr76E, bnd_eq]); all_goals rfl)⟩, by rw [ht]; exact hP9, va_K.moved hW.alike hK9, hD9⟩, hS.F ht⟩) hS.2.2 d_T_vote_109
      · --  r40 = r42
        refine lv_iload_n hx hb d_T_vote_63 rfl (lv_at hl 1 rfl) ?_
        have hP9 := hP.sub (ws' := [(h0, .inr (0, oT (upc uT 9 (uT 9)) p9 a9 e9 n9 o9)), (a9, .inl (ca, 3, .inr (.inr (.inr (.inr (mo da)))))), (da 0, .inr (2, oD (F 0) (ra 0) (ka 0))), (da 1, .inr (2, oD (F 1) (ra 1) (ka 1))), (da 2, .inr (2, oD (F 2) (ra 2) (ka 2)))]) [0, 1, 2, 3, 4] rfl
        have hD9 := hD.sub (ws' := [(h0, .inr (0, oT (upc uT 9 (uT 9)) p9 a9 e9 n9 o9)), (a9, .inl (ca, 3, .inr (.inr (.inr (.inr (mo da)))))), (da 0, .inr (2, oD (F 0) (ra 0) (ka 0))), (da 1, .inr (2, oD (F 1) (ra 1) (ka 1))), (da 2, .inr (2, oD (F 2) (ra 2) (ka 2)))]) [0, 1, 2, 3, 4] (by decide) rfl
        have hK9 := hK.sub (tys' := [(ca, .object "VotedTriple$VotedModule")]) [0] rfl
        refine W.widen (k := 0) (n := 0) (Nat.le_of_ble_eq_true rfl) (Nat.le_of_ble_eq_true rfl) ?_
        exact W.iret (v := 1) hx hb hr (fun t ht hW => ⟨⟨_, (F, uT 9), rfl, ⟨⟨(Or.inr (Or.inr (Or.inl rfl))), hF⟩, (by rw [hSq0, s_T_vote_cut14_3]; try (rw [if_neg (by decide)]); try (rw [if_pos rfl]); try (rw [← hr41E, bnd_eq]); try (rw [← hr43E, bnd_eq]); try (rw [if_pos hc44]); all_goals rfl)⟩, by rw [ht]; exact hP9, va_K.moved hW.alike hK9, hD9⟩, hS.F ht⟩) hS.2.2 d_T_vote_64
    · --  2
      refine lv_aload_n hx hb d_T_vote_43 rfl (lv_at hl 0 rfl) ?_
      refine lv_aload_n hx hb d_T_vote_44 rfl (lv_at hl 0 rfl) ?_
      refine va_get (D := (dC, dI)) (ci := 0) (v := .ref a9) (C := "VotedTriple") (T := F_T) (N := 11) hx hb hw in_T hown hK hP 0 rfl rfl 1 (by decide) (hw _ k_195) (fun _ h9 => h9) rfl d_T_vote_45 ?_
      refine lv_iload_n hx hb d_T_vote_48 rfl (lv_at hl 1 rfl) ?_
      refine va_aldq hx hb hK hP 1 0 rfl rfl (by unfold vp_in; decide) d_T_vote_49 ?_
      refine W.eq (g2 := F0 m 50 ls [.ref (da 2), .ref h0]) rfl ?_
      refine va_get (D := (dC, dI)) (ci := 2) (v := .int (F 2 18)) (C := "VotedTriple$VotedModule") (T := F_D) (N := 19) hx hb hw in_D hown hK hP 4 rfl rfl 18 (by decide) (hw _ k_161) (fun _ h9 => h9) rfl d_T_vote_50 ?_
      replace hPc := hP.sub (ws' := [(h0, .inr (0, oT uT p9 a9 e9 n9 o9)), (a9, .inl (ca, 3, .inr (.inr (.inr (.inr (mo da)))))), (da 0, .inr (2, oD (F 0) (ra 0) (ka 0))), (da 1, .inr (2, oD (F 1) (ra 1) (ka 1))), (da 2, .inr (2, oD (F 2) (ra 2) (ka 2)))]) [0, 1, 2, 3, 4] rfl
      replace hKc := hK.sub (tys' := [(ca, .object "VotedTriple$VotedModule")]) [0] rfl
      refine vp_callSi (va_runV (C := "VotedTriple") (As := [.int (F 2 18)]) (rest := []) ⟨hx, hb, hml, hown, hw⟩ (c_T_countBallots l dC dI h0 p9 a9 e9 n9 o9 ca da ra ka uT F (F 2 18)) (cwV 1 hw (gdV (k_591) (k_588) (k_590) (ks_9) (k_1)) rfl rfl rfl (by decide +kernel) ⟨Nat.le_of_ble_eq_true rfl, Nat.le_of_ble_eq_true rfl⟩) ⟨fun a U g mk q => ⟨q.1, q.2.1, va_K.moved (u := U) (U := U.calling g mk a) (Vm.Alike.refl U.vm) q.2.2⟩, va_recv hK hP rfl (q0 := 0) rfl, fun U hU hW => ⟨rfl, by rw [hU]; exact hPc, va_K.moved hW.alike hKc⟩⟩ rfl rfl hl.1 rfl (lv_room (Nat.le_of_ble_eq_true rfl)) d_T_vote_53 ⟨Nat.le_of_ble_eq_true rfl, Nat.le_of_ble_eq_true rfl⟩).run (fun r78 hr79 => ?_)
      obtain ⟨hr79, hr79E⟩ := hr79
      refine lv_aload_n hx hb d_T_vote_56 rfl (lv_at hl 0 rfl) ?_
      replace hPc := hP.sub (ws' := [(h0, .inr (0, oT uT p9 a9 e9 n9 o9)), (a9, .inl (ca, 3, .inr (.inr (.inr (.inr (mo da)))))), (da 0, .inr (2, oD (F 0) (ra 0) (ka 0))), (da 1, .inr (2, oD (F 1) (ra 1) (ka 1))), (da 2, .inr (2, oD (F 2) (ra 2) (ka 2)))]) [0, 1, 2, 3, 4] rfl
      replace hKc := hK.sub (tys' := [(ca, .object "VotedTriple$VotedModule")]) [0] rfl
      refine vp_callSi (va_runV (C := "VotedTriple") (As := []) (rest := [.int r78]) ⟨hx, hb, hml, hown, hw⟩ (c_T_countTrusted l dC dI h0 p9 a9 e9 n9 o9 ca da ra ka uT F) (cwV 0 hw (gdV (k_595) (k_592) (k_594) (ks_10) (k_1)) rfl rfl rfl (by decide +kernel) ⟨Nat.le_of_ble_eq_true rfl, Nat.le_of_ble_eq_true rfl⟩) ⟨fun a U g mk q => ⟨q.1, q.2.1, va_K.moved (u := U) (U := U.calling g mk a) (Vm.Alike.refl U.vm) q.2.2⟩, va_recv hK hP rfl (q0 := 0) rfl, fun U hU hW => ⟨rfl, by rw [hU]; exact hPc, va_K.moved hW.alike hKc⟩⟩ rfl rfl hl.1 rfl (lv_room (Nat.le_of_ble_eq_true rfl)) d_T_vote_57 ⟨Nat.le_of_ble_eq_true rfl, Nat.le_of_ble_eq_true rfl⟩).run (fun r80 hr81 => ?_)
      obtain ⟨hr81, hr81E⟩ := hr81
      refine lv_icmp_ne (tgt := 65) hx hb d_T_vote_60 rfl (fun hc82 => ?_) (fun hc82 => ?_)
      · --  ¬ r78 = r80
        refine lv_aload_n hx hb d_T_vote_65 rfl (lv_at hl 0 rfl) ?_
        refine lv_dup hx hb d_T_vote_66 rfl ?_
        refine va_get (D := (dC, dI)) (ci := 0) (v := .int (uT 9)) (C := "VotedTriple") (T := F_T) (N := 11) hx hb hw in_T hown hK hP 0 rfl rfl 9 (by decide) (hw _ k_203) (fun _ h9 => h9) rfl d_T_vote_67 ?_
        refine lv_iconst (v := 1) hx hb d_T_vote_70 (by decide) ?_
        refine lv_iadd hx hb d_T_vote_71 ?_
        refine va_put (D := (dC, dI)) (ci := 0) (v := .int ((uT 9) + (1 : Int32))) (ty := .int) (C := "VotedTriple") (T := F_T) (N := 11) hx hb hw in_T ft_T tyok_T nm_T hown hK hP hD hS 0 rfl rfl 9 (by decide) (hw _ k_203) (fun _ h9 => h9) rfl (by decide +kernel) rfl rfl (Nat.le_of_ble_eq_true rfl) d_T_vote_72 (fun H locs hP hD hS => ?_)
        replace hP : va_P (dC, dI) classes [(h0, .inr (0, [.ref p9, .ref a9, .ref e9, .ref n9, .ref o9, .int (uT 5), .int (uT 6), .int (uT 7), .int (uT 8), .int ((uT 9) + (1 : Int32)), .int (uT 10)])), (a9, .inl (ca, 3, .inr (.inr (.inr (.inr (mo da)))))), (da 0, .inr (2, oD (F 0) (ra 0) (ka 0))), (da 1, .inr (2, oD (F 1) (ra 1) (ka 1))), (da 2, .inr (2, oD (F 2) (ra 2) (ka 2)))] H := hP
        replace hD : va_D A [(h0, .inr (0, [.ref p9, .ref a9, .ref e9, .ref n9, .ref o9, .int (uT 5), .int (uT 6), .int (uT 7), .int (uT 8), .int ((uT 9) + (1 : Int32)), .int (uT 10)])), (a9, .inl (ca, 3, .inr (.inr (.inr (.inr (mo da)))))), (da 0, .inr (2, oD (F 0) (ra 0) (ka 0))), (da 1, .inr (2, oD (F 1) (ra 1) (ka 1))), (da 2, .inr (2, oD (F 2) (ra 2) (ka 2)))] := hD
        refine lv_aload_n hx hb d_T_vote_75 rfl (lv_at hl 0 rfl) ?_
        replace hP : va_P (dC, dI) classes [(h0, .inr (0, oT (upc uT 9 ((uT 9) + (1 : Int32))) p9 a9 e9 n9 o9)), (a9, .inl (ca, 3, .inr (.inr (.inr (.inr (mo da)))))), (da 0, .inr (2, oD (F 0) (ra 0) (ka 0))), (da 1, .inr (2, oD (F 1) (ra 1) (ka 1))), (da 2, .inr (2, oD (F 2) (ra 2) (ka 2)))] H := hP
        replace hD : va_D A [(h0, .inr (0, oT (upc uT 9 ((uT 9) + (1 : Int32))) p9 a9 e9 n9 o9)), (a9, .inl (ca, 3, .inr (.inr (.inr (.inr (mo da)))))), (da 0, .inr (2, oD (F 0) (ra 0) (ka 0))), (da 1, .inr (2, oD (F 1) (ra 1) (ka 1))), (da 2, .inr (2, oD (F 2) (ra 2) (ka 2)))] := hD
        replace hPc := hP.sub (ws' := [(h0, .inr (0, oT (upc uT 9 ((uT 9) + (1 : Int32))) p9 a9 e9 n9 o9)), (a9, .inl (ca, 3, .inr (.inr (.inr (.inr (mo da)))))), (da 0, .inr (2, oD (F 0) (ra 0) (ka 0))), (da 1, .inr (2, oD (F 1) (ra 1) (ka 1))), (da 2, .inr (2, oD (F 2) (ra 2) (ka 2)))]) [0, 1, 2, 3, 4] rfl
        replace hKc := hK.sub (tys' := [(ca, .object "VotedTriple$VotedModule")]) [0] rfl
        refine vp_callSi (va_runV (C := "VotedTriple") (As := []) (rest := []) ⟨hx, hb, hml, hown, hw⟩ (c_T_oneOfTheAlikePair l dC dI h0 p9 a9 e9 n9 o9 ca da ra ka (upc uT 9 ((uT 9) + (1 : Int32))) F) (cwV 0 hw (gdV (k_599) (k_596) (k_598) (ks_11) (k_1)) rfl rfl rfl (by decide +kernel) ⟨Nat.le_of_ble_eq_true rfl, Nat.le_of_ble_eq_true rfl⟩) ⟨fun a U g mk q => ⟨q.1, q.2.1, va_K.moved (u := U) (U := U.calling g mk a) (Vm.Alike.refl U.vm) q.2.2⟩, va_recv hK hP rfl (q0 := 0) rfl, fun U hU hW => ⟨rfl, by rw [hU]; exact hPc, va_K.moved hW.alike hKc⟩⟩ rfl rfl hl.1 rfl (lv_room (Nat.le_of_ble_eq_true rfl)) d_T_vote_76 ⟨Nat.le_of_ble_eq_true rfl, Nat.le_of_ble_eq_true rfl⟩).run (fun r83 hr84 => ?_)
        obtain ⟨hr84, hr84E⟩ := hr84
        rcases hr84 with rfl | rfl | rfl | rfl
        · --  (-1)
          refine lv_istore_n hx hb d_T_vote_79 rfl hl (by decide) rfl (fun ls hl => ?_)
          replace hl : lv_has ls 3 [(2, .int (-1)), (0, .ref h0), (1, .int 2)] := hl
          refine lv_iload_n hx hb d_T_vote_80 rfl (lv_at hl 0 rfl) ?_
          refine lv_iconst (v := (-1)) hx hb d_T_vote_81 (by decide) ?_
          refine lv_icmp_ne (tgt := 90) hx hb d_T_vote_82 rfl (fun hc85 => by first | exact absurd hc85 (fun hh => hh rfl) | exact absurd (fun hh => hh rfl) hc85) (fun hc85 => ?_)
          refine lv_aload_n hx hb d_T_vote_85 rfl (lv_at hl 1 rfl) ?_
          replace hPc := hP.sub (ws' := [(h0, .inr (0, oT (upc uT 9 ((uT 9) + (1 : Int32))) p9 a9 e9 n9 o9)), (a9, .inl (ca, 3, .inr (.inr (.inr (.inr (mo da)))))), (da 0, .inr (2, oD (F 0) (ra 0) (ka 0))), (da 1, .inr (2, oD (F 1) (ra 1) (ka 1))), (da 2, .inr (2, oD (F 2) (ra 2) (ka 2)))]) [0, 1, 2, 3, 4] rfl
          replace hKc := hK.sub (tys' := [(ca, .object "VotedTriple$VotedModule")]) [0] rfl
          refine vp_callSi (va_runV (C := "VotedTriple") (As := []) (rest := []) ⟨hx, hb, hml, hown, hw⟩ (c_T_soundOneOfTwo l dC dI h0 p9 a9 e9 n9 o9 ca da ra ka (upc uT 9 ((uT 9) + (1 : Int32))) F) (cwV 0 hw (gdV (k_603) (k_600) (k_602) (ks_12) (k_1)) rfl rfl rfl (by decide +kernel) ⟨Nat.le_of_ble_eq_true rfl, Nat.le_of_ble_eq_true rfl⟩) ⟨fun a U g mk q => ⟨q.1, q.2.1, va_K.moved (u := U) (U := U.calling g mk a) (Vm.Alike.refl U.vm) q.2.2⟩, va_recv hK hP rfl (q0 := 0) rfl, fun U hU hW => ⟨rfl, by rw [hU]; exact hPc, va_K.moved hW.alike hKc⟩⟩ rfl rfl hl.1 rfl (lv_room (Nat.le_of_ble_eq_true rfl)) d_T_vote_86 ⟨Nat.le_of_ble_eq_true rfl, Nat.le_of_ble_eq_true rfl⟩).run (fun r86 hr87 => ?_)
          obtain ⟨hr87, hr87E⟩ := hr87
          rcases hr87 with rfl | rfl | rfl | rfl
          · --  (-1)
            refine lv_istore_n hx hb d_T_vote_89 rfl hl (by decide) rfl (fun ls hl => ?_)
            replace hl : lv_has ls 3 [(2, .int (-1)), (0, .ref h0), (1, .int 2)] := hl
            refine lv_iload_n hx hb d_T_vote_90 rfl (lv_at hl 0 rfl) ?_
            refine lv_iconst (v := (-1)) hx hb d_T_vote_91 (by decide) ?_
            refine lv_icmp_eq (tgt := 108) hx hb d_T_vote_92 rfl (fun hc88 => ?_) (fun hc88 => by first | exact absurd (rfl) hc88 | exact absurd hc88 (rfl))
            refine lv_iload_n hx hb d_T_vote_108 rfl (lv_at hl 0 rfl) ?_
            have hP9 := hP.sub (ws' := [(h0, .inr (0, oT (upc uT 9 (upc uT 9 ((uT 9) + (1 : Int32)) 9)) p9 a9 e9 n9 o9)), (a9, .inl (ca, 3, .inr (.inr (.inr (.inr (mo da)))))), (da 0, .inr (2, oD (F 0) (ra 0) (ka 0))), (da 1, .inr (2, oD (F 1) (ra 1) (ka 1))), (da 2, .inr (2, oD (F 2) (ra 2) (ka 2)))]) [0, 1, 2, 3, 4] rfl
            have hD9 := hD.sub (ws' := [(h0, .inr (0, oT (upc uT 9 (upc uT 9 ((uT 9) + (1 : Int32)) 9)) p9 a9 e9 n9 o9)), (a9, .inl (ca, 3, .inr (.inr (.inr (.inr (mo da)))))), (da 0, .inr (2, oD (F 0) (ra 0) (ka 0))), (da 1, .inr (2, oD (F 1) (ra 1) (ka 1))), (da 2, .inr (2, oD (F 2) (ra 2) (ka 2)))]) [0, 1, 2, 3, 4] (by decide) rfl
            have hK9 := hK.sub (tys' := [(ca, .object "VotedTriple$VotedModule")]) [0] rfl
            refine W.widen (k := 0) (n := 0) (Nat.le_of_ble_eq_true rfl) (Nat.le_of_ble_eq_true rfl) ?_
            exact W.iret (v := (-1)) hx hb hr (fun t ht hW => ⟨⟨_, (F, upc uT 9 ((uT 9) + (1 : Int32)) 9), rfl, ⟨⟨(Or.inl rfl), hF⟩, (by rw [hSq0, s_T_vote_cut14_3]; try (rw [if_neg (by decide)]); try (rw [if_neg (by decide)]); try (rw [← hr79E, bnd_eq]); try (rw [← hr81E, bnd_eq]); try (rw [if_neg hc82]); try (rw [← hr84E, bnd_eq]); try (rw [if_pos rfl]); try (rw [← hr87E, bnd_eq]); try (rw [if_pos rfl]); all_goals rfl)⟩, by rw [ht]; exact hP9, va_K.moved hW.alike hK9, hD9⟩, hS.F ht⟩) hS.2.2 d_T_vote_109
          · --  0
            refine lv_istore_n hx hb d_T_vote_89 rfl hl (by decide) rfl (fun ls hl => ?_)
            replace hl : lv_has ls 3 [(2, .int 0), (0, .ref h0), (1, .int 2)] := hl
            refine lv_iload_n hx hb d_T_vote_90 rfl (lv_at hl 0 rfl) ?_
            refine lv_iconst (v := (-1)) hx hb d_T_vote_91 (by decide) ?_
            refine lv_icmp_eq (tgt := 108) hx hb d_T_vote_92 rfl (fun hc89 => by first | exact absurd hc89 (by decide) | exact absurd (by decide) hc89) (fun hc89 => ?_)
            refine lv_aload_n hx hb d_T_vote_95 rfl (lv_at hl 1 rfl) ?_
            refine lv_aload_n hx hb d_T_vote_96 rfl (lv_at hl 1 rfl) ?_
            refine va_get (D := (dC, dI)) (ci := 0) (v := .ref a9) (C := "VotedTriple") (T := F_T) (N := 11) hx hb hw in_T hown hK hP 0 rfl rfl 1 (by decide) (hw _ k_195) (fun _ h9 => h9) rfl d_T_vote_97 ?_
            refine lv_iload_n hx hb d_T_vote_100 rfl (lv_at hl 0 rfl) ?_
            refine va_aldq hx hb hK hP 1 0 rfl rfl (by unfold vp_in; decide) d_T_vote_101 ?_
            refine W.eq (g2 := F0 m 102 ls [.ref (da 0), .ref h0]) rfl ?_
            refine va_get (D := (dC, dI)) (ci := 2) (v := .int (F 0 18)) (C := "VotedTriple$VotedModule") (T := F_D) (N := 19) hx hb hw in_D hown hK hP 2 rfl rfl 18 (by decide) (hw _ k_161) (fun _ h9 => h9) rfl d_T_vote_102 ?_
            replace hPc := hP.sub (ws' := [(h0, .inr (0, oT (upc uT 9 ((uT 9) + (1 : Int32))) p9 a9 e9 n9 o9)), (a9, .inl (ca, 3, .inr (.inr (.inr (.inr (mo da)))))), (da 0, .inr (2, oD (F 0) (ra 0) (ka 0))), (da 1, .inr (2, oD (F 1) (ra 1) (ka 1))), (da 2, .inr (2, oD (F 2) (ra 2) (ka 2)))]) [0, 1, 2, 3, 4] rfl
            replace hKc := hK.sub (tys' := [(ca, .object "VotedTriple$VotedModule")]) [0] rfl
            replace hDc := hD.sub (ws' := [(h0, .inr (0, oT (upc uT 9 ((uT 9) + (1 : Int32))) p9 a9 e9 n9 o9)), (a9, .inl (ca, 3, .inr (.inr (.inr (.inr (mo da)))))), (da 0, .inr (2, oD (F 0) (ra 0) (ka 0))), (da 1, .inr (2, oD (F 1) (ra 1) (ka 1))), (da 2, .inr (2, oD (F 2) (ra 2) (ka 2)))]) [0, 1, 2, 3, 4] (by decide) rfl
            replace hFc := va_free (wc := [(h0, .inr (0, oT (upc uT 9 ((uT 9) + (1 : Int32))) p9 a9 e9 n9 o9)), (a9, .inl (ca, 3, .inr (.inr (.inr (.inr (mo da)))))), (da 0, .inr (2, oD (F 0) (ra 0) (ka 0))), (da 1, .inr (2, oD (F 1) (ra 1) (ka 1))), (da 2, .inr (2, oD (F 2) (ra 2) (ka 2)))]) hD hS hA [0, 1, 2, 3, 4] rfl
            refine va_callv (va_runV (C := "VotedTriple") (As := [.int (F 0 18)]) (rest := []) ⟨hx, hb, hml, hown, hw⟩ (c_T_nameAllUnlike l dC dI h0 p9 a9 e9 n9 o9 ca da ra ka (upc uT 9 ((uT 9) + (1 : Int32))) F (F 0 18) hF H.size) (cwV 1 hw (gdV (k_607) (k_604) (k_606) (ks_13) (k_1)) rfl rfl rfl (by decide +kernel) ⟨Nat.le_of_ble_eq_true rfl, Nat.le_of_ble_eq_true rfl⟩) ⟨fun a U g mk q => by obtain ⟨q0, q1, qP, qK, qD⟩ := q; exact ⟨q0, q1, qP, va_K.moved (u := U) (U := U.calling g mk a) (Vm.Alike.refl U.vm) qK, qD⟩, va_recv hK hP rfl (q0 := 0) rfl, fun U hU hW => ⟨rfl, by rw [hU], by rw [hU]; exact hPc, va_K.moved hW.alike hKc, hDc.weaken (fun _ _ _ _ => trivial)⟩⟩ rfl rfl hl.1 rfl (lv_room (Nat.le_of_ble_eq_true rfl)) d_T_vote_105 ⟨Nat.le_of_ble_eq_true rfl, Nat.le_of_ble_eq_true rfl⟩) hS (fun q _ h => hFc q h) hFc (fun u9 t H1 locs ht hvm hr91 hB hz1 hk1 hS => ?_)
            obtain ⟨F292, rfl⟩ : ∃ z, z = u9 := ⟨_, rfl⟩
            obtain ⟨hP1, hK1, hD1⟩ := hB
            rw [ht] at hP1
            replace hK1 := va_K.moved hvm.symm hK1
            try dsimp only at hr91 hP1 hK1 hD1
            obtain ⟨hr91, hr91E⟩ := hr91
            obtain ⟨hPz, hDz⟩ := va_join (wr := []) (w1 := [(h0, .inr (0, oT (upc uT 9 ((uT 9) + (1 : Int32))) p9 a9 e9 n9 o9)), (a9, .inl (ca, 3, .inr (.inr (.inr (.inr (mo da)))))), (da 0, .inr (2, oD (F292 0) (ra 0) (ka 0))), (da 1, .inr (2, oD (F292 1) (ra 1) (ka 1))), (da 2, .inr (2, oD (F292 2) (ra 2) (ka 2)))]) hP hD [0, 1, 2, 3, 4] [] rfl rfl (by decide) (by decide) hk1 hFc hP1 hD1
            clear hP hD hPc hDc hP1 hD1 hFc
            have hP := hPz
            have hD := hDz
            clear hPz hDz
            replace hK := (hK.sub (tys' := []) [] rfl).app hK1
            clear hK1 hKc
            generalize H1 = H at hP hS ⊢
            replace hP : va_P (dC, dI) classes [(h0, .inr (0, oT (upc uT 9 ((uT 9) + (1 : Int32))) p9 a9 e9 n9 o9)), (a9, .inl (ca, 3, .inr (.inr (.inr (.inr (mo da)))))), (da 0, .inr (2, oD (F292 0) (ra 0) (ka 0))), (da 1, .inr (2, oD (F292 1) (ra 1) (ka 1))), (da 2, .inr (2, oD (F292 2) (ra 2) (ka 2)))] H := hP
            replace hD : va_D A [(h0, .inr (0, oT (upc uT 9 ((uT 9) + (1 : Int32))) p9 a9 e9 n9 o9)), (a9, .inl (ca, 3, .inr (.inr (.inr (.inr (mo da)))))), (da 0, .inr (2, oD (F292 0) (ra 0) (ka 0))), (da 1, .inr (2, oD (F292 1) (ra 1) (ka 1))), (da 2, .inr (2, oD (F292 2) (ra 2) (ka 2)))] := hD
            replace hK : va_K (dC, dI) classes [(ca, .object "VotedTriple$VotedModule")] s := hK
            refine W.widen (k := 0) (n := 0) (Nat.le_of_ble_eq_true rfl) (Nat.le_of_ble_eq_true rfl) ?_
            refine lv_iload_n hx hb d_T_vote_108 rfl (lv_at hl 0 rfl) ?_
            have hP9 := hP.sub (ws' := [(h0, .inr (0, oT (upc uT 9 (upc uT 9 ((uT 9) + (1 : Int32)) 9)) p9 a9 e9 n9 o9)), (a9, .inl (ca, 3, .inr (.inr (.inr (.inr (mo da)))))), (da 0, .inr (2, oD (F292 0) (ra 0) (ka 0))), (da 1, .inr (2, oD (F292 1) (ra 1) (ka 1))), (da 2, .inr (2, oD (F292 2) (ra 2) (ka 2)))]) [0, 1, 2, 3, 4] rfl
            have hD9 := hD.sub (ws' := [(h0, .inr (0, oT (upc uT 9 (upc uT 9 ((uT 9) + (1 : Int32)) 9)) p9 a9 e9 n9 o9)), (a9, .inl (ca, 3, .inr (.inr (.inr (.inr (mo da)))))), (da 0, .inr (2, oD (F292 0) (ra 0) (ka 0))), (da 1, .inr (2, oD (F292 1) (ra 1) (ka 1))), (da 2, .inr (2, oD (F292 2) (ra 2) (ka 2)))]) [0, 1, 2, 3, 4] (by decide) rfl
            have hK9 := hK.sub (tys' := [(ca, .object "VotedTriple$VotedModule")]) [0] rfl
            refine W.widen (k := 0) (n := 0) (Nat.le_of_ble_eq_true rfl) (Nat.le_of_ble_eq_true rfl) ?_
            exact W.iret (v := 0) hx hb hr (fun t ht hW => ⟨⟨_, (F292, upc uT 9 ((uT 9) + (1 : Int32)) 9), rfl, ⟨⟨(Or.inr (Or.inl rfl)), hr91⟩, (by rw [hSq0, s_T_vote_cut14_3]; try (rw [if_neg (by decide)]); try (rw [if_neg (by decide)]); try (rw [← hr79E, bnd_eq]); try (rw [← hr81E, bnd_eq]); try (rw [if_neg hc82]); try (rw [← hr84E, bnd_eq]); try (rw [if_pos rfl]); try (rw [← hr87E, bnd_eq]); try (rw [if_neg (by decide)]); try (rw [if_pos rfl]); try (rw [← hr91E, bnd_eq]); all_goals rfl)⟩, by rw [ht]; exact hP9, va_K.moved hW.alike hK9, hD9⟩, hS.F ht⟩) hS.2.2 d_T_vote_109
          · --  1
            refine lv_istore_n hx hb d_T_vote_89 rfl hl (by decide) rfl (fun ls hl => ?_)
            replace hl : lv_has ls 3 [(2, .int 1), (0, .ref h0), (1, .int 2)] := hl
            refine lv_iload_n hx hb d_T_vote_90 rfl (lv_at hl 0 rfl) ?_
            refine lv_iconst (v := (-1)) hx hb d_T_vote_91 (by decide) ?_
            refine lv_icmp_eq (tgt := 108) hx hb d_T_vote_92 rfl (fun hc93 => by first | exact absurd hc93 (by decide) | exact absurd (by decide) hc93) (fun hc93 => ?_)
            refine lv_aload_n hx hb d_T_vote_95 rfl (lv_at hl 1 rfl) ?_
            refine lv_aload_n hx hb d_T_vote_96 rfl (lv_at hl 1 rfl) ?_
            refine va_get (D := (dC, dI)) (ci := 0) (v := .ref a9) (C := "VotedTriple") (T := F_T) (N := 11) hx hb hw in_T hown hK hP 0 rfl rfl 1 (by decide) (hw _ k_195) (fun _ h9 => h9) rfl d_T_vote_97 ?_
            refine lv_iload_n hx hb d_T_vote_100 rfl (lv_at hl 0 rfl) ?_
            refine va_aldq hx hb hK hP 1 0 rfl rfl (by unfold vp_in; decide) d_T_vote_101 ?_
            refine W.eq (g2 := F0 m 102 ls [.ref (da 1), .ref h0]) rfl ?_
            refine va_get (D := (dC, dI)) (ci := 2) (v := .int (F 1 18)) (C := "VotedTriple$VotedModule") (T := F_D) (N := 19) hx hb hw in_D hown hK hP 3 rfl rfl 18 (by decide) (hw _ k_161) (fun _ h9 => h9) rfl d_T_vote_102 ?_
            replace hPc := hP.sub (ws' := [(h0, .inr (0, oT (upc uT 9 ((uT 9) + (1 : Int32))) p9 a9 e9 n9 o9)), (a9, .inl (ca, 3, .inr (.inr (.inr (.inr (mo da)))))), (da 0, .inr (2, oD (F 0) (ra 0) (ka 0))), (da 1, .inr (2, oD (F 1) (ra 1) (ka 1))), (da 2, .inr (2, oD (F 2) (ra 2) (ka 2)))]) [0, 1, 2, 3, 4] rfl
            replace hKc := hK.sub (tys' := [(ca, .object "VotedTriple$VotedModule")]) [0] rfl
            replace hDc := hD.sub (ws' := [(h0, .inr (0, oT (upc uT 9 ((uT 9) + (1 : Int32))) p9 a9 e9 n9 o9)), (a9, .inl (ca, 3, .inr (.inr (.inr (.inr (mo da)))))), (da 0, .inr (2, oD (F 0) (ra 0) (ka 0))), (da 1, .inr (2, oD (F 1) (ra 1) (ka 1))), (da 2, .inr (2, oD (F 2) (ra 2) (ka 2)))]) [0, 1, 2, 3, 4] (by decide) rfl
            replace hFc := va_free (wc := [(h0, .inr (0, oT (upc uT 9 ((uT 9) + (1 : Int32))) p9 a9 e9 n9 o9)), (a9, .inl (ca, 3, .inr (.inr (.inr (.inr (mo da)))))), (da 0, .inr (2, oD (F 0) (ra 0) (ka 0))), (da 1, .inr (2, oD (F 1) (ra 1) (ka 1))), (da 2, .inr (2, oD (F 2) (ra 2) (ka 2)))]) hD hS hA [0, 1, 2, 3, 4] rfl
            refine va_callv (va_runV (C := "VotedTriple") (As := [.int (F 1 18)]) (rest := []) ⟨hx, hb, hml, hown, hw⟩ (c_T_nameAllUnlike l dC dI h0 p9 a9 e9 n9 o9 ca da ra ka (upc uT 9 ((uT 9) + (1 : Int32))) F (F 1 18) hF H.size) (cwV 1 hw (gdV (k_607) (k_604) (k_606) (ks_13) (k_1)) rfl rfl rfl (by decide +kernel) ⟨Nat.le_of_ble_eq_true rfl, Nat.le_of_ble_eq_true rfl⟩) ⟨fun a U g mk q => by obtain ⟨q0, q1, qP, qK, qD⟩ := q; exact ⟨q0, q1, qP, va_K.moved (u := U) (U := U.calling g mk a) (Vm.Alike.refl U.vm) qK, qD⟩, va_recv hK hP rfl (q0 := 0) rfl, fun U hU hW => ⟨rfl, by rw [hU], by rw [hU]; exact hPc, va_K.moved hW.alike hKc, hDc.weaken (fun _ _ _ _ => trivial)⟩⟩ rfl rfl hl.1 rfl (lv_room (Nat.le_of_ble_eq_true rfl)) d_T_vote_105 ⟨Nat.le_of_ble_eq_true rfl, Nat.le_of_ble_eq_true rfl⟩) hS (fun q _ h => hFc q h) hFc (fun u9 t H1 locs ht hvm hr95 hB hz1 hk1 hS => ?_)
            obtain ⟨F296, rfl⟩ : ∃ z, z = u9 := ⟨_, rfl⟩
            obtain ⟨hP1, hK1, hD1⟩ := hB
            rw [ht] at hP1
            replace hK1 := va_K.moved hvm.symm hK1
            try dsimp only at hr95 hP1 hK1 hD1
            obtain ⟨hr95, hr95E⟩ := hr95
            obtain ⟨hPz, hDz⟩ := va_join (wr := []) (w1 := [(h0, .inr (0, oT (upc uT 9 ((uT 9) + (1 : Int32))) p9 a9 e9 n9 o9)), (a9, .inl (ca, 3, .inr (.inr (.inr (.inr (mo da)))))), (da 0, .inr (2, oD (F296 0) (ra 0) (ka 0))), (da 1, .inr (2, oD (F296 1) (ra 1) (ka 1))), (da 2, .inr (2, oD (F296 2) (ra 2) (ka 2)))]) hP hD [0, 1, 2, 3, 4] [] rfl rfl (by decide) (by decide) hk1 hFc hP1 hD1
            clear hP hD hPc hDc hP1 hD1 hFc
            have hP := hPz
            have hD := hDz
            clear hPz hDz
            replace hK := (hK.sub (tys' := []) [] rfl).app hK1
            clear hK1 hKc
            generalize H1 = H at hP hS ⊢
            replace hP : va_P (dC, dI) classes [(h0, .inr (0, oT (upc uT 9 ((uT 9) + (1 : Int32))) p9 a9 e9 n9 o9)), (a9, .inl (ca, 3, .inr (.inr (.inr (.inr (mo da)))))), (da 0, .inr (2, oD (F296 0) (ra 0) (ka 0))), (da 1, .inr (2, oD (F296 1) (ra 1) (ka 1))), (da 2, .inr (2, oD (F296 2) (ra 2) (ka 2)))] H := hP
            replace hD : va_D A [(h0, .inr (0, oT (upc uT 9 ((uT 9) + (1 : Int32))) p9 a9 e9 n9 o9)), (a9, .inl (ca, 3, .inr (.inr (.inr (.inr (mo da)))))), (da 0, .inr (2, oD (F296 0) (ra 0) (ka 0))), (da 1, .inr (2, oD (F296 1) (ra 1) (ka 1))), (da 2, .inr (2, oD (F296 2) (ra 2) (ka 2)))] := hD
            replace hK : va_K (dC, dI) classes [(ca, .object "VotedTriple$VotedModule")] s := hK
            refine W.widen (k := 0) (n := 0) (Nat.le_of_ble_eq_true rfl) (Nat.le_of_ble_eq_true rfl) ?_
            refine lv_iload_n hx hb d_T_vote_108 rfl (lv_at hl 0 rfl) ?_
            have hP9 := hP.sub (ws' := [(h0, .inr (0, oT (upc uT 9 (upc uT 9 ((uT 9) + (1 : Int32)) 9)) p9 a9 e9 n9 o9)), (a9, .inl (ca, 3, .inr (.inr (.inr (.inr (mo da)))))), (da 0, .inr (2, oD (F296 0) (ra 0) (ka 0))), (da 1, .inr (2, oD (F296 1) (ra 1) (ka 1))), (da 2, .inr (2, oD (F296 2) (ra 2) (ka 2)))]) [0, 1, 2, 3, 4] rfl
            have hD9 := hD.sub (ws' := [(h0, .inr (0, oT (upc uT 9 (upc uT 9 ((uT 9) + (1 : Int32)) 9)) p9 a9 e9 n9 o9)), (a9, .inl (ca, 3, .inr (.inr (.inr (.inr (mo da)))))), (da 0, .inr (2, oD (F296 0) (ra 0) (ka 0))), (da 1, .inr (2, oD (F296 1) (ra 1) (ka 1))), (da 2, .inr (2, oD (F296 2) (ra 2) (ka 2)))]) [0, 1, 2, 3, 4] (by decide) rfl
            have hK9 := hK.sub (tys' := [(ca, .object "VotedTriple$VotedModule")]) [0] rfl
            refine W.widen (k := 0) (n := 0) (Nat.le_of_ble_eq_true rfl) (Nat.le_of_ble_eq_true rfl) ?_
            exact W.iret (v := 1) hx hb hr (fun t ht hW => ⟨⟨_, (F296, upc uT 9 ((uT 9) + (1 : Int32)) 9), rfl, ⟨⟨(Or.inr (Or.inr (Or.inl rfl))), hr95⟩, (by rw [hSq0, s_T_vote_cut14_3]; try (rw [if_neg (by decide)]); try (rw [if_neg (by decide)]); try (rw [← hr79E, bnd_eq]); try (rw [← hr81E, bnd_eq]); try (rw [if_neg hc82]); try (rw [← hr84E, bnd_eq]); try (rw [if_pos rfl]); try (rw [← hr87E, bnd_eq]); try (rw [if_neg (by decide)]); try (rw [if_neg (by decide)]); try (rw [if_pos rfl]); try (rw [← hr95E, bnd_eq]); all_goals rfl)⟩, by rw [ht]; exact hP9, va_K.moved hW.alike hK9, hD9⟩, hS.F ht⟩) hS.2.2 d_T_vote_109
          · --  2
            refine lv_istore_n hx hb d_T_vote_89 rfl hl (by decide) rfl (fun ls hl => ?_)
            replace hl : lv_has ls 3 [(2, .int 2), (0, .ref h0), (1, .int 2)] := hl
            refine lv_iload_n hx hb d_T_vote_90 rfl (lv_at hl 0 rfl) ?_
            refine lv_iconst (v := (-1)) hx hb d_T_vote_91 (by decide) ?_
            refine lv_icmp_eq (tgt := 108) hx hb d_T_vote_92 rfl (fun hc97 => by first | exact absurd hc97 (by decide) | exact absurd (by decide) hc97) (fun hc97 => ?_)
            refine lv_aload_n hx hb d_T_vote_95 rfl (lv_at hl 1 rfl) ?_
            refine lv_aload_n hx hb d_T_vote_96 rfl (lv_at hl 1 rfl) ?_
            refine va_get (D := (dC, dI)) (ci := 0) (v := .ref a9) (C := "VotedTriple") (T := F_T) (N := 11) hx hb hw in_T hown hK hP 0 rfl rfl 1 (by decide) (hw _ k_195) (fun _ h9 => h9) rfl d_T_vote_97 ?_
            refine lv_iload_n hx hb d_T_vote_100 rfl (lv_at hl 0 rfl) ?_
            refine va_aldq hx hb hK hP 1 0 rfl rfl (by unfold vp_in; decide) d_T_vote_101 ?_
            refine W.eq (g2 := F0 m 102 ls [.ref (da 2), .ref h0]) rfl ?_
            refine va_get (D := (dC, dI)) (ci := 2) (v := .int (F 2 18)) (C := "VotedTriple$VotedModule") (T := F_D) (N := 19) hx hb hw in_D hown hK hP 4 rfl rfl 18 (by decide) (hw _ k_161) (fun _ h9 => h9) rfl d_T_vote_102 ?_
            replace hPc := hP.sub (ws' := [(h0, .inr (0, oT (upc uT 9 ((uT 9) + (1 : Int32))) p9 a9 e9 n9 o9)), (a9, .inl (ca, 3, .inr (.inr (.inr (.inr (mo da)))))), (da 0, .inr (2, oD (F 0) (ra 0) (ka 0))), (da 1, .inr (2, oD (F 1) (ra 1) (ka 1))), (da 2, .inr (2, oD (F 2) (ra 2) (ka 2)))]) [0, 1, 2, 3, 4] rfl
            replace hKc := hK.sub (tys' := [(ca, .object "VotedTriple$VotedModule")]) [0] rfl
            replace hDc := hD.sub (ws' := [(h0, .inr (0, oT (upc uT 9 ((uT 9) + (1 : Int32))) p9 a9 e9 n9 o9)), (a9, .inl (ca, 3, .inr (.inr (.inr (.inr (mo da)))))), (da 0, .inr (2, oD (F 0) (ra 0) (ka 0))), (da 1, .inr (2, oD (F 1) (ra 1) (ka 1))), (da 2, .inr (2, oD (F 2) (ra 2) (ka 2)))]) [0, 1, 2, 3, 4] (by decide) rfl
            replace hFc := va_free (wc := [(h0, .inr (0, oT (upc uT 9 ((uT 9) + (1 : Int32))) p9 a9 e9 n9 o9)), (a9, .inl (ca, 3, .inr (.inr (.inr (.inr (mo da)))))), (da 0, .inr (2, oD (F 0) (ra 0) (ka 0))), (da 1, .inr (2, oD (F 1) (ra 1) (ka 1))), (da 2, .inr (2, oD (F 2) (ra 2) (ka 2)))]) hD hS hA [0, 1, 2, 3, 4] rfl
            refine va_callv (va_runV (C := "VotedTriple") (As := [.int (F 2 18)]) (rest := []) ⟨hx, hb, hml, hown, hw⟩ (c_T_nameAllUnlike l dC dI h0 p9 a9 e9 n9 o9 ca da ra ka (upc uT 9 ((uT 9) + (1 : Int32))) F (F 2 18) hF H.size) (cwV 1 hw (gdV (k_607) (k_604) (k_606) (ks_13) (k_1)) rfl rfl rfl (by decide +kernel) ⟨Nat.le_of_ble_eq_true rfl, Nat.le_of_ble_eq_true rfl⟩) ⟨fun a U g mk q => by obtain ⟨q0, q1, qP, qK, qD⟩ := q; exact ⟨q0, q1, qP, va_K.moved (u := U) (U := U.calling g mk a) (Vm.Alike.refl U.vm) qK, qD⟩, va_recv hK hP rfl (q0 := 0) rfl, fun U hU hW => ⟨rfl, by rw [hU], by rw [hU]; exact hPc, va_K.moved hW.alike hKc, hDc.weaken (fun _ _ _ _ => trivial)⟩⟩ rfl rfl hl.1 rfl (lv_room (Nat.le_of_ble_eq_true rfl)) d_T_vote_105 ⟨Nat.le_of_ble_eq_true rfl, Nat.le_of_ble_eq_true rfl⟩) hS (fun q _ h => hFc q h) hFc (fun u9 t H1 locs ht hvm hr99 hB hz1 hk1 hS => ?_)
            obtain ⟨F2100, rfl⟩ : ∃ z, z = u9 := ⟨_, rfl⟩
            obtain ⟨hP1, hK1, hD1⟩ := hB
            rw [ht] at hP1
            replace hK1 := va_K.moved hvm.symm hK1
            try dsimp only at hr99 hP1 hK1 hD1
            obtain ⟨hr99, hr99E⟩ := hr99
            obtain ⟨hPz, hDz⟩ := va_join (wr := []) (w1 := [(h0, .inr (0, oT (upc uT 9 ((uT 9) + (1 : Int32))) p9 a9 e9 n9 o9)), (a9, .inl (ca, 3, .inr (.inr (.inr (.inr (mo da)))))), (da 0, .inr (2, oD (F2100 0) (ra 0) (ka 0))), (da 1, .inr (2, oD (F2100 1) (ra 1) (ka 1))), (da 2, .inr (2, oD (F2100 2) (ra 2) (ka 2)))]) hP hD [0, 1, 2, 3, 4] [] rfl rfl (by decide) (by decide) hk1 hFc hP1 hD1
            clear hP hD hPc hDc hP1 hD1 hFc
            have hP := hPz
            have hD := hDz
            clear hPz hDz
            replace hK := (hK.sub (tys' := []) [] rfl).app hK1
            clear hK1 hKc
            generalize H1 = H at hP hS ⊢
            replace hP : va_P (dC, dI) classes [(h0, .inr (0, oT (upc uT 9 ((uT 9) + (1 : Int32))) p9 a9 e9 n9 o9)), (a9, .inl (ca, 3, .inr (.inr (.inr (.inr (mo da)))))), (da 0, .inr (2, oD (F2100 0) (ra 0) (ka 0))), (da 1, .inr (2, oD (F2100 1) (ra 1) (ka 1))), (da 2, .inr (2, oD (F2100 2) (ra 2) (ka 2)))] H := hP
            replace hD : va_D A [(h0, .inr (0, oT (upc uT 9 ((uT 9) + (1 : Int32))) p9 a9 e9 n9 o9)), (a9, .inl (ca, 3, .inr (.inr (.inr (.inr (mo da)))))), (da 0, .inr (2, oD (F2100 0) (ra 0) (ka 0))), (da 1, .inr (2, oD (F2100 1) (ra 1) (ka 1))), (da 2, .inr (2, oD (F2100 2) (ra 2) (ka 2)))] := hD
            replace hK : va_K (dC, dI) classes [(ca, .object "VotedTriple$VotedModule")] s := hK
            refine W.widen (k := 0) (n := 0) (Nat.le_of_ble_eq_true rfl) (Nat.le_of_ble_eq_true rfl) ?_
            refine lv_iload_n hx hb d_T_vote_108 rfl (lv_at hl 0 rfl) ?_
            have hP9 := hP.sub (ws' := [(h0, .inr (0, oT (upc uT 9 (upc uT 9 ((uT 9) + (1 : Int32)) 9)) p9 a9 e9 n9 o9)), (a9, .inl (ca, 3, .inr (.inr (.inr (.inr (mo da)))))), (da 0, .inr (2, oD (F2100 0) (ra 0) (ka 0))), (da 1, .inr (2, oD (F2100 1) (ra 1) (ka 1))), (da 2, .inr (2, oD (F2100 2) (ra 2) (ka 2)))]) [0, 1, 2, 3, 4] rfl
            have hD9 := hD.sub (ws' := [(h0, .inr (0, oT (upc uT 9 (upc uT 9 ((uT 9) + (1 : Int32)) 9)) p9 a9 e9 n9 o9)), (a9, .inl (ca, 3, .inr (.inr (.inr (.inr (mo da)))))), (da 0, .inr (2, oD (F2100 0) (ra 0) (ka 0))), (da 1, .inr (2, oD (F2100 1) (ra 1) (ka 1))), (da 2, .inr (2, oD (F2100 2) (ra 2) (ka 2)))]) [0, 1, 2, 3, 4] (by decide) rfl
            have hK9 := hK.sub (tys' := [(ca, .object "VotedTriple$VotedModule")]) [0] rfl
            refine W.widen (k := 0) (n := 0) (Nat.le_of_ble_eq_true rfl) (Nat.le_of_ble_eq_true rfl) ?_
            exact W.iret (v := 2) hx hb hr (fun t ht hW => ⟨⟨_, (F2100, upc uT 9 ((uT 9) + (1 : Int32)) 9), rfl, ⟨⟨(Or.inr (Or.inr (Or.inr rfl))), hr99⟩, (by rw [hSq0, s_T_vote_cut14_3]; try (rw [if_neg (by decide)]); try (rw [if_neg (by decide)]); try (rw [← hr79E, bnd_eq]); try (rw [← hr81E, bnd_eq]); try (rw [if_neg hc82]); try (rw [← hr84E, bnd_eq]); try (rw [if_pos rfl]); try (rw [← hr87E, bnd_eq]); try (rw [if_neg (by decide)]); try (rw [if_neg (by decide)]); try (rw [if_neg (by decide)]); try (rw [← hr99E, bnd_eq]); all_goals rfl)⟩, by rw [ht]; exact hP9, va_K.moved hW.alike hK9, hD9⟩, hS.F ht⟩) hS.2.2 d_T_vote_109
        · --  0
          refine lv_istore_n hx hb d_T_vote_79 rfl hl (by decide) rfl (fun ls hl => ?_)
          replace hl : lv_has ls 3 [(2, .int 0), (0, .ref h0), (1, .int 2)] := hl
          refine lv_iload_n hx hb d_T_vote_80 rfl (lv_at hl 0 rfl) ?_
          refine lv_iconst (v := (-1)) hx hb d_T_vote_81 (by decide) ?_
          refine lv_icmp_ne (tgt := 90) hx hb d_T_vote_82 rfl (fun hc101 => ?_) (fun hc101 => by first | exact absurd (by decide) hc101 | exact absurd hc101 (by decide))
          refine lv_iload_n hx hb d_T_vote_90 rfl (lv_at hl 0 rfl) ?_
          refine lv_iconst (v := (-1)) hx hb d_T_vote_91 (by decide) ?_
          refine lv_icmp_eq (tgt := 108) hx hb d_T_vote_92 rfl (fun hc102 => by first | exact absurd hc102 (by decide) | exact absurd (by decide) hc102) (fun hc102 => ?_)
          refine lv_aload_n hx hb d_T_vote_95 rfl (lv_at hl 1 rfl) ?_
          refine lv_aload_n hx hb d_T_vote_96 rfl (lv_at hl 1 rfl) ?_
          refine va_get (D := (dC, dI)) (ci := 0) (v := .ref a9) (C := "VotedTriple") (T := F_T) (N := 11) hx hb hw in_T hown hK hP 0 rfl rfl 1 (by decide) (hw _ k_195) (fun _ h9 => h9) rfl d_T_vote_97 ?_
          refine lv_iload_n hx hb d_T_vote_100 rfl (lv_at hl 0 rfl) ?_
          refine va_aldq hx hb hK hP 1 0 rfl rfl (by unfold vp_in; decide) d_T_vote_101 ?_
          refine W.eq (g2 := F0 m 102 ls [.ref (da 0), .ref h0]) rfl ?_
          refine va_get (D := (dC, dI)) (ci := 2) (v := .int (F 0 18)) (C := "VotedTriple$VotedModule") (T := F_D) (N := 19) hx hb hw in_D hown hK hP 2 rfl rfl 18 (by decide) (hw _ k_161) (fun _ h9 => h9) rfl d_T_vote_102 ?_
          replace hPc := hP.sub (ws' := [(h0, .inr (0, oT (upc uT 9 ((uT 9) + (1 : Int32))) p9 a9 e9 n9 o9)), (a9, .inl (ca, 3, .inr (.inr (.inr (.inr (mo da)))))), (da 0, .inr (2, oD (F 0) (ra 0) (ka 0))), (da 1, .inr (2, oD (F 1) (ra 1) (ka 1))), (da 2, .inr (2, oD (F 2) (ra 2) (ka 2)))]) [0, 1, 2, 3, 4] rfl
          replace hKc := hK.sub (tys' := [(ca, .object "VotedTriple$VotedModule")]) [0] rfl
          replace hDc := hD.sub (ws' := [(h0, .inr (0, oT (upc uT 9 ((uT 9) + (1 : Int32))) p9 a9 e9 n9 o9)), (a9, .inl (ca, 3, .inr (.inr (.inr (.inr (mo da)))))), (da 0, .inr (2, oD (F 0) (ra 0) (ka 0))), (da 1, .inr (2, oD (F 1) (ra 1) (ka 1))), (da 2, .inr (2, oD (F 2) (ra 2) (ka 2)))]) [0, 1, 2, 3, 4] (by decide) rfl
          replace hFc := va_free (wc := [(h0, .inr (0, oT (upc uT 9 ((uT 9) + (1 : Int32))) p9 a9 e9 n9 o9)), (a9, .inl (ca, 3, .inr (.inr (.inr (.inr (mo da)))))), (da 0, .inr (2, oD (F 0) (ra 0) (ka 0))), (da 1, .inr (2, oD (F 1) (ra 1) (ka 1))), (da 2, .inr (2, oD (F 2) (ra 2) (ka 2)))]) hD hS hA [0, 1, 2, 3, 4] rfl
          refine va_callv (va_runV (C := "VotedTriple") (As := [.int (F 0 18)]) (rest := []) ⟨hx, hb, hml, hown, hw⟩ (c_T_nameAllUnlike l dC dI h0 p9 a9 e9 n9 o9 ca da ra ka (upc uT 9 ((uT 9) + (1 : Int32))) F (F 0 18) hF H.size) (cwV 1 hw (gdV (k_607) (k_604) (k_606) (ks_13) (k_1)) rfl rfl rfl (by decide +kernel) ⟨Nat.le_of_ble_eq_true rfl, Nat.le_of_ble_eq_true rfl⟩) ⟨fun a U g mk q => by obtain ⟨q0, q1, qP, qK, qD⟩ := q; exact ⟨q0, q1, qP, va_K.moved (u := U) (U := U.calling g mk a) (Vm.Alike.refl U.vm) qK, qD⟩, va_recv hK hP rfl (q0 := 0) rfl, fun U hU hW => ⟨rfl, by rw [hU], by rw [hU]; exact hPc, va_K.moved hW.alike hKc, hDc.weaken (fun _ _ _ _ => trivial)⟩⟩ rfl rfl hl.1 rfl (lv_room (Nat.le_of_ble_eq_true rfl)) d_T_vote_105 ⟨Nat.le_of_ble_eq_true rfl, Nat.le_of_ble_eq_true rfl⟩) hS (fun q _ h => hFc q h) hFc (fun u9 t H1 locs ht hvm hr104 hB hz1 hk1 hS => ?_)
          obtain ⟨F2105, rfl⟩ : ∃ z, z = u9 := ⟨_, rfl⟩
          obtain ⟨hP1, hK1, hD1⟩ := hB
          rw [ht] at hP1
          replace hK1 := va_K.moved hvm.symm hK1
          try dsimp only at hr104 hP1 hK1 hD1
          obtain ⟨hr104, hr104E⟩ := hr104
          obtain ⟨hPz, hDz⟩ := va_join (wr := []) (w1 := [(h0, .inr (0, oT (upc uT 9 ((uT 9) + (1 : Int32))) p9 a9 e9 n9 o9)), (a9, .inl (ca, 3, .inr (.inr (.inr (.inr (mo da)))))), (da 0, .inr (2, oD (F2105 0) (ra 0) (ka 0))), (da 1, .inr (2, oD (F2105 1) (ra 1) (ka 1))), (da 2, .inr (2, oD (F2105 2) (ra 2) (ka 2)))]) hP hD [0, 1, 2, 3, 4] [] rfl rfl (by decide) (by decide) hk1 hFc hP1 hD1
          clear hP hD hPc hDc hP1 hD1 hFc
          have hP := hPz
          have hD := hDz
          clear hPz hDz
          replace hK := (hK.sub (tys' := []) [] rfl).app hK1
          clear hK1 hKc
          generalize H1 = H at hP hS ⊢
          replace hP : va_P (dC, dI) classes [(h0, .inr (0, oT (upc uT 9 ((uT 9) + (1 : Int32))) p9 a9 e9 n9 o9)), (a9, .inl (ca, 3, .inr (.inr (.inr (.inr (mo da)))))), (da 0, .inr (2, oD (F2105 0) (ra 0) (ka 0))), (da 1, .inr (2, oD (F2105 1) (ra 1) (ka 1))), (da 2, .inr (2, oD (F2105 2) (ra 2) (ka 2)))] H := hP
          replace hD : va_D A [(h0, .inr (0, oT (upc uT 9 ((uT 9) + (1 : Int32))) p9 a9 e9 n9 o9)), (a9, .inl (ca, 3, .inr (.inr (.inr (.inr (mo da)))))), (da 0, .inr (2, oD (F2105 0) (ra 0) (ka 0))), (da 1, .inr (2, oD (F2105 1) (ra 1) (ka 1))), (da 2, .inr (2, oD (F2105 2) (ra 2) (ka 2)))] := hD
          replace hK : va_K (dC, dI) classes [(ca, .object "VotedTriple$VotedModule")] s := hK
          refine W.widen (k := 0) (n := 0) (Nat.le_of_ble_eq_true rfl) (Nat.le_of_ble_eq_true rfl) ?_
          refine lv_iload_n hx hb d_T_vote_108 rfl (lv_at hl 0 rfl) ?_
          have hP9 := hP.sub (ws' := [(h0, .inr (0, oT (upc uT 9 (upc uT 9 ((uT 9) + (1 : Int32)) 9)) p9 a9 e9 n9 o9)), (a9, .inl (ca, 3, .inr (.inr (.inr (.inr (mo da)))))), (da 0, .inr (2, oD (F2105 0) (ra 0) (ka 0))), (da 1, .inr (2, oD (F2105 1) (ra 1) (ka 1))), (da 2, .inr (2, oD (F2105 2) (ra 2) (ka 2)))]) [0, 1, 2, 3, 4] rfl
          have hD9 := hD.sub (ws' := [(h0, .inr (0, oT (upc uT 9 (upc uT 9 ((uT 9) + (1 : Int32)) 9)) p9 a9 e9 n9 o9)), (a9, .inl (ca, 3, .inr (.inr (.inr (.inr (mo da)))))), (da 0, .inr (2, oD (F2105 0) (ra 0) (ka 0))), (da 1, .inr (2, oD (F2105 1) (ra 1) (ka 1))), (da 2, .inr (2, oD (F2105 2) (ra 2) (ka 2)))]) [0, 1, 2, 3, 4] (by decide) rfl
          have hK9 := hK.sub (tys' := [(ca, .object "VotedTriple$VotedModule")]) [0] rfl
          refine W.widen (k := 0) (n := 0) (Nat.le_of_ble_eq_true rfl) (Nat.le_of_ble_eq_true rfl) ?_
          exact W.iret (v := 0) hx hb hr (fun t ht hW => ⟨⟨_, (F2105, upc uT 9 ((uT 9) + (1 : Int32)) 9), rfl, ⟨⟨(Or.inr (Or.inl rfl)), hr104⟩, (by rw [hSq0, s_T_vote_cut14_3]; try (rw [if_neg (by decide)]); try (rw [if_neg (by decide)]); try (rw [← hr79E, bnd_eq]); try (rw [← hr81E, bnd_eq]); try (rw [if_neg hc82]); try (rw [← hr84E, bnd_eq]); try (rw [if_neg (by decide)]); try (rw [if_pos rfl]); try (rw [← hr104E, bnd_eq]); all_goals rfl)⟩, by rw [ht]; exact hP9, va_K.moved hW.alike hK9, hD9⟩, hS.F ht⟩) hS.2.2 d_T_vote_109
        · --  1
          refine lv_istore_n hx hb d_T_vote_79 rfl hl (by decide) rfl (fun ls hl => ?_)
          replace hl : lv_has ls 3 [(2, .int 1), (0, .ref h0), (1, .int 2)] := hl
          refine lv_iload_n hx hb d_T_vote_80 rfl (lv_at hl 0 rfl) ?_
          refine lv_iconst (v := (-1)) hx hb d_T_vote_81 (by decide) ?_
          refine lv_icmp_ne (tgt := 90) hx hb d_T_vote_82 rfl (fun hc106 => ?_) (fun hc106 => by first | exact absurd (by decide) hc106 | exact absurd hc106 (by decide))
          refine lv_iload_n hx hb d_T_vote_90 rfl (lv_at hl 0 rfl) ?_
          refine lv_iconst (v := (-1)) hx hb d_T_vote_91 (by decide) ?_
          refine lv_icmp_eq (tgt := 108) hx hb d_T_vote_92 rfl (fun hc107 => by first | exact absurd hc107 (by decide) | exact absurd (by decide) hc107) (fun hc107 => ?_)
          refine lv_aload_n hx hb d_T_vote_95 rfl (lv_at hl 1 rfl) ?_
          refine lv_aload_n hx hb d_T_vote_96 rfl (lv_at hl 1 rfl) ?_
          refine va_get (D := (dC, dI)) (ci := 0) (v := .ref a9) (C := "VotedTriple") (T := F_T) (N := 11) hx hb hw in_T hown hK hP 0 rfl rfl 1 (by decide) (hw _ k_195) (fun _ h9 => h9) rfl d_T_vote_97 ?_
          refine lv_iload_n hx hb d_T_vote_100 rfl (lv_at hl 0 rfl) ?_
          refine va_aldq hx hb hK hP 1 0 rfl rfl (by unfold vp_in; decide) d_T_vote_101 ?_
          refine W.eq (g2 := F0 m 102 ls [.ref (da 1), .ref h0]) rfl ?_
          refine va_get (D := (dC, dI)) (ci := 2) (v := .int (F 1 18)) (C := "VotedTriple$VotedModule") (T := F_D) (N := 19) hx hb hw in_D hown hK hP 3 rfl rfl 18 (by decide) (hw _ k_161) (fun _ h9 => h9) rfl d_T_vote_102 ?_
          replace hPc := hP.sub (ws' := [(h0, .inr (0, oT (upc uT 9 ((uT 9) + (1 : Int32))) p9 a9 e9 n9 o9)), (a9, .inl (ca, 3, .inr (.inr (.inr (.inr (mo da)))))), (da 0, .inr (2, oD (F 0) (ra 0) (ka 0))), (da 1, .inr (2, oD (F 1) (ra 1) (ka 1))), (da 2, .inr (2, oD (F 2) (ra 2) (ka 2)))]) [0, 1, 2, 3, 4] rfl
          replace hKc := hK.sub (tys' := [(ca, .object "VotedTriple$VotedModule")]) [0] rfl
          replace hDc := hD.sub (ws' := [(h0, .inr (0, oT (upc uT 9 ((uT 9) + (1 : Int32))) p9 a9 e9 n9 o9)), (a9, .inl (ca, 3, .inr (.inr (.inr (.inr (mo da)))))), (da 0, .inr (2, oD (F 0) (ra 0) (ka 0))), (da 1, .inr (2, oD (F 1) (ra 1) (ka 1))), (da 2, .inr (2, oD (F 2) (ra 2) (ka 2)))]) [0, 1, 2, 3, 4] (by decide) rfl
          replace hFc := va_free (wc := [(h0, .inr (0, oT (upc uT 9 ((uT 9) + (1 : Int32))) p9 a9 e9 n9 o9)), (a9, .inl (ca, 3, .inr (.inr (.inr (.inr (mo da)))))), (da 0, .inr (2, oD (F 0) (ra 0) (ka 0))), (da 1, .inr (2, oD (F 1) (ra 1) (ka 1))), (da 2, .inr (2, oD (F 2) (ra 2) (ka 2)))]) hD hS hA [0, 1, 2, 3, 4] rfl
          refine va_callv (va_runV (C := "VotedTriple") (As := [.int (F 1 18)]) (rest := []) ⟨hx, hb, hml, hown, hw⟩ (c_T_nameAllUnlike l dC dI h0 p9 a9 e9 n9 o9 ca da ra ka (upc uT 9 ((uT 9) + (1 : Int32))) F (F 1 18) hF H.size) (cwV 1 hw (gdV (k_607) (k_604) (k_606) (ks_13) (k_1)) rfl rfl rfl (by decide +kernel) ⟨Nat.le_of_ble_eq_true rfl, Nat.le_of_ble_eq_true rfl⟩) ⟨fun a U g mk q => by obtain ⟨q0, q1, qP, qK, qD⟩ := q; exact ⟨q0, q1, qP, va_K.moved (u := U) (U := U.calling g mk a) (Vm.Alike.refl U.vm) qK, qD⟩, va_recv hK hP rfl (q0 := 0) rfl, fun U hU hW => ⟨rfl, by rw [hU], by rw [hU]; exact hPc, va_K.moved hW.alike hKc, hDc.weaken (fun _ _ _ _ => trivial)⟩⟩ rfl rfl hl.1 rfl (lv_room (Nat.le_of_ble_eq_true rfl)) d_T_vote_105 ⟨Nat.le_of_ble_eq_true rfl, Nat.le_of_ble_eq_true rfl⟩) hS (fun q _ h => hFc q h) hFc (fun u9 t H1 locs ht hvm hr109 hB hz1 hk1 hS => ?_)
          obtain ⟨F2110, rfl⟩ : ∃ z, z = u9 := ⟨_, rfl⟩
          obtain ⟨hP1, hK1, hD1⟩ := hB
          rw [ht] at hP1
          replace hK1 := va_K.moved hvm.symm hK1
          try dsimp only at hr109 hP1 hK1 hD1
          obtain ⟨hr109, hr109E⟩ := hr109
          obtain ⟨hPz, hDz⟩ := va_join (wr := []) (w1 := [(h0, .inr (0, oT (upc uT 9 ((uT 9) + (1 : Int32))) p9 a9 e9 n9 o9)), (a9, .inl (ca, 3, .inr (.inr (.inr (.inr (mo da)))))), (da 0, .inr (2, oD (F2110 0) (ra 0) (ka 0))), (da 1, .inr (2, oD (F2110 1) (ra 1) (ka 1))), (da 2, .inr (2, oD (F2110 2) (ra 2) (ka 2)))]) hP hD [0, 1, 2, 3, 4] [] rfl rfl (by decide) (by decide) hk1 hFc hP1 hD1
          clear hP hD hPc hDc hP1 hD1 hFc
          have hP := hPz
          have hD := hDz
          clear hPz hDz
          replace hK := (hK.sub (tys' := []) [] rfl).app hK1
          clear hK1 hKc
          generalize H1 = H at hP hS ⊢
          replace hP : va_P (dC, dI) classes [(h0, .inr (0, oT (upc uT 9 ((uT 9) + (1 : Int32))) p9 a9 e9 n9 o9)), (a9, .inl (ca, 3, .inr (.inr (.inr (.inr (mo da)))))), (da 0, .inr (2, oD (F2110 0) (ra 0) (ka 0))), (da 1, .inr (2, oD (F2110 1) (ra 1) (ka 1))), (da 2, .inr (2, oD (F2110 2) (ra 2) (ka 2)))] H := hP
          replace hD : va_D A [(h0, .inr (0, oT (upc uT 9 ((uT 9) + (1 : Int32))) p9 a9 e9 n9 o9)), (a9, .inl (ca, 3, .inr (.inr (.inr (.inr (mo da)))))), (da 0, .inr (2, oD (F2110 0) (ra 0) (ka 0))), (da 1, .inr (2, oD (F2110 1) (ra 1) (ka 1))), (da 2, .inr (2, oD (F2110 2) (ra 2) (ka 2)))] := hD
          replace hK : va_K (dC, dI) classes [(ca, .object "VotedTriple$VotedModule")] s := hK
          refine W.widen (k := 0) (n := 0) (Nat.le_of_ble_eq_true rfl) (Nat.le_of_ble_eq_true rfl) ?_
          refine lv_iload_n hx hb d_T_vote_108 rfl (lv_at hl 0 rfl) ?_
          have hP9 := hP.sub (ws' := [(h0, .inr (0, oT (upc uT 9 (upc uT 9 ((uT 9) + (1 : Int32)) 9)) p9 a9 e9 n9 o9)), (a9, .inl (ca, 3, .inr (.inr (.inr (.inr (mo da)))))), (da 0, .inr (2, oD (F2110 0) (ra 0) (ka 0))), (da 1, .inr (2, oD (F2110 1) (ra 1) (ka 1))), (da 2, .inr (2, oD (F2110 2) (ra 2) (ka 2)))]) [0, 1, 2, 3, 4] rfl
          have hD9 := hD.sub (ws' := [(h0, .inr (0, oT (upc uT 9 (upc uT 9 ((uT 9) + (1 : Int32)) 9)) p9 a9 e9 n9 o9)), (a9, .inl (ca, 3, .inr (.inr (.inr (.inr (mo da)))))), (da 0, .inr (2, oD (F2110 0) (ra 0) (ka 0))), (da 1, .inr (2, oD (F2110 1) (ra 1) (ka 1))), (da 2, .inr (2, oD (F2110 2) (ra 2) (ka 2)))]) [0, 1, 2, 3, 4] (by decide) rfl
          have hK9 := hK.sub (tys' := [(ca, .object "VotedTriple$VotedModule")]) [0] rfl
          refine W.widen (k := 0) (n := 0) (Nat.le_of_ble_eq_true rfl) (Nat.le_of_ble_eq_true rfl) ?_
          exact W.iret (v := 1) hx hb hr (fun t ht hW => ⟨⟨_, (F2110, upc uT 9 ((uT 9) + (1 : Int32)) 9), rfl, ⟨⟨(Or.inr (Or.inr (Or.inl rfl))), hr109⟩, (by rw [hSq0, s_T_vote_cut14_3]; try (rw [if_neg (by decide)]); try (rw [if_neg (by decide)]); try (rw [← hr79E, bnd_eq]); try (rw [← hr81E, bnd_eq]); try (rw [if_neg hc82]); try (rw [← hr84E, bnd_eq]); try (rw [if_neg (by decide)]); try (rw [if_neg (by decide)]); try (rw [if_pos rfl]); try (rw [← hr109E, bnd_eq]); all_goals rfl)⟩, by rw [ht]; exact hP9, va_K.moved hW.alike hK9, hD9⟩, hS.F ht⟩) hS.2.2 d_T_vote_109
        · --  2
          refine lv_istore_n hx hb d_T_vote_79 rfl hl (by decide) rfl (fun ls hl => ?_)
          replace hl : lv_has ls 3 [(2, .int 2), (0, .ref h0), (1, .int 2)] := hl
          refine lv_iload_n hx hb d_T_vote_80 rfl (lv_at hl 0 rfl) ?_
          refine lv_iconst (v := (-1)) hx hb d_T_vote_81 (by decide) ?_
          refine lv_icmp_ne (tgt := 90) hx hb d_T_vote_82 rfl (fun hc111 => ?_) (fun hc111 => by first | exact absurd (by decide) hc111 | exact absurd hc111 (by decide))
          refine lv_iload_n hx hb d_T_vote_90 rfl (lv_at hl 0 rfl) ?_
          refine lv_iconst (v := (-1)) hx hb d_T_vote_91 (by decide) ?_
          refine lv_icmp_eq (tgt := 108) hx hb d_T_vote_92 rfl (fun hc112 => by first | exact absurd hc112 (by decide) | exact absurd (by decide) hc112) (fun hc112 => ?_)
          refine lv_aload_n hx hb d_T_vote_95 rfl (lv_at hl 1 rfl) ?_
          refine lv_aload_n hx hb d_T_vote_96 rfl (lv_at hl 1 rfl) ?_
          refine va_get (D := (dC, dI)) (ci := 0) (v := .ref a9) (C := "VotedTriple") (T := F_T) (N := 11) hx hb hw in_T hown hK hP 0 rfl rfl 1 (by decide) (hw _ k_195) (fun _ h9 => h9) rfl d_T_vote_97 ?_
          refine lv_iload_n hx hb d_T_vote_100 rfl (lv_at hl 0 rfl) ?_
          refine va_aldq hx hb hK hP 1 0 rfl rfl (by unfold vp_in; decide) d_T_vote_101 ?_
          refine W.eq (g2 := F0 m 102 ls [.ref (da 2), .ref h0]) rfl ?_
          refine va_get (D := (dC, dI)) (ci := 2) (v := .int (F 2 18)) (C := "VotedTriple$VotedModule") (T := F_D) (N := 19) hx hb hw in_D hown hK hP 4 rfl rfl 18 (by decide) (hw _ k_161) (fun _ h9 => h9) rfl d_T_vote_102 ?_
          replace hPc := hP.sub (ws' := [(h0, .inr (0, oT (upc uT 9 ((uT 9) + (1 : Int32))) p9 a9 e9 n9 o9)), (a9, .inl (ca, 3, .inr (.inr (.inr (.inr (mo da)))))), (da 0, .inr (2, oD (F 0) (ra 0) (ka 0))), (da 1, .inr (2, oD (F 1) (ra 1) (ka 1))), (da 2, .inr (2, oD (F 2) (ra 2) (ka 2)))]) [0, 1, 2, 3, 4] rfl
          replace hKc := hK.sub (tys' := [(ca, .object "VotedTriple$VotedModule")]) [0] rfl
          replace hDc := hD.sub (ws' := [(h0, .inr (0, oT (upc uT 9 ((uT 9) + (1 : Int32))) p9 a9 e9 n9 o9)), (a9, .inl (ca, 3, .inr (.inr (.inr (.inr (mo da)))))), (da 0, .inr (2, oD (F 0) (ra 0) (ka 0))), (da 1, .inr (2, oD (F 1) (ra 1) (ka 1))), (da 2, .inr (2, oD (F 2) (ra 2) (ka 2)))]) [0, 1, 2, 3, 4] (by decide) rfl
          replace hFc := va_free (wc := [(h0, .inr (0, oT (upc uT 9 ((uT 9) + (1 : Int32))) p9 a9 e9 n9 o9)), (a9, .inl (ca, 3, .inr (.inr (.inr (.inr (mo da)))))), (da 0, .inr (2, oD (F 0) (ra 0) (ka 0))), (da 1, .inr (2, oD (F 1) (ra 1) (ka 1))), (da 2, .inr (2, oD (F 2) (ra 2) (ka 2)))]) hD hS hA [0, 1, 2, 3, 4] rfl
          refine va_callv (va_runV (C := "VotedTriple") (As := [.int (F 2 18)]) (rest := []) ⟨hx, hb, hml, hown, hw⟩ (c_T_nameAllUnlike l dC dI h0 p9 a9 e9 n9 o9 ca da ra ka (upc uT 9 ((uT 9) + (1 : Int32))) F (F 2 18) hF H.size) (cwV 1 hw (gdV (k_607) (k_604) (k_606) (ks_13) (k_1)) rfl rfl rfl (by decide +kernel) ⟨Nat.le_of_ble_eq_true rfl, Nat.le_of_ble_eq_true rfl⟩) ⟨fun a U g mk q => by obtain ⟨q0, q1, qP, qK, qD⟩ := q; exact ⟨q0, q1, qP, va_K.moved (u := U) (U := U.calling g mk a) (Vm.Alike.refl U.vm) qK, qD⟩, va_recv hK hP rfl (q0 := 0) rfl, fun U hU hW => ⟨rfl, by rw [hU], by rw [hU]; exact hPc, va_K.moved hW.alike hKc, hDc.weaken (fun _ _ _ _ => trivial)⟩⟩ rfl rfl hl.1 rfl (lv_room (Nat.le_of_ble_eq_true rfl)) d_T_vote_105 ⟨Nat.le_of_ble_eq_true rfl, Nat.le_of_ble_eq_true rfl⟩) hS (fun q _ h => hFc q h) hFc (fun u9 t H1 locs ht hvm hr114 hB hz1 hk1 hS => ?_)
          obtain ⟨F2115, rfl⟩ : ∃ z, z = u9 := ⟨_, rfl⟩
          obtain ⟨hP1, hK1, hD1⟩ := hB
          rw [ht] at hP1
          replace hK1 := va_K.moved hvm.symm hK1
          try dsimp only at hr114 hP1 hK1 hD1
          obtain ⟨hr114, hr114E⟩ := hr114
          obtain ⟨hPz, hDz⟩ := va_join (wr := []) (w1 := [(h0, .inr (0, oT (upc uT 9 ((uT 9) + (1 : Int32))) p9 a9 e9 n9 o9)), (a9, .inl (ca, 3, .inr (.inr (.inr (.inr (mo da)))))), (da 0, .inr (2, oD (F2115 0) (ra 0) (ka 0))), (da 1, .inr (2, oD (F2115 1) (ra 1) (ka 1))), (da 2, .inr (2, oD (F2115 2) (ra 2) (ka 2)))]) hP hD [0, 1, 2, 3, 4] [] rfl rfl (by decide) (by decide) hk1 hFc hP1 hD1
          clear hP hD hPc hDc hP1 hD1 hFc
          have hP := hPz
          have hD := hDz
          clear hPz hDz
          replace hK := (hK.sub (tys' := []) [] rfl).app hK1
          clear hK1 hKc
          generalize H1 = H at hP hS ⊢
          replace hP : va_P (dC, dI) classes [(h0, .inr (0, oT (upc uT 9 ((uT 9) + (1 : Int32))) p9 a9 e9 n9 o9)), (a9, .inl (ca, 3, .inr (.inr (.inr (.inr (mo da)))))), (da 0, .inr (2, oD (F2115 0) (ra 0) (ka 0))), (da 1, .inr (2, oD (F2115 1) (ra 1) (ka 1))), (da 2, .inr (2, oD (F2115 2) (ra 2) (ka 2)))] H := hP
          replace hD : va_D A [(h0, .inr (0, oT (upc uT 9 ((uT 9) + (1 : Int32))) p9 a9 e9 n9 o9)), (a9, .inl (ca, 3, .inr (.inr (.inr (.inr (mo da)))))), (da 0, .inr (2, oD (F2115 0) (ra 0) (ka 0))), (da 1, .inr (2, oD (F2115 1) (ra 1) (ka 1))), (da 2, .inr (2, oD (F2115 2) (ra 2) (ka 2)))] := hD
          replace hK : va_K (dC, dI) classes [(ca, .object "VotedTriple$VotedModule")] s := hK
          refine W.widen (k := 0) (n := 0) (Nat.le_of_ble_eq_true rfl) (Nat.le_of_ble_eq_true rfl) ?_
          refine lv_iload_n hx hb d_T_vote_108 rfl (lv_at hl 0 rfl) ?_
          have hP9 := hP.sub (ws' := [(h0, .inr (0, oT (upc uT 9 (upc uT 9 ((uT 9) + (1 : Int32)) 9)) p9 a9 e9 n9 o9)), (a9, .inl (ca, 3, .inr (.inr (.inr (.inr (mo da)))))), (da 0, .inr (2, oD (F2115 0) (ra 0) (ka 0))), (da 1, .inr (2, oD (F2115 1) (ra 1) (ka 1))), (da 2, .inr (2, oD (F2115 2) (ra 2) (ka 2)))]) [0, 1, 2, 3, 4] rfl
          have hD9 := hD.sub (ws' := [(h0, .inr (0, oT (upc uT 9 (upc uT 9 ((uT 9) + (1 : Int32)) 9)) p9 a9 e9 n9 o9)), (a9, .inl (ca, 3, .inr (.inr (.inr (.inr (mo da)))))), (da 0, .inr (2, oD (F2115 0) (ra 0) (ka 0))), (da 1, .inr (2, oD (F2115 1) (ra 1) (ka 1))), (da 2, .inr (2, oD (F2115 2) (ra 2) (ka 2)))]) [0, 1, 2, 3, 4] (by decide) rfl
          have hK9 := hK.sub (tys' := [(ca, .object "VotedTriple$VotedModule")]) [0] rfl
          refine W.widen (k := 0) (n := 0) (Nat.le_of_ble_eq_true rfl) (Nat.le_of_ble_eq_true rfl) ?_
          exact W.iret (v := 2) hx hb hr (fun t ht hW => ⟨⟨_, (F2115, upc uT 9 ((uT 9) + (1 : Int32)) 9), rfl, ⟨⟨(Or.inr (Or.inr (Or.inr rfl))), hr114⟩, (by rw [hSq0, s_T_vote_cut14_3]; try (rw [if_neg (by decide)]); try (rw [if_neg (by decide)]); try (rw [← hr79E, bnd_eq]); try (rw [← hr81E, bnd_eq]); try (rw [if_neg hc82]); try (rw [← hr84E, bnd_eq]); try (rw [if_neg (by decide)]); try (rw [if_neg (by decide)]); try (rw [if_neg (by decide)]); try (rw [← hr114E, bnd_eq]); all_goals rfl)⟩, by rw [ht]; exact hP9, va_K.moved hW.alike hK9, hD9⟩, hS.F ht⟩) hS.2.2 d_T_vote_109
      · --  r78 = r80
        refine lv_iload_n hx hb d_T_vote_63 rfl (lv_at hl 1 rfl) ?_
        have hP9 := hP.sub (ws' := [(h0, .inr (0, oT (upc uT 9 (uT 9)) p9 a9 e9 n9 o9)), (a9, .inl (ca, 3, .inr (.inr (.inr (.inr (mo da)))))), (da 0, .inr (2, oD (F 0) (ra 0) (ka 0))), (da 1, .inr (2, oD (F 1) (ra 1) (ka 1))), (da 2, .inr (2, oD (F 2) (ra 2) (ka 2)))]) [0, 1, 2, 3, 4] rfl
        have hD9 := hD.sub (ws' := [(h0, .inr (0, oT (upc uT 9 (uT 9)) p9 a9 e9 n9 o9)), (a9, .inl (ca, 3, .inr (.inr (.inr (.inr (mo da)))))), (da 0, .inr (2, oD (F 0) (ra 0) (ka 0))), (da 1, .inr (2, oD (F 1) (ra 1) (ka 1))), (da 2, .inr (2, oD (F 2) (ra 2) (ka 2)))]) [0, 1, 2, 3, 4] (by decide) rfl
        have hK9 := hK.sub (tys' := [(ca, .object "VotedTriple$VotedModule")]) [0] rfl
        refine W.widen (k := 0) (n := 0) (Nat.le_of_ble_eq_true rfl) (Nat.le_of_ble_eq_true rfl) ?_
        exact W.iret (v := 2) hx hb hr (fun t ht hW => ⟨⟨_, (F, uT 9), rfl, ⟨⟨(Or.inr (Or.inr (Or.inr rfl))), hF⟩, (by rw [hSq0, s_T_vote_cut14_3]; try (rw [if_neg (by decide)]); try (rw [if_neg (by decide)]); try (rw [← hr79E, bnd_eq]); try (rw [← hr81E, bnd_eq]); try (rw [if_pos hc82]); all_goals rfl)⟩, by rw [ht]; exact hP9, va_K.moved hW.alike hK9, hD9⟩, hS.F ht⟩) hS.2.2 d_T_vote_64
  have cut14_2 : ∀ (F : Nat → Nat → Int32) (w1 : Int32) (ls : Array Slot) (H : Heap) (locs : List Loc), f3 F → (w1 = 0 ∨ w1 = 1 ∨ w1 = 2) → SP = s_T_vote_cut14_2 uT F w1 →  lv_has ls 3 [(0, .ref h0), (1, .int w1), (2, .int 2)] → va_P (dC, dI) classes [(h0, .inr (0, oT uT p9 a9 e9 n9 o9)), (a9, .inl (ca, 3, .inr (.inr (.inr (.inr (mo da)))))), (da 0, .inr (2, oD (F 0) (ra 0) (ka 0))), (da 1, .inr (2, oD (F 1) (ra 1) (ka 1))), (da 2, .inr (2, oD (F 2) (ra 2) (ka 2)))] H → va_D A [(h0, .inr (0, oT uT p9 a9 e9 n9 o9)), (a9, .inl (ca, 3, .inr (.inr (.inr (.inr (mo da)))))), (da 0, .inr (2, oD (F 0) (ra 0) (ka 0))), (da 1, .inr (2, oD (F 1) (ra 1) (ka 1))), (da 2, .inr (2, oD (F 2) (ra 2) (ka 2)))] → va_S A s.heap H locs → W p l e (headSpec (tbw y_T_vote b_T_vote 3 (some .int)) ({ frames := 3, cells := 0, slots := 0, locals := 65 })).room s m ([.ref h0] : List Value).toArray below meth c H locs 0 0 (MQ below (va_Qi (fun (r : Int32) (u9 : (Nat → Nat → Int32) × Int32) => match u9 with | (F2, y9) => (i012 r ∧ f3 F2) ∧ (r, F2, y9) = SP) (fun (u9 : (Nat → Nat → Int32) × Int32) t => match u9 with | (F2, y9) => va_P (dC, dI) classes [(h0, .inr (0, oT (upc uT 9 y9) p9 a9 e9 n9 o9)), (a9, .inl (ca, 3, .inr (.inr (.inr (.inr (mo da)))))), (da 0, .inr (2, oD (F2 0) (ra 0) (ka 0))), (da 1, .inr (2, oD (F2 1) (ra 1) (ka 1))), (da 2, .inr (2, oD (F2 2) (ra 2) (ka 2)))] t.heap ∧ va_K (dC, dI) classes [(ca, .object "VotedTriple$VotedModule")] t ∧ va_D A [(h0, .inr (0, oT (upc uT 9 y9) p9 a9 e9 n9 o9)), (a9, .inl (ca, 3, .inr (.inr (.inr (.inr (mo da)))))), (da 0, .inr (2, oD (F2 0) (ra 0) (ka 0))), (da 1, .inr (2, oD (F2 1) (ra 1) (ka 1))), (da 2, .inr (2, oD (F2 2) (ra 2) (ka 2)))]) A) ([.ref h0] : List Value).toArray s 0 0 A) (F0 m 14 ls []) := by
    intro F w1 ls H locs hF h19 hSq0 hl hP hD hS
    refine lv_iload_n hx hb d_T_vote_14 rfl (lv_at hl 2 rfl) ?_
    refine lv_iconst (v := 3) hx hb d_T_vote_15 (by decide) ?_
    refine lv_icmp_ge (tgt := 43) hx hb d_T_vote_16 rfl (fun hc116 => by first | exact absurd hc116 (by decide) | exact absurd (by decide) hc116) (fun hc116 => ?_)
    refine lv_aload_n hx hb d_T_vote_19 rfl (lv_at hl 0 rfl) ?_
    refine va_get (D := (dC, dI)) (ci := 0) (v := .ref a9) (C := "VotedTriple") (T := F_T) (N := 11) hx hb hw in_T hown hK hP 0 rfl rfl 1 (by decide) (hw _ k_195) (fun _ h9 => h9) rfl d_T_vote_20 ?_
    refine lv_iload_n hx hb d_T_vote_23 rfl (lv_at hl 2 rfl) ?_
    refine va_aldq hx hb hK hP 1 0 rfl rfl (by unfold vp_in; decide) d_T_vote_24 ?_
    refine W.eq (g2 := F0 m 25 ls [.ref (da 2)]) rfl ?_
    refine lv_aload_n hx hb d_T_vote_25 rfl (lv_at hl 0 rfl) ?_
    refine va_get (D := (dC, dI)) (ci := 0) (v := .ref a9) (C := "VotedTriple") (T := F_T) (N := 11) hx hb hw in_T hown hK hP 0 rfl rfl 1 (by decide) (hw _ k_195) (fun _ h9 => h9) rfl d_T_vote_26 ?_
    refine lv_iload_n hx hb d_T_vote_29 rfl (lv_at hl 2 rfl) ?_
    refine va_aldq hx hb hK hP 1 0 rfl rfl (by unfold vp_in; decide) d_T_vote_30 ?_
    refine W.eq (g2 := F0 m 31 ls [.ref (da 2), .ref (da 2)]) rfl ?_
    replace hPc := hP.sub (ws' := [(da 2, .inr (2, oD (F 2) (ra 2) (ka 2)))]) [4] rfl
    replace hKc := hK.sub (tys' := []) [] rfl
    refine vp_callSi (va_runV (C := "VotedTriple$VotedModule") (As := []) (rest := [.ref (da 2)]) ⟨hx, hb, hml, hown, hw⟩ (c_D_wishAsBallot l dC dI (da 2) (ra 2) (ka 2) (F 2)) (cwV 0 hw (gdV (k_587) (k_584) (k_585) (k_586) (k_7)) rfl rfl rfl (by decide +kernel) ⟨Nat.le_of_ble_eq_true rfl, Nat.le_of_ble_eq_true rfl⟩) ⟨fun a U g mk q => ⟨q.1, q.2.1, va_K.moved (u := U) (U := U.calling g mk a) (Vm.Alike.refl U.vm) q.2.2⟩, va_recv hK hP rfl (q0 := 4) rfl, fun U hU hW => ⟨rfl, by rw [hU]; exact hPc, va_K.moved hW.alike hKc⟩⟩ rfl rfl hl.1 rfl (lv_room (Nat.le_of_ble_eq_true rfl)) d_T_vote_31 ⟨Nat.le_of_ble_eq_true rfl, Nat.le_of_ble_eq_true rfl⟩).run (fun r117 hr118 => ?_)
    obtain ⟨hr118, hr118E⟩ := hr118
    refine va_put (D := (dC, dI)) (ci := 2) (v := .int r117) (ty := .int) (C := "VotedTriple$VotedModule") (T := F_D) (N := 19) hx hb hw in_D ft_D tyok_D nm_D hown hK hP hD hS 4 rfl rfl 18 (by decide) (hw _ k_161) (fun _ h9 => h9) rfl (by decide +kernel) rfl rfl (Nat.le_of_ble_eq_true rfl) d_T_vote_34 (fun H locs hP hD hS => ?_)
    replace hP : va_P (dC, dI) classes [(h0, .inr (0, oT uT p9 a9 e9 n9 o9)), (a9, .inl (ca, 3, .inr (.inr (.inr (.inr (mo da)))))), (da 0, .inr (2, oD (F 0) (ra 0) (ka 0))), (da 1, .inr (2, oD (F 1) (ra 1) (ka 1))), (da 2, .inr (2, [.ref (ra 2), .int (F 2 1), .int (F 2 2), .int (F 2 3), .int (F 2 4), .int (F 2 5), .int (F 2 6), .ref (ka 2), .int (F 2 8), .int (F 2 9), .int (F 2 10), .int (F 2 11), .int (F 2 12), .int (F 2 13), .int (F 2 14), .int (F 2 15), .int (F 2 16), .int (F 2 17), .int r117]))] H := hP
    replace hD : va_D A [(h0, .inr (0, oT uT p9 a9 e9 n9 o9)), (a9, .inl (ca, 3, .inr (.inr (.inr (.inr (mo da)))))), (da 0, .inr (2, oD (F 0) (ra 0) (ka 0))), (da 1, .inr (2, oD (F 1) (ra 1) (ka 1))), (da 2, .inr (2, [.ref (ra 2), .int (F 2 1), .int (F 2 2), .int (F 2 3), .int (F 2 4), .int (F 2 5), .int (F 2 6), .ref (ka 2), .int (F 2 8), .int (F 2 9), .int (F 2 10), .int (F 2 11), .int (F 2 12), .int (F 2 13), .int (F 2 14), .int (F 2 15), .int (F 2 16), .int (F 2 17), .int r117]))] := hD
    refine lv_iinc (k := 2) (v := 3) hx hb d_T_vote_37 hl rfl rfl (by decide) rfl (fun ls hl => ?_)
    replace hl : lv_has ls 3 [(2, .int 3), (0, .ref h0), (1, .int w1)] := hl
    refine lv_goto (tgt := 14) hx hb d_T_vote_40 rfl ?_
    have hSq : SP = s_T_vote_cut14_3 uT (tri (F 0) (F 1) (upc (F 2) 18 r117)) w1 := by rw [hSq0, s_T_vote_cut14_2]; try (rw [← hr118E, bnd_eq]); all_goals rfl
    replace hl := lv_sub hl (l' := [(0, .ref h0), (1, .int w1), (2, .int 3)]) [1, 2, 0] rfl
    replace hP := hP.sub (ws' := [(h0, .inr (0, oT uT p9 a9 e9 n9 o9)), (a9, .inl (ca, 3, .inr (.inr (.inr (.inr (mo da)))))), (da 0, .inr (2, oD (tri (F 0) (F 1) (upc (F 2) 18 r117) 0) (ra 0) (ka 0))), (da 1, .inr (2, oD (tri (F 0) (F 1) (upc (F 2) 18 r117) 1) (ra 1) (ka 1))), (da 2, .inr (2, oD (tri (F 0) (F 1) (upc (F 2) 18 r117) 2) (ra 2) (ka 2)))]) [0, 1, 2, 3, 4] rfl
    replace hD := hD.sub (ws' := [(h0, .inr (0, oT uT p9 a9 e9 n9 o9)), (a9, .inl (ca, 3, .inr (.inr (.inr (.inr (mo da)))))), (da 0, .inr (2, oD (tri (F 0) (F 1) (upc (F 2) 18 r117) 0) (ra 0) (ka 0))), (da 1, .inr (2, oD (tri (F 0) (F 1) (upc (F 2) 18 r117) 1) (ra 1) (ka 1))), (da 2, .inr (2, oD (tri (F 0) (F 1) (upc (F 2) 18 r117) 2) (ra 2) (ka 2)))]) [0, 1, 2, 3, 4] (by decide) rfl
    exact cut14_3 (tri (F 0) (F 1) (upc (F 2) 18 r117)) w1 _ _ _ hF h19 hSq hl hP hD hS
  have cut14_1 : ∀ (F : Nat → Nat → Int32) (w1 : Int32) (ls : Array Slot) (H : Heap) (locs : List Loc), f3 F → (w1 = 0 ∨ w1 = 1 ∨ w1 = 2) → SP = s_T_vote_cut14_1 uT F w1 →  lv_has ls 3 [(0, .ref h0), (1, .int w1), (2, .int 1)] → va_P (dC, dI) classes [(h0, .inr (0, oT uT p9 a9 e9 n9 o9)), (a9, .inl (ca, 3, .inr (.inr (.inr (.inr (mo da)))))), (da 0, .inr (2, oD (F 0) (ra 0) (ka 0))), (da 1, .inr (2, oD (F 1) (ra 1) (ka 1))), (da 2, .inr (2, oD (F 2) (ra 2) (ka 2)))] H → va_D A [(h0, .inr (0, oT uT p9 a9 e9 n9 o9)), (a9, .inl (ca, 3, .inr (.inr (.inr (.inr (mo da)))))), (da 0, .inr (2, oD (F 0) (ra 0) (ka 0))), (da 1, .inr (2, oD (F 1) (ra 1) (ka 1))), (da 2, .inr (2, oD (F 2) (ra 2) (ka 2)))] → va_S A s.heap H locs → W p l e (headSpec (tbw y_T_vote b_T_vote 3 (some .int)) ({ frames := 3, cells := 0, slots := 0, locals := 65 })).room s m ([.ref h0] : List Value).toArray below meth c H locs 0 0 (MQ below (va_Qi (fun (r : Int32) (u9 : (Nat → Nat → Int32) × Int32) => match u9 with | (F2, y9) => (i012 r ∧ f3 F2) ∧ (r, F2, y9) = SP) (fun (u9 : (Nat → Nat → Int32) × Int32) t => match u9 with | (F2, y9) => va_P (dC, dI) classes [(h0, .inr (0, oT (upc uT 9 y9) p9 a9 e9 n9 o9)), (a9, .inl (ca, 3, .inr (.inr (.inr (.inr (mo da)))))), (da 0, .inr (2, oD (F2 0) (ra 0) (ka 0))), (da 1, .inr (2, oD (F2 1) (ra 1) (ka 1))), (da 2, .inr (2, oD (F2 2) (ra 2) (ka 2)))] t.heap ∧ va_K (dC, dI) classes [(ca, .object "VotedTriple$VotedModule")] t ∧ va_D A [(h0, .inr (0, oT (upc uT 9 y9) p9 a9 e9 n9 o9)), (a9, .inl (ca, 3, .inr (.inr (.inr (.inr (mo da)))))), (da 0, .inr (2, oD (F2 0) (ra 0) (ka 0))), (da 1, .inr (2, oD (F2 1) (ra 1) (ka 1))), (da 2, .inr (2, oD (F2 2) (ra 2) (ka 2)))]) A) ([.ref h0] : List Value).toArray s 0 0 A) (F0 m 14 ls []) := by
    intro F w1 ls H locs hF h19 hSq0 hl hP hD hS
    clear cut14_3
    refine lv_iload_n hx hb d_T_vote_14 rfl (lv_at hl 2 rfl) ?_
    refine lv_iconst (v := 3) hx hb d_T_vote_15 (by decide) ?_
    refine lv_icmp_ge (tgt := 43) hx hb d_T_vote_16 rfl (fun hc119 => by first | exact absurd hc119 (by decide) | exact absurd (by decide) hc119) (fun hc119 => ?_)
    refine lv_aload_n hx hb d_T_vote_19 rfl (lv_at hl 0 rfl) ?_
    refine va_get (D := (dC, dI)) (ci := 0) (v := .ref a9) (C := "VotedTriple") (T := F_T) (N := 11) hx hb hw in_T hown hK hP 0 rfl rfl 1 (by decide) (hw _ k_195) (fun _ h9 => h9) rfl d_T_vote_20 ?_
    refine lv_iload_n hx hb d_T_vote_23 rfl (lv_at hl 2 rfl) ?_
    refine va_aldq hx hb hK hP 1 0 rfl rfl (by unfold vp_in; decide) d_T_vote_24 ?_
    refine W.eq (g2 := F0 m 25 ls [.ref (da 1)]) rfl ?_
    refine lv_aload_n hx hb d_T_vote_25 rfl (lv_at hl 0 rfl) ?_
    refine va_get (D := (dC, dI)) (ci := 0) (v := .ref a9) (C := "VotedTriple") (T := F_T) (N := 11) hx hb hw in_T hown hK hP 0 rfl rfl 1 (by decide) (hw _ k_195) (fun _ h9 => h9) rfl d_T_vote_26 ?_
    refine lv_iload_n hx hb d_T_vote_29 rfl (lv_at hl 2 rfl) ?_
    refine va_aldq hx hb hK hP 1 0 rfl rfl (by unfold vp_in; decide) d_T_vote_30 ?_
    refine W.eq (g2 := F0 m 31 ls [.ref (da 1), .ref (da 1)]) rfl ?_
    replace hPc := hP.sub (ws' := [(da 1, .inr (2, oD (F 1) (ra 1) (ka 1)))]) [3] rfl
    replace hKc := hK.sub (tys' := []) [] rfl
    refine vp_callSi (va_runV (C := "VotedTriple$VotedModule") (As := []) (rest := [.ref (da 1)]) ⟨hx, hb, hml, hown, hw⟩ (c_D_wishAsBallot l dC dI (da 1) (ra 1) (ka 1) (F 1)) (cwV 0 hw (gdV (k_587) (k_584) (k_585) (k_586) (k_7)) rfl rfl rfl (by decide +kernel) ⟨Nat.le_of_ble_eq_true rfl, Nat.le_of_ble_eq_true rfl⟩) ⟨fun a U g mk q => ⟨q.1, q.2.1, va_K.moved (u := U) (U := U.calling g mk a) (Vm.Alike.refl U.vm) q.2.2⟩, va_recv hK hP rfl (q0 := 3) rfl, fun U hU hW => ⟨rfl, by rw [hU]; exact hPc, va_K.moved hW.alike hKc⟩⟩ rfl rfl hl.1 rfl (lv_room (Nat.le_of_ble_eq_true rfl)) d_T_vote_31 ⟨Nat.le_of_ble_eq_true rfl, Nat.le_of_ble_eq_true rfl⟩).run (fun r120 hr121 => ?_)
    obtain ⟨hr121, hr121E⟩ := hr121
    refine va_put (D := (dC, dI)) (ci := 2) (v := .int r120) (ty := .int) (C := "VotedTriple$VotedModule") (T := F_D) (N := 19) hx hb hw in_D ft_D tyok_D nm_D hown hK hP hD hS 3 rfl rfl 18 (by decide) (hw _ k_161) (fun _ h9 => h9) rfl (by decide +kernel) rfl rfl (Nat.le_of_ble_eq_true rfl) d_T_vote_34 (fun H locs hP hD hS => ?_)
    replace hP : va_P (dC, dI) classes [(h0, .inr (0, oT uT p9 a9 e9 n9 o9)), (a9, .inl (ca, 3, .inr (.inr (.inr (.inr (mo da)))))), (da 0, .inr (2, oD (F 0) (ra 0) (ka 0))), (da 1, .inr (2, [.ref (ra 1), .int (F 1 1), .int (F 1 2), .int (F 1 3), .int (F 1 4), .int (F 1 5), .int (F 1 6), .ref (ka 1), .int (F 1 8), .int (F 1 9), .int (F 1 10), .int (F 1 11), .int (F 1 12), .int (F 1 13), .int (F 1 14), .int (F 1 15), .int (F 1 16), .int (F 1 17), .int r120])), (da 2, .inr (2, oD (F 2) (ra 2) (ka 2)))] H := hP
    replace hD : va_D A [(h0, .inr (0, oT uT p9 a9 e9 n9 o9)), (a9, .inl (ca, 3, .inr (.inr (.inr (.inr (mo da)))))), (da 0, .inr (2, oD (F 0) (ra 0) (ka 0))), (da 1, .inr (2, [.ref (ra 1), .int (F 1 1), .int (F 1 2), .int (F 1 3), .int (F 1 4), .int (F 1 5), .int (F 1 6), .ref (ka 1), .int (F 1 8), .int (F 1 9), .int (F 1 10), .int (F 1 11), .int (F 1 12), .int (F 1 13), .int (F 1 14), .int (F 1 15), .int (F 1 16), .int (F 1 17), .int r120])), (da 2, .inr (2, oD (F 2) (ra 2) (ka 2)))] := hD
    refine lv_iinc (k := 2) (v := 2) hx hb d_T_vote_37 hl rfl rfl (by decide) rfl (fun ls hl => ?_)
    replace hl : lv_has ls 3 [(2, .int 2), (0, .ref h0), (1, .int w1)] := hl
    refine lv_goto (tgt := 14) hx hb d_T_vote_40 rfl ?_
    have hSq : SP = s_T_vote_cut14_2 uT (tri (F 0) (upc (F 1) 18 r120) (F 2)) w1 := by rw [hSq0, s_T_vote_cut14_1]; try (rw [← hr121E, bnd_eq]); all_goals rfl
    replace hl := lv_sub hl (l' := [(0, .ref h0), (1, .int w1), (2, .int 2)]) [1, 2, 0] rfl
    replace hP := hP.sub (ws' := [(h0, .inr (0, oT uT p9 a9 e9 n9 o9)), (a9, .inl (ca, 3, .inr (.inr (.inr (.inr (mo da)))))), (da 0, .inr (2, oD (tri (F 0) (upc (F 1) 18 r120) (F 2) 0) (ra 0) (ka 0))), (da 1, .inr (2, oD (tri (F 0) (upc (F 1) 18 r120) (F 2) 1) (ra 1) (ka 1))), (da 2, .inr (2, oD (tri (F 0) (upc (F 1) 18 r120) (F 2) 2) (ra 2) (ka 2)))]) [0, 1, 2, 3, 4] rfl
    replace hD := hD.sub (ws' := [(h0, .inr (0, oT uT p9 a9 e9 n9 o9)), (a9, .inl (ca, 3, .inr (.inr (.inr (.inr (mo da)))))), (da 0, .inr (2, oD (tri (F 0) (upc (F 1) 18 r120) (F 2) 0) (ra 0) (ka 0))), (da 1, .inr (2, oD (tri (F 0) (upc (F 1) 18 r120) (F 2) 1) (ra 1) (ka 1))), (da 2, .inr (2, oD (tri (F 0) (upc (F 1) 18 r120) (F 2) 2) (ra 2) (ka 2)))]) [0, 1, 2, 3, 4] (by decide) rfl
    exact cut14_2 (tri (F 0) (upc (F 1) 18 r120) (F 2)) w1 _ _ _ hF h19 hSq hl hP hD hS
  have cut14_0 : ∀ (F : Nat → Nat → Int32) (w1 : Int32) (ls : Array Slot) (H : Heap) (locs : List Loc), f3 F → (w1 = 0 ∨ w1 = 1 ∨ w1 = 2) → SP = s_T_vote_cut14_0 uT F w1 →  lv_has ls 3 [(0, .ref h0), (1, .int w1), (2, .int 0)] → va_P (dC, dI) classes [(h0, .inr (0, oT uT p9 a9 e9 n9 o9)), (a9, .inl (ca, 3, .inr (.inr (.inr (.inr (mo da)))))), (da 0, .inr (2, oD (F 0) (ra 0) (ka 0))), (da 1, .inr (2, oD (F 1) (ra 1) (ka 1))), (da 2, .inr (2, oD (F 2) (ra 2) (ka 2)))] H → va_D A [(h0, .inr (0, oT uT p9 a9 e9 n9 o9)), (a9, .inl (ca, 3, .inr (.inr (.inr (.inr (mo da)))))), (da 0, .inr (2, oD (F 0) (ra 0) (ka 0))), (da 1, .inr (2, oD (F 1) (ra 1) (ka 1))), (da 2, .inr (2, oD (F 2) (ra 2) (ka 2)))] → va_S A s.heap H locs → W p l e (headSpec (tbw y_T_vote b_T_vote 3 (some .int)) ({ frames := 3, cells := 0, slots := 0, locals := 65 })).room s m ([.ref h0] : List Value).toArray below meth c H locs 0 0 (MQ below (va_Qi (fun (r : Int32) (u9 : (Nat → Nat → Int32) × Int32) => match u9 with | (F2, y9) => (i012 r ∧ f3 F2) ∧ (r, F2, y9) = SP) (fun (u9 : (Nat → Nat → Int32) × Int32) t => match u9 with | (F2, y9) => va_P (dC, dI) classes [(h0, .inr (0, oT (upc uT 9 y9) p9 a9 e9 n9 o9)), (a9, .inl (ca, 3, .inr (.inr (.inr (.inr (mo da)))))), (da 0, .inr (2, oD (F2 0) (ra 0) (ka 0))), (da 1, .inr (2, oD (F2 1) (ra 1) (ka 1))), (da 2, .inr (2, oD (F2 2) (ra 2) (ka 2)))] t.heap ∧ va_K (dC, dI) classes [(ca, .object "VotedTriple$VotedModule")] t ∧ va_D A [(h0, .inr (0, oT (upc uT 9 y9) p9 a9 e9 n9 o9)), (a9, .inl (ca, 3, .inr (.inr (.inr (.inr (mo da)))))), (da 0, .inr (2, oD (F2 0) (ra 0) (ka 0))), (da 1, .inr (2, oD (F2 1) (ra 1) (ka 1))), (da 2, .inr (2, oD (F2 2) (ra 2) (ka 2)))]) A) ([.ref h0] : List Value).toArray s 0 0 A) (F0 m 14 ls []) := by
    intro F w1 ls H locs hF h19 hSq0 hl hP hD hS
    clear cut14_3 cut14_2
    refine lv_iload_n hx hb d_T_vote_14 rfl (lv_at hl 2 rfl) ?_
    refine lv_iconst (v := 3) hx hb d_T_vote_15 (by decide) ?_
    refine lv_icmp_ge (tgt := 43) hx hb d_T_vote_16 rfl (fun hc122 => by first | exact absurd hc122 (by decide) | exact absurd (by decide) hc122) (fun hc122 => ?_)
    refine lv_aload_n hx hb d_T_vote_19 rfl (lv_at hl 0 rfl) ?_
    refine va_get (D := (dC, dI)) (ci := 0) (v := .ref a9) (C := "VotedTriple") (T := F_T) (N := 11) hx hb hw in_T hown hK hP 0 rfl rfl 1 (by decide) (hw _ k_195) (fun _ h9 => h9) rfl d_T_vote_20 ?_
    refine lv_iload_n hx hb d_T_vote_23 rfl (lv_at hl 2 rfl) ?_
    refine va_aldq hx hb hK hP 1 0 rfl rfl (by unfold vp_in; decide) d_T_vote_24 ?_
    refine W.eq (g2 := F0 m 25 ls [.ref (da 0)]) rfl ?_
    refine lv_aload_n hx hb d_T_vote_25 rfl (lv_at hl 0 rfl) ?_
    refine va_get (D := (dC, dI)) (ci := 0) (v := .ref a9) (C := "VotedTriple") (T := F_T) (N := 11) hx hb hw in_T hown hK hP 0 rfl rfl 1 (by decide) (hw _ k_195) (fun _ h9 => h9) rfl d_T_vote_26 ?_
    refine lv_iload_n hx hb d_T_vote_29 rfl (lv_at hl 2 rfl) ?_
    refine va_aldq hx hb hK hP 1 0 rfl rfl (by unfold vp_in; decide) d_T_vote_30 ?_
    refine W.eq (g2 := F0 m 31 ls [.ref (da 0), .ref (da 0)]) rfl ?_
    replace hPc := hP.sub (ws' := [(da 0, .inr (2, oD (F 0) (ra 0) (ka 0)))]) [2] rfl
    replace hKc := hK.sub (tys' := []) [] rfl
    refine vp_callSi (va_runV (C := "VotedTriple$VotedModule") (As := []) (rest := [.ref (da 0)]) ⟨hx, hb, hml, hown, hw⟩ (c_D_wishAsBallot l dC dI (da 0) (ra 0) (ka 0) (F 0)) (cwV 0 hw (gdV (k_587) (k_584) (k_585) (k_586) (k_7)) rfl rfl rfl (by decide +kernel) ⟨Nat.le_of_ble_eq_true rfl, Nat.le_of_ble_eq_true rfl⟩) ⟨fun a U g mk q => ⟨q.1, q.2.1, va_K.moved (u := U) (U := U.calling g mk a) (Vm.Alike.refl U.vm) q.2.2⟩, va_recv hK hP rfl (q0 := 2) rfl, fun U hU hW => ⟨rfl, by rw [hU]; exact hPc, va_K.moved hW.alike hKc⟩⟩ rfl rfl hl.1 rfl (lv_room (Nat.le_of_ble_eq_true rfl)) d_T_vote_31 ⟨Nat.le_of_ble_eq_true rfl, Nat.le_of_ble_eq_true rfl⟩).run (fun r123 hr124 => ?_)
    obtain ⟨hr124, hr124E⟩ := hr124
    refine va_put (D := (dC, dI)) (ci := 2) (v := .int r123) (ty := .int) (C := "VotedTriple$VotedModule") (T := F_D) (N := 19) hx hb hw in_D ft_D tyok_D nm_D hown hK hP hD hS 2 rfl rfl 18 (by decide) (hw _ k_161) (fun _ h9 => h9) rfl (by decide +kernel) rfl rfl (Nat.le_of_ble_eq_true rfl) d_T_vote_34 (fun H locs hP hD hS => ?_)
    replace hP : va_P (dC, dI) classes [(h0, .inr (0, oT uT p9 a9 e9 n9 o9)), (a9, .inl (ca, 3, .inr (.inr (.inr (.inr (mo da)))))), (da 0, .inr (2, [.ref (ra 0), .int (F 0 1), .int (F 0 2), .int (F 0 3), .int (F 0 4), .int (F 0 5), .int (F 0 6), .ref (ka 0), .int (F 0 8), .int (F 0 9), .int (F 0 10), .int (F 0 11), .int (F 0 12), .int (F 0 13), .int (F 0 14), .int (F 0 15), .int (F 0 16), .int (F 0 17), .int r123])), (da 1, .inr (2, oD (F 1) (ra 1) (ka 1))), (da 2, .inr (2, oD (F 2) (ra 2) (ka 2)))] H := hP
    replace hD : va_D A [(h0, .inr (0, oT uT p9 a9 e9 n9 o9)), (a9, .inl (ca, 3, .inr (.inr (.inr (.inr (mo da)))))), (da 0, .inr (2, [.ref (ra 0), .int (F 0 1), .int (F 0 2), .int (F 0 3), .int (F 0 4), .int (F 0 5), .int (F 0 6), .ref (ka 0), .int (F 0 8), .int (F 0 9), .int (F 0 10), .int (F 0 11), .int (F 0 12), .int (F 0 13), .int (F 0 14), .int (F 0 15), .int (F 0 16), .int (F 0 17), .int r123])), (da 1, .inr (2, oD (F 1) (ra 1) (ka 1))), (da 2, .inr (2, oD (F 2) (ra 2) (ka 2)))] := hD
    refine lv_iinc (k := 2) (v := 1) hx hb d_T_vote_37 hl rfl rfl (by decide) rfl (fun ls hl => ?_)
    replace hl : lv_has ls 3 [(2, .int 1), (0, .ref h0), (1, .int w1)] := hl
    refine lv_goto (tgt := 14) hx hb d_T_vote_40 rfl ?_
    have hSq : SP = s_T_vote_cut14_1 uT (tri (upc (F 0) 18 r123) (F 1) (F 2)) w1 := by rw [hSq0, s_T_vote_cut14_0]; try (rw [← hr124E, bnd_eq]); all_goals rfl
    replace hl := lv_sub hl (l' := [(0, .ref h0), (1, .int w1), (2, .int 1)]) [1, 2, 0] rfl
    replace hP := hP.sub (ws' := [(h0, .inr (0, oT uT p9 a9 e9 n9 o9)), (a9, .inl (ca, 3, .inr (.inr (.inr (.inr (mo da)))))), (da 0, .inr (2, oD (tri (upc (F 0) 18 r123) (F 1) (F 2) 0) (ra 0) (ka 0))), (da 1, .inr (2, oD (tri (upc (F 0) 18 r123) (F 1) (F 2) 1) (ra 1) (ka 1))), (da 2, .inr (2, oD (tri (upc (F 0) 18 r123) (F 1) (F 2) 2) (ra 2) (ka 2)))]) [0, 1, 2, 3, 4] rfl
    replace hD := hD.sub (ws' := [(h0, .inr (0, oT uT p9 a9 e9 n9 o9)), (a9, .inl (ca, 3, .inr (.inr (.inr (.inr (mo da)))))), (da 0, .inr (2, oD (tri (upc (F 0) 18 r123) (F 1) (F 2) 0) (ra 0) (ka 0))), (da 1, .inr (2, oD (tri (upc (F 0) 18 r123) (F 1) (F 2) 1) (ra 1) (ka 1))), (da 2, .inr (2, oD (tri (upc (F 0) 18 r123) (F 1) (F 2) 2) (ra 2) (ka 2)))]) [0, 1, 2, 3, 4] (by decide) rfl
    exact cut14_1 (tri (upc (F 0) 18 r123) (F 1) (F 2)) w1 _ _ _ hF h19 hSq hl hP hD hS
  clear cut14_3 cut14_2 cut14_1
  refine lv_aload_n hx hb d_T_vote_0 rfl (lv_at hl 0 rfl) ?_
  replace hPc := hP.sub (ws' := [(h0, .inr (0, oT uT p9 a9 e9 n9 o9)), (a9, .inl (ca, 3, .inr (.inr (.inr (.inr (mo da)))))), (da 0, .inr (2, oD (F 0) (ra 0) (ka 0))), (da 1, .inr (2, oD (F 1) (ra 1) (ka 1))), (da 2, .inr (2, oD (F 2) (ra 2) (ka 2)))]) [0, 1, 2, 3, 4] rfl
  replace hKc := hK.sub (tys' := [(ca, .object "VotedTriple$VotedModule")]) [0] rfl
  refine vp_callSi (va_runV (C := "VotedTriple") (As := []) (rest := []) ⟨hx, hb, hml, hown, hw⟩ (c_T_lowestTrusted l dC dI h0 p9 a9 e9 n9 o9 ca da ra ka uT F) (cwV 0 hw (gdV (k_579) (k_576) (k_578) (ks_8) (k_1)) rfl rfl rfl (by decide +kernel) ⟨Nat.le_of_ble_eq_true rfl, Nat.le_of_ble_eq_true rfl⟩) ⟨fun a U g mk q => ⟨q.1, q.2.1, va_K.moved (u := U) (U := U.calling g mk a) (Vm.Alike.refl U.vm) q.2.2⟩, va_recv hK hP rfl (q0 := 0) rfl, fun U hU hW => ⟨rfl, by rw [hU]; exact hPc, va_K.moved hW.alike hKc⟩⟩ rfl rfl hl.1 rfl (lv_room (Nat.le_of_ble_eq_true rfl)) d_T_vote_1 ⟨Nat.le_of_ble_eq_true rfl, Nat.le_of_ble_eq_true rfl⟩).run (fun r125 hr126 => ?_)
  obtain ⟨hr126, hr126E⟩ := hr126
  rcases hr126 with rfl | ⟨rfl, hlo127⟩ | ⟨rfl, hlo127⟩ | ⟨rfl, hlo127⟩
  · --  (-1)
    refine lv_istore_n hx hb d_T_vote_4 rfl hl (by decide) rfl (fun ls hl => ?_)
    replace hl : lv_has ls 3 [(1, .int (-1)), (0, .ref h0)] := hl
    refine lv_iload_n hx hb d_T_vote_5 rfl (lv_at hl 0 rfl) ?_
    refine lv_iconst (v := (-1)) hx hb d_T_vote_6 (by decide) ?_
    refine lv_icmp_ne (tgt := 12) hx hb d_T_vote_7 rfl (fun hc128 => by first | exact absurd hc128 (fun hh => hh rfl) | exact absurd (fun hh => hh rfl) hc128) (fun hc128 => ?_)
    refine lv_iconst (v := (-1)) hx hb d_T_vote_10 (by decide) ?_
    have hP9 := hP.sub (ws' := [(h0, .inr (0, oT (upc uT 9 (uT 9)) p9 a9 e9 n9 o9)), (a9, .inl (ca, 3, .inr (.inr (.inr (.inr (mo da)))))), (da 0, .inr (2, oD (F 0) (ra 0) (ka 0))), (da 1, .inr (2, oD (F 1) (ra 1) (ka 1))), (da 2, .inr (2, oD (F 2) (ra 2) (ka 2)))]) [0, 1, 2, 3, 4] rfl
    have hD9 := hD.sub (ws' := [(h0, .inr (0, oT (upc uT 9 (uT 9)) p9 a9 e9 n9 o9)), (a9, .inl (ca, 3, .inr (.inr (.inr (.inr (mo da)))))), (da 0, .inr (2, oD (F 0) (ra 0) (ka 0))), (da 1, .inr (2, oD (F 1) (ra 1) (ka 1))), (da 2, .inr (2, oD (F 2) (ra 2) (ka 2)))]) [0, 1, 2, 3, 4] (by decide) rfl
    have hK9 := hK.sub (tys' := [(ca, .object "VotedTriple$VotedModule")]) [0] rfl
    refine W.widen (k := 0) (n := 0) (Nat.le_of_ble_eq_true rfl) (Nat.le_of_ble_eq_true rfl) ?_
    exact W.iret (v := (-1)) hx hb hr (fun t ht hW => ⟨⟨_, (F, uT 9), rfl, ⟨⟨(Or.inl rfl), hF⟩, (by rw [← hSP, s_T_vote]; try (rw [← hr126E, bnd_eq]); try (rw [if_pos rfl]); all_goals rfl)⟩, by rw [ht]; exact hP9, va_K.moved hW.alike hK9, hD9⟩, hS.F ht⟩) hS.2.2 d_T_vote_11
  · --  0
    refine lv_istore_n hx hb d_T_vote_4 rfl hl (by decide) rfl (fun ls hl => ?_)
    replace hl : lv_has ls 3 [(1, .int 0), (0, .ref h0)] := hl
    refine lv_iload_n hx hb d_T_vote_5 rfl (lv_at hl 0 rfl) ?_
    refine lv_iconst (v := (-1)) hx hb d_T_vote_6 (by decide) ?_
    refine lv_icmp_ne (tgt := 12) hx hb d_T_vote_7 rfl (fun hc129 => ?_) (fun hc129 => by first | exact absurd (by decide) hc129 | exact absurd hc129 (by decide))
    refine lv_iconst (v := 0) hx hb d_T_vote_12 (by decide) ?_
    refine lv_istore_n hx hb d_T_vote_13 rfl hl (by decide) rfl (fun ls hl => ?_)
    replace hl : lv_has ls 3 [(2, .int 0), (1, .int 0), (0, .ref h0)] := hl
    have hSq : SP = s_T_vote_cut14_0 uT F 0 := by rw [← hSP, s_T_vote]; try (rw [← hr126E, bnd_eq]); try (rw [if_neg (by decide)]); try (rw [if_pos rfl]); all_goals rfl
    replace hl := lv_sub hl (l' := [(0, .ref h0), (1, .int 0), (2, .int 0)]) [2, 1, 0] rfl
    replace hP := hP.sub (ws' := [(h0, .inr (0, oT uT p9 a9 e9 n9 o9)), (a9, .inl (ca, 3, .inr (.inr (.inr (.inr (mo da)))))), (da 0, .inr (2, oD (F 0) (ra 0) (ka 0))), (da 1, .inr (2, oD (F 1) (ra 1) (ka 1))), (da 2, .inr (2, oD (F 2) (ra 2) (ka 2)))]) [0, 1, 2, 3, 4] rfl
    replace hD := hD.sub (ws' := [(h0, .inr (0, oT uT p9 a9 e9 n9 o9)), (a9, .inl (ca, 3, .inr (.inr (.inr (.inr (mo da)))))), (da 0, .inr (2, oD (F 0) (ra 0) (ka 0))), (da 1, .inr (2, oD (F 1) (ra 1) (ka 1))), (da 2, .inr (2, oD (F 2) (ra 2) (ka 2)))]) [0, 1, 2, 3, 4] (by decide) rfl
    exact cut14_0 F 0 _ _ _ hF (Or.inl rfl) hSq hl hP hD hS
  · --  1
    refine lv_istore_n hx hb d_T_vote_4 rfl hl (by decide) rfl (fun ls hl => ?_)
    replace hl : lv_has ls 3 [(1, .int 1), (0, .ref h0)] := hl
    refine lv_iload_n hx hb d_T_vote_5 rfl (lv_at hl 0 rfl) ?_
    refine lv_iconst (v := (-1)) hx hb d_T_vote_6 (by decide) ?_
    refine lv_icmp_ne (tgt := 12) hx hb d_T_vote_7 rfl (fun hc130 => ?_) (fun hc130 => by first | exact absurd (by decide) hc130 | exact absurd hc130 (by decide))
    refine lv_iconst (v := 0) hx hb d_T_vote_12 (by decide) ?_
    refine lv_istore_n hx hb d_T_vote_13 rfl hl (by decide) rfl (fun ls hl => ?_)
    replace hl : lv_has ls 3 [(2, .int 0), (1, .int 1), (0, .ref h0)] := hl
    have hSq : SP = s_T_vote_cut14_0 uT F 1 := by rw [← hSP, s_T_vote]; try (rw [← hr126E, bnd_eq]); try (rw [if_neg (by decide)]); try (rw [if_neg (by decide)]); try (rw [if_pos rfl]); all_goals rfl
    replace hl := lv_sub hl (l' := [(0, .ref h0), (1, .int 1), (2, .int 0)]) [2, 1, 0] rfl
    replace hP := hP.sub (ws' := [(h0, .inr (0, oT uT p9 a9 e9 n9 o9)), (a9, .inl (ca, 3, .inr (.inr (.inr (.inr (mo da)))))), (da 0, .inr (2, oD (F 0) (ra 0) (ka 0))), (da 1, .inr (2, oD (F 1) (ra 1) (ka 1))), (da 2, .inr (2, oD (F 2) (ra 2) (ka 2)))]) [0, 1, 2, 3, 4] rfl
    replace hD := hD.sub (ws' := [(h0, .inr (0, oT uT p9 a9 e9 n9 o9)), (a9, .inl (ca, 3, .inr (.inr (.inr (.inr (mo da)))))), (da 0, .inr (2, oD (F 0) (ra 0) (ka 0))), (da 1, .inr (2, oD (F 1) (ra 1) (ka 1))), (da 2, .inr (2, oD (F 2) (ra 2) (ka 2)))]) [0, 1, 2, 3, 4] (by decide) rfl
    exact cut14_0 F 1 _ _ _ hF (Or.inr (Or.inl rfl)) hSq hl hP hD hS
  · --  2
    refine lv_istore_n hx hb d_T_vote_4 rfl hl (by decide) rfl (fun ls hl => ?_)
    replace hl : lv_has ls 3 [(1, .int 2), (0, .ref h0)] := hl
    refine lv_iload_n hx hb d_T_vote_5 rfl (lv_at hl 0 rfl) ?_
    refine lv_iconst (v := (-1)) hx hb d_T_vote_6 (by decide) ?_
    refine lv_icmp_ne (tgt := 12) hx hb d_T_vote_7 rfl (fun hc131 => ?_) (fun hc131 => by first | exact absurd (by decide) hc131 | exact absurd hc131 (by decide))
    refine lv_iconst (v := 0) hx hb d_T_vote_12 (by decide) ?_
    refine lv_istore_n hx hb d_T_vote_13 rfl hl (by decide) rfl (fun ls hl => ?_)
    replace hl : lv_has ls 3 [(2, .int 0), (1, .int 2), (0, .ref h0)] := hl
    have hSq : SP = s_T_vote_cut14_0 uT F 2 := by rw [← hSP, s_T_vote]; try (rw [← hr126E, bnd_eq]); try (rw [if_neg (by decide)]); try (rw [if_neg (by decide)]); try (rw [if_neg (by decide)]); all_goals rfl
    replace hl := lv_sub hl (l' := [(0, .ref h0), (1, .int 2), (2, .int 0)]) [2, 1, 0] rfl
    replace hP := hP.sub (ws' := [(h0, .inr (0, oT uT p9 a9 e9 n9 o9)), (a9, .inl (ca, 3, .inr (.inr (.inr (.inr (mo da)))))), (da 0, .inr (2, oD (F 0) (ra 0) (ka 0))), (da 1, .inr (2, oD (F 1) (ra 1) (ka 1))), (da 2, .inr (2, oD (F 2) (ra 2) (ka 2)))]) [0, 1, 2, 3, 4] rfl
    replace hD := hD.sub (ws' := [(h0, .inr (0, oT uT p9 a9 e9 n9 o9)), (a9, .inl (ca, 3, .inr (.inr (.inr (.inr (mo da)))))), (da 0, .inr (2, oD (F 0) (ra 0) (ka 0))), (da 1, .inr (2, oD (F 1) (ra 1) (ka 1))), (da 2, .inr (2, oD (F 2) (ra 2) (ka 2)))]) [0, 1, 2, 3, 4] (by decide) rfl
    exact cut14_0 F 2 _ _ _ hF (Or.inr (Or.inr rfl)) hSq hl hP hD hS

set_option maxHeartbeats 4000000 in
set_option maxRecDepth 100000 in
theorem c_T_takeWord (l : Launch) (dC : Nat → ClassId) (dI : Nat → Nat → Nat) (h0 : Nat) (p9 : Nat) (a9 : Nat) (e9 : Nat) (n9 : Nat) (o9 : Nat) (nw9 : Nat) (cN : ClassId) (uT : Nat → Int32) (kN : Nat) (wN : Nat → Int32) (hkN : kN ≤ 64) (hwN : wdI 64 wN) (sz : Nat) : Met l y_T_takeWord (tbw y_T_takeWord b_T_takeWord 2 (some .int)) ({ frames := 1, cells := 0, slots := 0, locals := 21 }) (va_Pc [.ref h0] (fun U => U.heap.size = sz ∧ va_P (dC, dI) classes [(h0, .inr (0, oT uT p9 a9 e9 n9 o9)), (n9, .inr (4, [.ref nw9, .int (nI kN)])), (nw9, .inl (cN, 64, .inl wN))] U.heap ∧ va_K (dC, dI) classes [(cN, .int)] U ∧ va_D (fun _ => True) [(h0, .inr (0, oT uT p9 a9 e9 n9 o9)), (n9, .inr (4, [.ref nw9, .int (nI kN)])), (nw9, .inl (cN, 64, .inl wN))])) (va_Qi (fun (r : Int32) (u9 : Int32) => match u9 with | y10 => (is16 r) ∧ (r, y10) = s_T_takeWord uT kN wN) (fun (u9 : Int32) t => match u9 with | y10 => va_P (dC, dI) classes [(h0, .inr (0, oT (upc uT 10 y10) p9 a9 e9 n9 o9)), (n9, .inr (4, [.ref nw9, .int (nI kN)])), (nw9, .inl (cN, 64, .inl wN))] t.heap ∧ va_K (dC, dI) classes [(cN, .int)] t ∧ va_D (va_A [(h0, .inr (0, oT uT p9 a9 e9 n9 o9)), (n9, .inr (4, [.ref nw9, .int (nI kN)])), (nw9, .inl (cN, 64, .inl wN))] sz) [(h0, .inr (0, oT (upc uT 10 y10) p9 a9 e9 n9 o9)), (n9, .inr (4, [.ref nw9, .int (nI kN)])), (nw9, .inl (cN, 64, .inl wN))]) (va_A [(h0, .inr (0, oT uT p9 a9 e9 n9 o9)), (n9, .inr (4, [.ref nw9, .int (nI kN)])), (nw9, .inl (cN, 64, .inl wN))] sz)) 0 0 (va_A [(h0, .inr (0, oT uT p9 a9 e9 n9 o9)), (n9, .inr (4, [.ref nw9, .int (nI kN)])), (nw9, .inl (cN, 64, .inl wN))] sz) := by
  refine Met.ofW (cc := b_T_takeWord) (maxL := 2) (ret := (some .int)) (by decide) rfl ?_
  intro p e s m args below meth c s₁ B hml hv
  obtain ⟨rfl, hsz, hP, hK, hD0⟩ := hv
  have hx := B.exec
  have hb := B.bytes
  have hr := B.returns
  have hts := atoms_spec (ws := (tbw y_T_takeWord b_T_takeWord 2 (some .int))) B.pre
  have hw : ∀ z9 ∈ tb, z9.before ([.ref h0] : List Value).toArray s = true := fun z9 h => hts z9 (List.mem_cons_of_mem _ h)
  have hown : s.vm.findClass "VotedTriple" = some m.cls := findClass_of_methodNamed B.named
  have hlocks := B.notSynchronized
  subst hsz
  replace hD := hD0.self (sz := s.heap.size)
  generalize hAe : va_A [(h0, .inr (0, oT uT p9 a9 e9 n9 o9)), (n9, .inr (4, [.ref nw9, .int (nI kN)])), (nw9, .inl (cN, 64, .inl wN))] s.heap.size = A at hD ⊢
  have hA : ∀ q : Nat, s.heap.size ≤ q → A q := fun q h => by rw [← hAe]; exact Or.inr h
  have hS : va_S A s.heap s.heap [] := va_S.rf
  replace hl := lv_entry ([.ref h0]) (n := 2) (Nat.le_of_ble_eq_true rfl)
  rw [lg_entry_eq]
  generalize (lg_sl ([.ref h0]) ++ List.replicate (2 - (lg_sl ([.ref h0])).length) Slot.unset).toArray = ls at hl ⊢
  replace hl : lv_has ls 2 [(0, .ref h0)] := hl
  generalize hSP : s_T_takeWord uT kN wN = SP
  refine lv_aload_n hx hb d_T_takeWord_0 rfl (lv_at hl 0 rfl) ?_
  refine va_get (D := (dC, dI)) (ci := 0) (v := .ref n9) (C := "VotedTriple") (T := F_T) (N := 11) hx hb hw in_T hown hK hP 0 rfl rfl 3 (by decide) (hw _ k_197) (fun _ h9 => h9) rfl d_T_takeWord_1 ?_
  refine lv_aload_n hx hb d_T_takeWord_4 rfl (lv_at hl 0 rfl) ?_
  refine va_get (D := (dC, dI)) (ci := 0) (v := .int (uT 10)) (C := "VotedTriple") (T := F_T) (N := 11) hx hb hw in_T hown hK hP 0 rfl rfl 10 (by decide) (hw _ k_204) (fun _ h9 => h9) rfl d_T_takeWord_5 ?_
  replace hPc := hP.sub (ws' := [(n9, .inr (4, [.ref nw9, .int (nI kN)])), (nw9, .inl (cN, 64, .inl wN))]) [1, 2] rfl
  replace hKc := hK.sub (tys' := [(cN, .int)]) [0] rfl
  refine vp_callSi (va_runV (C := "VotedTriple$WordsIn") (As := [.int (uT 10)]) (rest := []) ⟨hx, hb, hml, hown, hw⟩ (c_N_wordAt l dC dI n9 nw9 kN cN wN (uT 10) hkN hwN) (cwV 1 hw (gdV (k_545) (k_620) (k_543) (k_544) (k_6)) rfl rfl rfl (by decide +kernel) ⟨Nat.le_of_ble_eq_true rfl, Nat.le_of_ble_eq_true rfl⟩) ⟨fun a U g mk q => ⟨q.1, q.2.1, va_K.moved (u := U) (U := U.calling g mk a) (Vm.Alike.refl U.vm) q.2.2⟩, va_recv hK hP rfl (q0 := 1) rfl, fun U hU hW => ⟨rfl, by rw [hU]; exact hPc, va_K.moved hW.alike hKc⟩⟩ rfl rfl hl.1 rfl (lv_room (Nat.le_of_ble_eq_true rfl)) d_T_takeWord_8 ⟨Nat.le_of_ble_eq_true rfl, Nat.le_of_ble_eq_true rfl⟩).run (fun r1 hr2 => ?_)
  obtain ⟨hr2, hr2E⟩ := hr2
  refine lv_istore_n hx hb d_T_takeWord_11 rfl hl (by decide) rfl (fun ls hl => ?_)
  replace hl : lv_has ls 2 [(1, .int r1), (0, .ref h0)] := hl
  refine lv_aload_n hx hb d_T_takeWord_12 rfl (lv_at hl 1 rfl) ?_
  refine va_get (D := (dC, dI)) (ci := 0) (v := .int (uT 10)) (C := "VotedTriple") (T := F_T) (N := 11) hx hb hw in_T hown hK hP 0 rfl rfl 10 (by decide) (hw _ k_204) (fun _ h9 => h9) rfl d_T_takeWord_13 ?_
  refine lv_aload_n hx hb d_T_takeWord_16 rfl (lv_at hl 1 rfl) ?_
  refine va_get (D := (dC, dI)) (ci := 0) (v := .ref n9) (C := "VotedTriple") (T := F_T) (N := 11) hx hb hw in_T hown hK hP 0 rfl rfl 3 (by decide) (hw _ k_197) (fun _ h9 => h9) rfl d_T_takeWord_17 ?_
  refine va_get (D := (dC, dI)) (ci := 4) (v := .int (nI kN)) (C := "VotedTriple$WordsIn") (T := F_N) (N := 2) hx hb hw in_N hown hK hP 1 rfl rfl 1 (by decide) (hw _ k_127) (fun _ h9 => h9) rfl d_T_takeWord_20 ?_
  refine lv_icmp_ge (tgt := 36) hx hb d_T_takeWord_23 rfl (fun hc3 => ?_) (fun hc3 => ?_)
  · --  (nI kN) ≤ (uT 10)
    refine lv_iload_n hx hb d_T_takeWord_36 rfl (lv_at hl 0 rfl) ?_
    have hP9 := hP.sub (ws' := [(h0, .inr (0, oT (upc uT 10 (uT 10)) p9 a9 e9 n9 o9)), (n9, .inr (4, [.ref nw9, .int (nI kN)])), (nw9, .inl (cN, 64, .inl wN))]) [0, 1, 2] rfl
    have hD9 := hD.sub (ws' := [(h0, .inr (0, oT (upc uT 10 (uT 10)) p9 a9 e9 n9 o9)), (n9, .inr (4, [.ref nw9, .int (nI kN)])), (nw9, .inl (cN, 64, .inl wN))]) [0, 1, 2] (by decide) rfl
    have hK9 := hK.sub (tys' := [(cN, .int)]) [0] rfl
    refine W.widen (k := 0) (n := 0) (Nat.le_of_ble_eq_true rfl) (Nat.le_of_ble_eq_true rfl) ?_
    exact W.iret (v := r1) hx hb hr (fun t ht hW => ⟨⟨_, (uT 10), rfl, ⟨hr2, (by rw [← hSP, s_T_takeWord]; try (rw [← hr2E, bnd_eq]); try (rw [if_pos hc3]); all_goals rfl)⟩, by rw [ht]; exact hP9, va_K.moved hW.alike hK9, hD9⟩, hS.F ht⟩) hS.2.2 d_T_takeWord_37
  · --  ¬ (nI kN) ≤ (uT 10)
    refine lv_aload_n hx hb d_T_takeWord_26 rfl (lv_at hl 1 rfl) ?_
    refine lv_dup hx hb d_T_takeWord_27 rfl ?_
    refine va_get (D := (dC, dI)) (ci := 0) (v := .int (uT 10)) (C := "VotedTriple") (T := F_T) (N := 11) hx hb hw in_T hown hK hP 0 rfl rfl 10 (by decide) (hw _ k_204) (fun _ h9 => h9) rfl d_T_takeWord_28 ?_
    refine lv_iconst (v := 1) hx hb d_T_takeWord_31 (by decide) ?_
    refine lv_iadd hx hb d_T_takeWord_32 ?_
    refine va_put (D := (dC, dI)) (ci := 0) (v := .int ((uT 10) + (1 : Int32))) (ty := .int) (C := "VotedTriple") (T := F_T) (N := 11) hx hb hw in_T ft_T tyok_T nm_T hown hK hP hD hS 0 rfl rfl 10 (by decide) (hw _ k_204) (fun _ h9 => h9) rfl (by decide +kernel) rfl rfl (Nat.le_of_ble_eq_true rfl) d_T_takeWord_33 (fun H locs hP hD hS => ?_)
    replace hP : va_P (dC, dI) classes [(h0, .inr (0, [.ref p9, .ref a9, .ref e9, .ref n9, .ref o9, .int (uT 5), .int (uT 6), .int (uT 7), .int (uT 8), .int (uT 9), .int ((uT 10) + (1 : Int32))])), (n9, .inr (4, [.ref nw9, .int (nI kN)])), (nw9, .inl (cN, 64, .inl wN))] H := hP
    replace hD : va_D A [(h0, .inr (0, [.ref p9, .ref a9, .ref e9, .ref n9, .ref o9, .int (uT 5), .int (uT 6), .int (uT 7), .int (uT 8), .int (uT 9), .int ((uT 10) + (1 : Int32))])), (n9, .inr (4, [.ref nw9, .int (nI kN)])), (nw9, .inl (cN, 64, .inl wN))] := hD
    refine lv_iload_n hx hb d_T_takeWord_36 rfl (lv_at hl 0 rfl) ?_
    have hP9 := hP.sub (ws' := [(h0, .inr (0, oT (upc uT 10 ((uT 10) + (1 : Int32))) p9 a9 e9 n9 o9)), (n9, .inr (4, [.ref nw9, .int (nI kN)])), (nw9, .inl (cN, 64, .inl wN))]) [0, 1, 2] rfl
    have hD9 := hD.sub (ws' := [(h0, .inr (0, oT (upc uT 10 ((uT 10) + (1 : Int32))) p9 a9 e9 n9 o9)), (n9, .inr (4, [.ref nw9, .int (nI kN)])), (nw9, .inl (cN, 64, .inl wN))]) [0, 1, 2] (by decide) rfl
    have hK9 := hK.sub (tys' := [(cN, .int)]) [0] rfl
    refine W.widen (k := 0) (n := 0) (Nat.le_of_ble_eq_true rfl) (Nat.le_of_ble_eq_true rfl) ?_
    exact W.iret (v := r1) hx hb hr (fun t ht hW => ⟨⟨_, ((uT 10) + (1 : Int32)), rfl, ⟨hr2, (by rw [← hSP, s_T_takeWord]; try (rw [← hr2E, bnd_eq]); try (rw [if_neg hc3]); all_goals rfl)⟩, by rw [ht]; exact hP9, va_K.moved hW.alike hK9, hD9⟩, hS.F ht⟩) hS.2.2 d_T_takeWord_37
