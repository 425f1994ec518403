set_option maxHeartbeats 4000000 in
set_option maxRecDepth 100000 in
theorem c_T_vote (l : Launch) (dC : Nat → ClassId) (dI : Nat → Nat → Nat) (h0 : Nat) (p9 : Nat) (a9 : Nat) (e9 : Nat) (n9 : Nat) (o9 : Nat) (ca : ClassId) (da : Nat → Nat) (ra : Nat → Nat) (ka : Nat → Nat) (uT : Nat → Int32) (F : Nat → Nat → Int32) (hF : f3 F) (sz : Nat) : Met l y_T_vote (tbw y_T_vote b_T_vote 3 (some .int)) ({ frames := 3, cells := 0, slots := 0, locals := 65 }) (va_Pc [.ref h0] (fun U => U.heap.size = sz ∧ va_P (dC, dI) classes [(h0, .inr (0, oT uT p9 a9 e9 n9 o9)), (a9, .inl (ca, 3, .inr (.inr (.inr (.inr (mo da)))))), (da 0, .inr (2, oD (F 0) (ra 0) (ka 0))), (da 1, .inr (2, oD (F 1) (ra 1) (ka 1))), (da 2, .inr (2, oD (F 2) (ra 2) (ka 2)))] U.heap ∧ va_K (dC, dI) classes [(ca, .object "VotedTriple$VotedModule")] U ∧ va_D (fun _ => True) [(h0, .inr (0, oT uT p9 a9 e9 n9 o9)), (a9, .inl (ca, 3, .inr (.inr (.inr (.inr (mo da)))))), (da 0, .inr (2, oD (F 0) (ra 0) (ka 0))), (da 1, .inr (2, oD (F 1) (ra 1) (ka 1))), (da 2, .inr (2, oD (F 2) (ra 2) (ka 2)))])) (va_Qi (fun (r : Int32) (u9 : (Nat → Nat → Int32) × Int32) => match u9 with | (F2, y9) => (i012 r ∧ f3 F2) ∧ (r, F2, y9) = s_T_vote uT F) (fun (u9 : (Nat → Nat → Int32) × Int32) t => match u9 with | (F2, y9) => va_P (dC, dI) classes [(h0, .inr (0, oT (upc uT 9 y9) p9 a9 e9 n9 o9)), (a9, .inl (ca, 3, .inr (.inr (.inr (.inr (mo da)))))), (da 0, .inr (2, oD (F2 0) (ra 0) (ka 0))), (da 1, .inr (2, oD (F2 1) (ra 1) (ka 1))), (da 2, .inr (2, oD (F2 2) (ra 2) (ka 2)))] t.heap ∧ va_K (dC, dI) classes [(ca, .object "VotedTriple$VotedModule")] t ∧ va_D (va_A [(h0, .inr (0, oT uT p9 a9 e9 n9 o9)), (a9, .inl (ca, 3, .inr (.inr (.inr (.inr (mo da)))))), (da 0, .inr (2, oD (F 0) (ra 0) (ka 0))), (da 1, .inr (2, oD (F 1) (ra 1) (ka 1))), (da 2, .inr (2, oD (F 2) (ra 2) (ka 2)))] sz) [(h0, .inr (0, oT (upc uT 9 y9) p9 a9 e9 n9 o9)), (a9, .inl (ca, 3, .inr (.inr (.inr (.inr (mo da)))))), (da 0, .inr (2, oD (F2 0) (ra 0) (ka 0))), (da 1, .inr (2, oD (F2 1) (ra 1) (ka 1))), (da 2, .inr (2, oD (F2 2) (ra 2) (ka 2)))]) (va_A [(h0, .inr (0, oT uT p9 a9 e9 n9 o9)), (a9, .inl (ca, 3, .inr (.inr (.inr (.inr (mo da)))))), (da 0, .inr (2, oD (F 0) (ra 0) (ka 0))), (da 1, .inr (2, oD (F 1) (ra 1) (ka 1))), (da 2, .inr (2, oD (F 2) (ra 2) (ka 2)))] sz)) 0 0 (va_A [(h0, .inr (0, oT uT p9 a9 e9 n9 o9)), (a9, .inl (ca, 3, .inr (.inr (.inr (.inr (mo da)))))), (da 0, .inr (2, oD (F 0) (ra 0) (ka 0))), (da 1, .inr (2, oD (F 1) (ra 1) (ka 1))), (da 2, .inr (2, oD (F 2) (ra 2) (ka 2)))] sz) := by
  refine Met.ofW (cc := b_T_vote) (maxL := 3) (ret := (some .int)) (by decide) rfl ?_
  intro p e s m args below meth c s₁ B hml hv
  obtain ⟨rfl, hsz, hP, hK, hD0⟩ := hv
  have hx := B.exec
  have hb := B.bytes
  have hr := B.returns
  have hts := atoms_spec (ws := (tbw y_T_vote b_T_vote 3 (some .int))) B.pre
  have hw : ∀ z9 ∈ tb, z9.before ([.ref h0] : List Value).toArray s = true := fun z9 h => hts z9 (List.mem_cons_of_mem _ h)
  have hown : s.vm.findClass "VotedTriple" = some m.cls := findClass_of_methodNamed B.named
  have hlocks := B.notSynchronized
  subst hsz
  replace hD := hD0.self (sz := s.heap.size)
  generalize hAe : va_A [(h0, .inr (0, oT uT p9 a9 e9 n9 o9)), (a9, .inl (ca, 3, .inr (.inr (.inr (.inr (mo da)))))), (da 0, .inr (2, oD (F 0) (ra 0) (ka 0))), (da 1, .inr (2, oD (F 1) (ra 1) (ka 1))), (da 2, .inr (2, oD (F 2) (ra 2) (ka 2)))] s.heap.size = A at hD ⊢
  have hA : ∀ q : Nat, s.heap.size ≤ q → A q := fun q h => by rw [← hAe]; exact Or.inr h
  have hS : va_S A s.heap s.heap [] := va_S.rf
  replace hl := lv_entry ([.ref h0]) (n := 3) (Nat.le_of_ble_eq_true rfl)
  rw [lg_entry_eq]
  generalize (lg_sl ([.ref h0]) ++ List.replicate (3 - (lg_sl ([.ref h0])).length) Slot.unset).toArray = ls at hl ⊢
  replace hl : lv_has ls 3 [(0, .ref h0)] := hl
  generalize hSP : s_T_vote uT F = SP
  have cv65 : ∀ (F : Nat → Nat → Int32) (ls : Array Slot) (H : Heap) (locs : List Loc), f3 F → SP = s_T_vote_cv65 uT F →  lv_has ls 3 [(0, .ref h0)] → va_P (dC, dI) classes [(h0, .inr (0, oT uT p9 a9 e9 n9 o9)), (a9, .inl (ca, 3, .inr (.inr (.inr (.inr (mo da)))))), (da 0, .inr (2, oD (F 0) (ra 0) (ka 0))), (da 1, .inr (2, oD (F 1) (ra 1) (ka 1))), (da 2, .inr (2, oD (F 2) (ra 2) (ka 2)))] H → va_D A [(h0, .inr (0, oT uT p9 a9 e9 n9 o9)), (a9, .inl (ca, 3, .inr (.inr (.inr (.inr (mo da)))))), (da 0, .inr (2, oD (F 0) (ra 0) (ka 0))), (da 1, .inr (2, oD (F 1) (ra 1) (ka 1))), (da 2, .inr (2, oD (F 2) (ra 2) (ka 2)))] → va_S A s.heap H locs → W p l e (headSpec (tbw y_T_vote b_T_vote 3 (some .int)) ({ frames := 3, cells := 0, slots := 0, locals := 65 })).room s m ([.ref h0] : List Value).toArray below meth c H locs 0 0 (MQ below (va_Qi (fun (r : Int32) (u9 : (Nat → Nat → Int32) × Int32) => match u9 with | (F2, y9) => (i012 r ∧ f3 F2) ∧ (r, F2, y9) = SP) (fun (u9 : (Nat → Nat → Int32) × Int32) t => match u9 with | (F2, y9) => va_P (dC, dI) classes [(h0, .inr (0, oT (upc uT 9 y9) p9 a9 e9 n9 o9)), (a9, .inl (ca, 3, .inr (.inr (.inr (.inr (mo da)))))), (da 0, .inr (2, oD (F2 0) (ra 0) (ka 0))), (da 1, .inr (2, oD (F2 1) (ra 1) (ka 1))), (da 2, .inr (2, oD (F2 2) (ra 2) (ka 2)))] t.heap ∧ va_K (dC, dI) classes [(ca, .object "VotedTriple$VotedModule")] t ∧ va_D A [(h0, .inr (0, oT (upc uT 9 y9) p9 a9 e9 n9 o9)), (a9, .inl (ca, 3, .inr (.inr (.inr (.inr (mo da)))))), (da 0, .inr (2, oD (F2 0) (ra 0) (ka 0))), (da 1, .inr (2, oD (F2 1) (ra 1) (ka 1))), (da 2, .inr (2, oD (F2 2) (ra 2) (ka 2)))]) A) ([.ref h0] : List Value).toArray s 0 0 A) (F0 m 65 ls []) := by
    intro F ls H locs hF hSq0 hl hP hD hS
    refine lv_aload_n hx hb d_T_vote_65 rfl (lv_at hl 0 rfl) ?_
    refine lv_dup hx hb d_T_vote_66 rfl ?_
    refine va_get (D := (dC, dI)) (ci := 0) (v := .int (uT 9)) (C := "VotedTriple") (T := F_T) (N := 11) hx hb hw in_T hown hK hP 0 rfl rfl 9 (by decide) (hw _ k_203) (fun _ h9 => h9) rfl d_T_vote_67 ?_
    refine lv_iconst (v := 1) hx hb d_T_vote_70 (by decide) ?_
    refine lv_iadd hx hb d_T_vote_71 ?_
    refine va_put (D := (dC, dI)) (ci := 0) (v := .int ((uT 9) + (1 : Int32))) (ty := .int) (C := "VotedTriple") (T := F_T) (N := 11) hx hb hw in_T ft_T tyok_T nm_T hown hK hP hD hS 0 rfl rfl 9 (by decide) (hw _ k_203) (fun _ h9 => h9) rfl (by decide +kernel) rfl rfl (Nat.le_of_ble_eq_true rfl) d_T_vote_72 (fun H locs hP hD hS => ?_)
    replace hP : va_P (dC, dI) classes [(h0, .inr (0, [.ref p9, .ref a9, .ref e9, .ref n9, .ref o9, .int (uT 5), .int (uT 6), .int (uT 7), .int (uT 8), .int ((uT 9) + (1 : Int32)), .int (uT 10)])), (a9, .inl (ca, 3, .inr (.inr (.inr (.inr (mo da)))))), (da 0, .inr (2, oD (F 0) (ra 0) (ka 0))), (da 1, .inr (2, oD (F 1) (ra 1) (ka 1))), (da 2, .inr (2, oD (F 2) (ra 2) (ka 2)))] H := hP
    replace hD : va_D A [(h0, .inr (0, [.ref p9, .ref a9, .ref e9, .ref n9, .ref o9, .int (uT 5), .int (uT 6), .int (uT 7), .int (uT 8), .int ((uT 9) + (1 : Int32)), .int (uT 10)])), (a9, .inl (ca, 3, .inr (.inr (.inr (.inr (mo da)))))), (da 0, .inr (2, oD (F 0) (ra 0) (ka 0))), (da 1, .inr (2, oD (F 1) (ra 1) (ka 1))), (da 2, .inr (2, oD (F 2) (ra 2) (ka 2)))] := hD
    refine lv_aload_n hx hb d_T_vote_75 rfl (lv_at hl 0 rfl) ?_
    replace hP : va_P (dC, dI) classes [(h0, .inr (0, oT (upc uT 9 ((uT 9) + (1 : Int32))) p9 a9 e9 n9 o9)), (a9, .inl (ca, 3, .inr (.inr (.inr (.inr (mo da)))))), (da 0, .inr (2, oD (F 0) (ra 0) (ka 0))), (da 1, .inr (2, oD (F 1) (ra 1) (ka 1))), (da 2, .inr (2, oD (F 2) (ra 2) (ka 2)))] H := hP
    replace hD : va_D A [(h0, .inr (0, oT (upc uT 9 ((uT 9) + (1 : Int32))) p9 a9 e9 n9 o9)), (a9, .inl (ca, 3, .inr (.inr (.inr (.inr (mo da)))))), (da 0, .inr (2, oD (F 0) (ra 0) (ka 0))), (da 1, .inr (2, oD (F 1) (ra 1) (ka 1))), (da 2, .inr (2, oD (F 2) (ra 2) (ka 2)))] := hD
    replace hPc := hP.sub (ws' := [(h0, .inr (0, oT (upc uT 9 ((uT 9) + (1 : Int32))) p9 a9 e9 n9 o9)), (a9, .inl (ca, 3, .inr (.inr (.inr (.inr (mo da)))))), (da 0, .inr (2, oD (F 0) (ra 0) (ka 0))), (da 1, .inr (2, oD (F 1) (ra 1) (ka 1))), (da 2, .inr (2, oD (F 2) (ra 2) (ka 2)))]) [0, 1, 2, 3, 4] rfl
    replace hKc := hK.sub (tys' := [(ca, .object "VotedTriple$VotedModule")]) [0] rfl
    refine vp_callSi (va_runV (C := "VotedTriple") (As := []) (rest := []) ⟨hx, hb, hml, hown, hw⟩ (c_T_oneOfTheAlikePair l dC dI h0 p9 a9 e9 n9 o9 ca da ra ka (upc uT 9 ((uT 9) + (1 : Int32))) F) (cwV 0 hw (gdV (k_599) (k_596) (k_598) (ks_11) (k_1)) rfl rfl rfl (by decide +kernel) ⟨Nat.le_of_ble_eq_true rfl, Nat.le_of_ble_eq_true rfl⟩) ⟨fun a U g mk q => ⟨q.1, q.2.1, va_K.moved (u := U) (U := U.calling g mk a) (Vm.Alike.refl U.vm) q.2.2⟩, va_recv hK hP rfl (q0 := 0) rfl, fun U hU hW => ⟨rfl, by rw [hU]; exact hPc, va_K.moved hW.alike hKc⟩⟩ rfl rfl hl.1 rfl (lv_room (Nat.le_of_ble_eq_true rfl)) d_T_vote_76 ⟨Nat.le_of_ble_eq_true rfl, Nat.le_of_ble_eq_true rfl⟩).run (fun r1 hr2 => ?_)
    obtain ⟨hr2, hr2E⟩ := hr2
    rcases hr2 with rfl | rfl | rfl | rfl
    · --  (-1)
      refine lv_istore_n hx hb d_T_vote_79 rfl hl (by decide) rfl (fun ls hl => ?_)
      replace hl : lv_has ls 3 [(2, .int (-1)), (0, .ref h0)] := hl
      refine lv_iload_n hx hb d_T_vote_80 rfl (lv_at hl 0 rfl) ?_
      refine lv_iconst (v := (-1)) hx hb d_T_vote_81 (by decide) ?_
      refine lv_icmp_ne (tgt := 90) hx hb d_T_vote_82 rfl (fun hc3 => by first | exact absurd hc3 (fun hh => hh rfl) | exact absurd (fun hh => hh rfl) hc3) (fun hc3 => ?_)
      refine lv_aload_n hx hb d_T_vote_85 rfl (lv_at hl 1 rfl) ?_
      replace hPc := hP.sub (ws' := [(h0, .inr (0, oT (upc uT 9 ((uT 9) + (1 : Int32))) p9 a9 e9 n9 o9)), (a9, .inl (ca, 3, .inr (.inr (.inr (.inr (mo da)))))), (da 0, .inr (2, oD (F 0) (ra 0) (ka 0))), (da 1, .inr (2, oD (F 1) (ra 1) (ka 1))), (da 2, .inr (2, oD (F 2) (ra 2) (ka 2)))]) [0, 1, 2, 3, 4] rfl
      replace hKc := hK.sub (tys' := [(ca, .object "VotedTriple$VotedModule")]) [0] rfl
      refine vp_callSi (va_runV (C := "VotedTriple") (As := []) (rest := []) ⟨hx, hb, hml, hown, hw⟩ (c_T_soundOneOfTwo l dC dI h0 p9 a9 e9 n9 o9 ca da ra ka (upc uT 9 ((uT 9) + (1 : Int32))) F) (cwV 0 hw (gdV (k_603) (k_600) (k_602) (ks_12) (k_1)) rfl rfl rfl (by decide +kernel) ⟨Nat.le_of_ble_eq_true rfl, Nat.le_of_ble_eq_true rfl⟩) ⟨fun a U g mk q => ⟨q.1, q.2.1, va_K.moved (u := U) (U := U.calling g mk a) (Vm.Alike.refl U.vm) q.2.2⟩, va_recv hK hP rfl (q0 := 0) rfl, fun U hU hW => ⟨rfl, by rw [hU]; exact hPc, va_K.moved hW.alike hKc⟩⟩ rfl rfl hl.1 rfl (lv_room (Nat.le_of_ble_eq_true rfl)) d_T_vote_86 ⟨Nat.le_of_ble_eq_true rfl, Nat.le_of_ble_eq_true rfl⟩).run (fun r4 hr5 => ?_)
      obtain ⟨hr5, hr5E⟩ := hr5
      rcases hr5 with rfl | rfl | rfl | rfl
      · --  (-1)
        refine lv_istore_n hx hb d_T_vote_89 rfl hl (by decide) rfl (fun ls hl => ?_)
        replace hl : lv_has ls 3 [(2, .int (-1)), (0, .ref h0)] := hl
        refine lv_iload_n hx hb d_T_vote_90 rfl (lv_at hl 0 rfl) ?_
        refine lv_iconst (v := (-1)) hx hb d_T_vote_91 (by decide) ?_
        refine lv_icmp_eq (tgt := 108) hx hb d_T_vote_92 rfl (fun hc6 => ?_) (fun hc6 => by first | exact absurd (rfl) hc6 | exact absurd hc6 (rfl))
        refine lv_iload_n hx hb d_T_vote_108 rfl (lv_at hl 0 rfl) ?_
        have hP9 := hP.sub (ws' := [(h0, .inr (0, oT (upc uT 9 (upc uT 9 ((uT 9) + (1 : Int32)) 9)) p9 a9 e9 n9 o9)), (a9, .inl (ca, 3, .inr (.inr (.inr (.inr (mo da)))))), (da 0, .inr (2, oD (F 0) (ra 0) (ka 0))), (da 1, .inr (2, oD (F 1) (ra 1) (ka 1))), (da 2, .inr (2, oD (F 2) (ra 2) (ka 2)))]) [0, 1, 2, 3, 4] rfl
        have hD9 := hD.sub (ws' := [(h0, .inr (0, oT (upc uT 9 (upc uT 9 ((uT 9) + (1 : Int32)) 9)) p9 a9 e9 n9 o9)), (a9, .inl (ca, 3, .inr (.inr (.inr (.inr (mo da)))))), (da 0, .inr (2, oD (F 0) (ra 0) (ka 0))), (da 1, .inr (2, oD (F 1) (ra 1) (ka 1))), (da 2, .inr (2, oD (F 2) (ra 2) (ka 2)))]) [0, 1, 2, 3, 4] (by decide) rfl
        have hK9 := hK.sub (tys' := [(ca, .object "VotedTriple$VotedModule")]) [0] rfl
        refine W.widen (k := 0) (n := 0) (Nat.le_of_ble_eq_true rfl) (Nat.le_of_ble_eq_true rfl) ?_
        exact W.iret (v := (-1)) hx hb hr (fun t ht hW => ⟨⟨_, (F, upc uT 9 ((uT 9) + (1 : Int32)) 9), rfl, ⟨⟨(Or.inl rfl), hF⟩, (by rw [hSq0, s_T_vote_cv65]; try (rw [← hr2E, bnd_eq]); try (rw [if_pos rfl]); try (rw [← hr5E, bnd_eq]); try (rw [if_pos rfl]); all_goals rfl)⟩, by rw [ht]; exact hP9, va_K.moved hW.alike hK9, hD9⟩, hS.F ht⟩) hS.2.2 d_T_vote_109
      · --  0
        refine lv_istore_n hx hb d_T_vote_89 rfl hl (by decide) rfl (fun ls hl => ?_)
        replace hl : lv_has ls 3 [(2, .int 0), (0, .ref h0)] := hl
        refine lv_iload_n hx hb d_T_vote_90 rfl (lv_at hl 0 rfl) ?_
        refine lv_iconst (v := (-1)) hx hb d_T_vote_91 (by decide) ?_
        refine lv_icmp_eq (tgt := 108) hx hb d_T_vote_92 rfl (fun hc7 => by first | exact absurd hc7 (by decide) | exact absurd (by decide) hc7) (fun hc7 => ?_)
        refine lv_aload_n hx hb d_T_vote_95 rfl (lv_at hl 1 rfl) ?_
        refine lv_aload_n hx hb d_T_vote_96 rfl (lv_at hl 1 rfl) ?_
        refine va_get (D := (dC, dI)) (ci := 0) (v := .ref a9) (C := "VotedTriple") (T := F_T) (N := 11) hx hb hw in_T hown hK hP 0 rfl rfl 1 (by decide) (hw _ k_195) (fun _ h9 => h9) rfl d_T_vote_97 ?_
        refine lv_iload_n hx hb d_T_vote_100 rfl (lv_at hl 0 rfl) ?_
        refine va_aldq hx hb hK hP 1 0 rfl rfl (by unfold vp_in; decide) d_T_vote_101 ?_
        refine W.eq (g2 := F0 m 102 ls [.ref (da 0), .ref h0]) rfl ?_
        refine va_get (D := (dC, dI)) (ci := 2) (v := .int (F 0 18)) (C := "VotedTriple$VotedModule") (T := F_D) (N := 19) hx hb hw in_D hown hK hP 2 rfl rfl 18 (by decide) (hw _ k_161) (fun _ h9 => h9) rfl d_T_vote_102 ?_
        replace hPc := hP.sub (ws' := [(h0, .inr (0, oT (upc uT 9 ((uT 9) + (1 : Int32))) p9 a9 e9 n9 o9)), (a9, .inl (ca, 3, .inr (.inr (.inr (.inr (mo da)))))), (da 0, .inr (2, oD (F 0) (ra 0) (ka 0))), (da 1, .inr (2, oD (F 1) (ra 1) (ka 1))), (da 2, .inr (2, oD (F 2) (ra 2) (ka 2)))]) [0, 1, 2, 3, 4] rfl
        replace hKc := hK.sub (tys' := [(ca, .object "VotedTriple$VotedModule")]) [0] rfl
        replace hDc := hD.sub (ws' := [(h0, .inr (0, oT (upc uT 9 ((uT 9) + (1 : Int32))) p9 a9 e9 n9 o9)), (a9, .inl (ca, 3, .inr (.inr (.inr (.inr (mo da)))))), (da 0, .inr (2, oD (F 0) (ra 0) (ka 0))), (da 1, .inr (2, oD (F 1) (ra 1) (ka 1))), (da 2, .inr (2, oD (F 2) (ra 2) (ka 2)))]) [0, 1, 2, 3, 4] (by decide) rfl
        replace hFc := va_free (wc := [(h0, .inr (0, oT (upc uT 9 ((uT 9) + (1 : Int32))) p9 a9 e9 n9 o9)), (a9, .inl (ca, 3, .inr (.inr (.inr (.inr (mo da)))))), (da 0, .inr (2, oD (F 0) (ra 0) (ka 0))), (da 1, .inr (2, oD (F 1) (ra 1) (ka 1))), (da 2, .inr (2, oD (F 2) (ra 2) (ka 2)))]) hD hS hA [0, 1, 2, 3, 4] rfl
        refine va_callv (va_runV (C := "VotedTriple") (As := [.int (F 0 18)]) (rest := []) ⟨hx, hb, hml, hown, hw⟩ (c_T_nameAllUnlike l dC dI h0 p9 a9 e9 n9 o9 ca da ra ka (upc uT 9 ((uT 9) + (1 : Int32))) F (F 0 18) hF H.size) (cwV 1 hw (gdV (k_607) (k_604) (k_606) (ks_13) (k_1)) rfl rfl rfl (by decide +kernel) ⟨Nat.le_of_ble_eq_true rfl, Nat.le_of_ble_eq_true rfl⟩) ⟨fun a U g mk q => by obtain ⟨q0, q1, qP, qK, qD⟩ := q; exact ⟨q0, q1, qP, va_K.moved (u := U) (U := U.calling g mk a) (Vm.Alike.refl U.vm) qK, qD⟩, va_recv hK hP rfl (q0 := 0) rfl, fun U hU hW => ⟨rfl, by rw [hU], by rw [hU]; exact hPc, va_K.moved hW.alike hKc, hDc.weaken (fun _ _ _ _ => trivial)⟩⟩ rfl rfl hl.1 rfl (lv_room (Nat.le_of_ble_eq_true rfl)) d_T_vote_105 ⟨Nat.le_of_ble_eq_true rfl, Nat.le_of_ble_eq_true rfl⟩) hS (fun q _ h => hFc q h) hFc (fun u9 t H1 locs ht hvm hr9 hB hz1 hk1 hS => ?_)
        obtain ⟨F210, rfl⟩ : ∃ z, z = u9 := ⟨_, rfl⟩
        obtain ⟨hP1, hK1, hD1⟩ := hB
        rw [ht] at hP1
        replace hK1 := va_K.moved hvm.symm hK1
        try dsimp only at hr9 hP1 hK1 hD1
        obtain ⟨hr9, hr9E⟩ := hr9
        obtain ⟨hPz, hDz⟩ := va_join (wr := []) (w1 := [(h0, .inr (0, oT (upc uT 9 ((uT 9) + (1 : Int32))) p9 a9 e9 n9 o9)), (a9, .inl (ca, 3, .inr (.inr (.inr (.inr (mo da)))))), (da 0, .inr (2, oD (F210 0) (ra 0) (ka 0))), (da 1, .inr (2, oD (F210 1) (ra 1) (ka 1))), (da 2, .inr (2, oD (F210 2) (ra 2) (ka 2)))]) hP hD [0, 1, 2, 3, 4] [] rfl rfl (by decide) (by decide) hk1 hFc hP1 hD1
        clear hP hD hPc hDc hP1 hD1 hFc
        have hP := hPz
        have hD := hDz
        clear hPz hDz
        replace hK := (hK.sub (tys' := []) [] rfl).app hK1
        clear hK1 hKc
        generalize H1 = H at hP hS ⊢
        replace hP : va_P (dC, dI) classes [(h0, .inr (0, oT (upc uT 9 ((uT 9) + (1 : Int32))) p9 a9 e9 n9 o9)), (a9, .inl (ca, 3, .inr (.inr (.inr (.inr (mo da)))))), (da 0, .inr (2, oD (F210 0) (ra 0) (ka 0))), (da 1, .inr (2, oD (F210 1) (ra 1) (ka 1))), (da 2, .inr (2, oD (F210 2) (ra 2) (ka 2)))] H := hP
        replace hD : va_D A [(h0, .inr (0, oT (upc uT 9 ((uT 9) + (1 : Int32))) p9 a9 e9 n9 o9)), (a9, .inl (ca, 3, .inr (.inr (.inr (.inr (mo da)))))), (da 0, .inr (2, oD (F210 0) (ra 0) (ka 0))), (da 1, .inr (2, oD (F210 1) (ra 1) (ka 1))), (da 2, .inr (2, oD (F210 2) (ra 2) (ka 2)))] := hD
        replace hK : va_K (dC, dI) classes [(ca, .object "VotedTriple$VotedModule")] s := hK
        refine W.widen (k := 0) (n := 0) (Nat.le_of_ble_eq_true rfl) (Nat.le_of_ble_eq_true rfl) ?_
        refine lv_iload_n hx hb d_T_vote_108 rfl (lv_at hl 0 rfl) ?_
        have hP9 := hP.sub (ws' := [(h0, .inr (0, oT (upc uT 9 (upc uT 9 ((uT 9) + (1 : Int32)) 9)) p9 a9 e9 n9 o9)), (a9, .inl (ca, 3, .inr (.inr (.inr (.inr (mo da)))))), (da 0, .inr (2, oD (F210 0) (ra 0) (ka 0))), (da 1, .inr (2, oD (F210 1) (ra 1) (ka 1))), (da 2, .inr (2, oD (F210 2) (ra 2) (ka 2)))]) [0, 1, 2, 3, 4] rfl
        have hD9 := hD.sub (ws' := [(h0, .inr (0, oT (upc uT 9 (upc uT 9 ((uT 9) + (1 : Int32)) 9)) p9 a9 e9 n9 o9)), (a9, .inl (ca, 3, .inr (.inr (.inr (.inr (mo da)))))), (da 0, .inr (2, oD (F210 0) (ra 0) (ka 0))), (da 1, .inr (2, oD (F210 1) (ra 1) (ka 1))), (da 2, .inr (2, oD (F210 2) (ra 2) (ka 2)))]) [0, 1, 2, 3, 4] (by decide) rfl
        have hK9 := hK.sub (tys' := [(ca, .object "VotedTriple$VotedModule")]) [0] rfl
        refine W.widen (k := 0) (n := 0) (Nat.le_of_ble_eq_true rfl) (Nat.le_of_ble_eq_true rfl) ?_
        exact W.iret (v := 0) hx hb hr (fun t ht hW => ⟨⟨_, (F210, upc uT 9 ((uT 9) + (1 : Int32)) 9), rfl, ⟨⟨(Or.inr (Or.inl rfl)), hr9⟩, (by rw [hSq0, s_T_vote_cv65]; try (rw [← hr2E, bnd_eq]); try (rw [if_pos rfl]); try (rw [← hr5E, bnd_eq]); try (rw [if_neg (by decide)]); try (rw [if_pos rfl]); try (rw [← hr9E, bnd_eq]); all_goals rfl)⟩, by rw [ht]; exact hP9, va_K.moved hW.alike hK9, hD9⟩, hS.F ht⟩) hS.2.2 d_T_vote_109
      · --  1
        refine lv_istore_n hx hb d_T_vote_89 rfl hl (by decide) rfl (fun ls hl => ?_)
        replace hl : lv_has ls 3 [(2, .int 1), (0, .ref h0)] := hl
        refine lv_iload_n hx hb d_T_vote_90 rfl (lv_at hl 0 rfl) ?_
        refine lv_iconst (v := (-1)) hx hb d_T_vote_91 (by decide) ?_
        refine lv_icmp_eq (tgt := 108) hx hb d_T_vote_92 rfl (fun hc11 => by first | exact absurd hc11 (by decide) | exact absurd (by decide) hc11) (fun hc11 => ?_)
        refine lv_aload_n hx hb d_T_vote_95 rfl (lv_at hl 1 rfl) ?_
        refine lv_aload_n hx hb d_T_vote_96 rfl (lv_at hl 1 rfl) ?_
        refine va_get (D := (dC, dI)) (ci := 0) (v := .ref a9) (C := "VotedTriple") (T := F_T) (N := 11) hx hb hw in_T hown hK hP 0 rfl rfl 1 (by decide) (hw _ k_195) (fun _ h9 => h9) rfl d_T_vote_97 ?_
        refine lv_iload_n hx hb d_T_vote_100 rfl (lv_at hl 0 rfl) ?_
        refine va_aldq hx hb hK hP 1 0 rfl rfl (by unfold vp_in; decide) d_T_vote_101 ?_
        refine W.eq (g2 := F0 m 102 ls [.ref (da 1), .ref h0]) rfl ?_
        refine va_get (D := (dC, dI)) (ci := 2) (v := .int (F 1 18)) (C := "VotedTriple$VotedModule") (T := F_D) (N := 19) hx hb hw in_D hown hK hP 3 rfl rfl 18 (by decide) (hw _ k_161) (fun _ h9 => h9) rfl d_T_vote_102 ?_
        replace hPc := hP.sub (ws' := [(h0, .inr (0, oT (upc uT 9 ((uT 9) + (1 : Int32))) p9 a9 e9 n9 o9)), (a9, .inl (ca, 3, .inr (.inr (.inr (.inr (mo da)))))), (da 0, .inr (2, oD (F 0) (ra 0) (ka 0))), (da 1, .inr (2, oD (F 1) (ra 1) (ka 1))), (da 2, .inr (2, oD (F 2) (ra 2) (ka 2)))]) [0, 1, 2, 3, 4] rfl
        replace hKc := hK.sub (tys' := [(ca, .object "VotedTriple$VotedModule")]) [0] rfl
        replace hDc := hD.sub (ws' := [(h0, .inr (0, oT (upc uT 9 ((uT 9) + (1 : Int32))) p9 a9 e9 n9 o9)), (a9, .inl (ca, 3, .inr (.inr (.inr (.inr (mo da)))))), (da 0, .inr (2, oD (F 0) (ra 0) (ka 0))), (da 1, .inr (2, oD (F 1) (ra 1) (ka 1))), (da 2, .inr (2, oD (F 2) (ra 2) (ka 2)))]) [0, 1, 2, 3, 4] (by decide) rfl
        replace hFc := va_free (wc := [(h0, .inr (0, oT (upc uT 9 ((uT 9) + (1 : Int32))) p9 a9 e9 n9 o9)), (a9, .inl (ca, 3, .inr (.inr (.inr (.inr (mo da)))))), (da 0, .inr (2, oD (F 0) (ra 0) (ka 0))), (da 1, .inr (2, oD (F 1) (ra 1) (ka 1))), (da 2, .inr (2, oD (F 2) (ra 2) (ka 2)))]) hD hS hA [0, 1, 2, 3, 4] rfl
        refine va_callv (va_runV (C := "VotedTriple") (As := [.int (F 1 18)]) (rest := []) ⟨hx, hb, hml, hown, hw⟩ (c_T_nameAllUnlike l dC dI h0 p9 a9 e9 n9 o9 ca da ra ka (upc uT 9 ((uT 9) + (1 : Int32))) F (F 1 18) hF H.size) (cwV 1 hw (gdV (k_607) (k_604) (k_606) (ks_13) (k_1)) rfl rfl rfl (by decide +kernel) ⟨Nat.le_of_ble_eq_true rfl, Nat.le_of_ble_eq_true rfl⟩) ⟨fun a U g mk q => by obtain ⟨q0, q1, qP, qK, qD⟩ := q; exact ⟨q0, q1, qP, va_K.moved (u := U) (U := U.calling g mk a) (Vm.Alike.refl U.vm) qK, qD⟩, va_recv hK hP rfl (q0 := 0) rfl, fun U hU hW => ⟨rfl, by rw [hU], by rw [hU]; exact hPc, va_K.moved hW.alike hKc, hDc.weaken (fun _ _ _ _ => trivial)⟩⟩ rfl rfl hl.1 rfl (lv_room (Nat.le_of_ble_eq_true rfl)) d_T_vote_105 ⟨Nat.le_of_ble_eq_true rfl, Nat.le_of_ble_eq_true rfl⟩) hS (fun q _ h => hFc q h) hFc (fun u9 t H1 locs ht hvm hr13 hB hz1 hk1 hS => ?_)
        obtain ⟨F214, rfl⟩ : ∃ z, z = u9 := ⟨_, rfl⟩
        obtain ⟨hP1, hK1, hD1⟩ := hB
        rw [ht] at hP1
        replace hK1 := va_K.moved hvm.symm hK1
        try dsimp only at hr13 hP1 hK1 hD1
        obtain ⟨hr13, hr13E⟩ := hr13
        obtain ⟨hPz, hDz⟩ := va_join (wr := []) (w1 := [(h0, .inr (0, oT (upc uT 9 ((uT 9) + (1 : Int32))) p9 a9 e9 n9 o9)), (a9, .inl (ca, 3, .inr (.inr (.inr (.inr (mo da)))))), (da 0, .inr (2, oD (F214 0) (ra 0) (ka 0))), (da 1, .inr (2, oD (F214 1) (ra 1) (ka 1))), (da 2, .inr (2, oD (F214 2) (ra 2) (ka 2)))]) hP hD [0, 1, 2, 3, 4] [] rfl rfl (by decide) (by decide) hk1 hFc hP1 hD1
        clear hP hD hPc hDc hP1 hD1 hFc
        have hP := hPz
        have hD := hDz
        clear hPz hDz
        replace hK := (hK.sub (tys' := []) [] rfl).app hK1
        clear hK1 hKc
        generalize H1 = H at hP hS ⊢
        replace hP : va_P (dC, dI) classes [(h0, .inr (0, oT (upc uT 9 ((uT 9) + (1 : Int32))) p9 a9 e9 n9 o9)), (a9, .inl (ca, 3, .inr (.inr (.inr (.inr (mo da)))))), (da 0, .inr (2, oD (F214 0) (ra 0) (ka 0))), (da 1, .inr (2, oD (F214 1) (ra 1) (ka 1))), (da 2, .inr (2, oD (F214 2) (ra 2) (ka 2)))] H := hP
        replace hD : va_D A [(h0, .inr (0, oT (upc uT 9 ((uT 9) + (1 : Int32))) p9 a9 e9 n9 o9)), (a9, .inl (ca, 3, .inr (.inr (.inr (.inr (mo da)))))), (da 0, .inr (2, oD (F214 0) (ra 0) (ka 0))), (da 1, .inr (2, oD (F214 1) (ra 1) (ka 1))), (da 2, .inr (2, oD (F214 2) (ra 2) (ka 2)))] := hD
        replace hK : va_K (dC, dI) classes [(ca, .object "VotedTriple$VotedModule")] s := hK
        refine W.widen (k := 0) (n := 0) (Nat.le_of_ble_eq_true rfl) (Nat.le_of_ble_eq_true rfl) ?_
        refine lv_iload_n hx hb d_T_vote_108 rfl (lv_at hl 0 rfl) ?_
        have hP9 := hP.sub (ws' := [(h0, .inr (0, oT (upc uT 9 (upc uT 9 ((uT 9) + (1 : Int32)) 9)) p9 a9 e9 n9 o9)), (a9, .inl (ca, 3, .inr (.inr (.inr (.inr (mo da)))))), (da 0, .inr (2, oD (F214 0) (ra 0) (ka 0))), (da 1, .inr (2, oD (F214 1) (ra 1) (ka 1))), (da 2, .inr (2, oD (F214 2) (ra 2) (ka 2)))]) [0, 1, 2, 3, 4] rfl
        have hD9 := hD.sub (ws' := [(h0, .inr (0, oT (upc uT 9 (upc uT 9 ((uT 9) + (1 : Int32)) 9)) p9 a9 e9 n9 o9)), (a9, .inl (ca, 3, .inr (.inr (.inr (.inr (mo da)))))), (da 0, .inr (2, oD (F214 0) (ra 0) (ka 0))), (da 1, .inr (2, oD (F214 1) (ra 1) (ka 1))), (da 2, .inr (2, oD (F214 2) (ra 2) (ka 2)))]) [0, 1, 2, 3, 4] (by decide) rfl
        have hK9 := hK.sub (tys' := [(ca, .object "VotedTriple$VotedModule")]) [0] rfl
        refine W.widen (k := 0) (n := 0) (Nat.le_of_ble_eq_true rfl) (Nat.le_of_ble_eq_true rfl) ?_
        exact W.iret (v := 1) hx hb hr (fun t ht hW => ⟨⟨_, (F214, upc uT 9 ((uT 9) + (1 : Int32)) 9), rfl, ⟨⟨(Or.inr (Or.inr (Or.inl rfl))), hr13⟩, (by rw [hSq0, s_T_vote_cv65]; try (rw [← hr2E, bnd_eq]); try (rw [if_pos rfl]); try (rw [← hr5E, bnd_eq]); try (rw [if_neg (by decide)]); try (rw [if_neg (by decide)]); try (rw [if_pos rfl]); try (rw [← hr13E, bnd_eq]); all_goals rfl)⟩, by rw [ht]; exact hP9, va_K.moved hW.alike hK9, hD9⟩, hS.F ht⟩) hS.2.2 d_T_vote_109
      · --  2
        refine lv_istore_n hx hb d_T_vote_89 rfl hl (by decide) rfl (fun ls hl => ?_)
        replace hl : lv_has ls 3 [(2, .int 2), (0, .ref h0)] := hl
        refine lv_iload_n hx hb d_T_vote_90 rfl (lv_at hl 0 rfl) ?_
        refine lv_iconst (v := (-1)) hx hb d_T_vote_91 (by decide) ?_
        refine lv_icmp_eq (tgt := 108) hx hb d_T_vote_92 rfl (fun hc15 => by first | exact absurd hc15 (by decide) | exact absurd (by decide) hc15) (fun hc15 => ?_)
        refine lv_aload_n hx hb d_T_vote_95 rfl (lv_at hl 1 rfl) ?_
        refine lv_aload_n hx hb d_T_vote_96 rfl (lv_at hl 1 rfl) ?_
        refine va_get (D := (dC, dI)) (ci := 0) (v := .ref a9) (C := "VotedTriple") (T := F_T) (N := 11) hx hb hw in_T hown hK hP 0 rfl rfl 1 (by decide) (hw _ k_195) (fun _ h9 => h9) rfl d_T_vote_97 ?_
        refine lv_iload_n hx hb d_T_vote_100 rfl (lv_at hl 0 rfl) ?_
        refine va_aldq hx hb hK hP 1 0 rfl rfl (by unfold vp_in; decide) d_T_vote_101 ?_
        refine W.eq (g2 := F0 m 102 ls [.ref (da 2), .ref h0]) rfl ?_
        refine va_get (D := (dC, dI)) (ci := 2) (v := .int (F 2 18)) (C := "VotedTriple$VotedModule") (T := F_D) (N := 19) hx hb hw in_D hown hK hP 4 rfl rfl 18 (by decide) (hw _ k_161) (fun _ h9 => h9) rfl d_T_vote_102 ?_
        replace hPc := hP.sub (ws' := [(h0, .inr (0, oT (upc uT 9 ((uT 9) + (1 : Int32))) p9 a9 e9 n9 o9)), (a9, .inl (ca, 3, .inr (.inr (.inr (.inr (mo da)))))), (da 0, .inr (2, oD (F 0) (ra 0) (ka 0))), (da 1, .inr (2, oD (F 1) (ra 1) (ka 1))), (da 2, .inr (2, oD (F 2) (ra 2) (ka 2)))]) [0, 1, 2, 3, 4] rfl
        replace hKc := hK.sub (tys' := [(ca, .object "VotedTriple$VotedModule")]) [0] rfl
        replace hDc := hD.sub (ws' := [(h0, .inr (0, oT (upc uT 9 ((uT 9) + (1 : Int32))) p9 a9 e9 n9 o9)), (a9, .inl (ca, 3, .inr (.inr (.inr (.inr (mo da)))))), (da 0, .inr (2, oD (F 0) (ra 0) (ka 0))), (da 1, .inr (2, oD (F 1) (ra 1) (ka 1))), (da 2, .inr (2, oD (F 2) (ra 2) (ka 2)))]) [0, 1, 2, 3, 4] (by decide) rfl
        replace hFc := va_free (wc := [(h0, .inr (0, oT (upc uT 9 ((uT 9) + (1 : Int32))) p9 a9 e9 n9 o9)), (a9, .inl (ca, 3, .inr (.inr (.inr (.inr (mo da)))))), (da 0, .inr (2, oD (F 0) (ra 0) (ka 0))), (da 1, .inr (2, oD (F 1) (ra 1) (ka 1))), (da 2, .inr (2, oD (F 2) (ra 2) (ka 2)))]) hD hS hA [0, 1, 2, 3, 4] rfl
        refine va_callv (va_runV (C := "VotedTriple") (As := [.int (F 2 18)]) (rest := []) ⟨hx, hb, hml, hown, hw⟩ (c_T_nameAllUnlike l dC dI h0 p9 a9 e9 n9 o9 ca da ra ka (upc uT 9 ((uT 9) + (1 : Int32))) F (F 2 18) hF H.size) (cwV 1 hw (gdV (k_607) (k_604) (k_606) (ks_13) (k_1)) rfl rfl rfl (by decide +kernel) ⟨Nat.le_of_ble_eq_true rfl, Nat.le_of_ble_eq_true rfl⟩) ⟨fun a U g mk q => by obtain ⟨q0, q1, qP, qK, qD⟩ := q; exact ⟨q0, q1, qP, va_K.moved (u := U) (U := U.calling g mk a) (Vm.Alike.refl U.vm) qK, qD⟩, va_recv hK hP rfl (q0 := 0) rfl, fun U hU hW => ⟨rfl, by rw [hU], by rw [hU]; exact hPc, va_K.moved hW.alike hKc, hDc.weaken (fun _ _ _ _ => trivial)⟩⟩ rfl rfl hl.1 rfl (lv_room (Nat.le_of_ble_eq_true rfl)) d_T_vote_105 ⟨Nat.le_of_ble_eq_true rfl, Nat.le_of_ble_eq_true rfl⟩) hS (fun q _ h => hFc q h) hFc (fun u9 t H1 locs ht hvm hr17 hB hz1 hk1 hS => ?_)
        obtain ⟨F218, rfl⟩ : ∃ z, z = u9 := ⟨_, rfl⟩
        obtain ⟨hP1, hK1, hD1⟩ := hB
        rw [ht] at hP1
        replace hK1 := va_K.moved hvm.symm hK1
        try dsimp only at hr17 hP1 hK1 hD1
        obtain ⟨hr17, hr17E⟩ := hr17
        obtain ⟨hPz, hDz⟩ := va_join (wr := []) (w1 := [(h0, .inr (0, oT (upc uT 9 ((uT 9) + (1 : Int32))) p9 a9 e9 n9 o9)), (a9, .inl (ca, 3, .inr (.inr (.inr (.inr (mo da)))))), (da 0, .inr (2, oD (F218 0) (ra 0) (ka 0))), (da 1, .inr (2, oD (F218 1) (ra 1) (ka 1))), (da 2, .inr (2, oD (F218 2) (ra 2) (ka 2)))]) hP hD [0, 1, 2, 3, 4] [] rfl rfl (by decide) (by decide) hk1 hFc hP1 hD1
        clear hP hD hPc hDc hP1 hD1 hFc
        have hP := hPz
        have hD := hDz
        clear hPz hDz
        replace hK := (hK.sub (tys' := []) [] rfl).app hK1
        clear hK1 hKc
        generalize H1 = H at hP hS ⊢
        replace hP : va_P (dC, dI) classes [(h0, .inr (0, oT (upc uT 9 ((uT 9) + (1 : Int32))) p9 a9 e9 n9 o9)), (a9, .inl (ca, 3, .inr (.inr (.inr (.inr (mo da)))))), (da 0, .inr (2, oD (F218 0) (ra 0) (ka 0))), (da 1, .inr (2, oD (F218 1) (ra 1) (ka 1))), (da 2, .inr (2, oD (F218 2) (ra 2) (ka 2)))] H := hP
        replace hD : va_D A [(h0, .inr (0, oT (upc uT 9 ((uT 9) + (1 : Int32))) p9 a9 e9 n9 o9)), (a9, .inl (ca, 3, .inr (.inr (.inr (.inr (mo da)))))), (da 0, .inr (2, oD (F218 0) (ra 0) (ka 0))), (da 1, .inr (2, oD (F218 1) (ra 1) (ka 1))), (da 2, .inr (2, oD (F218 2) (ra 2) (ka 2)))] := hD
        replace hK : va_K (dC, dI) classes [(ca, .object "VotedTriple$VotedModule")] s := hK
        refine W.widen (k := 0) (n := 0) (Nat.le_of_ble_eq_true rfl) (Nat.le_of_ble_eq_true rfl) ?_
        refine lv_iload_n hx hb d_T_vote_108 rfl (lv_at hl 0 rfl) ?_
        have hP9 := hP.sub (ws' := [(h0, .inr (0, oT (upc uT 9 (upc uT 9 ((uT 9) + (1 : Int32)) 9)) p9 a9 e9 n9 o9)), (a9, .inl (ca, 3, .inr (.inr (.inr (.inr (mo da)))))), (da 0, .inr (2, oD (F218 0) (ra 0) (ka 0))), (da 1, .inr (2, oD (F218 1) (ra 1) (ka 1))), (da 2, .inr (2, oD (F218 2) (ra 2) (ka 2)))]) [0, 1, 2, 3, 4] rfl
        have hD9 := hD.sub (ws' := [(h0, .inr (0, oT (upc uT 9 (upc uT 9 ((uT 9) + (1 : Int32)) 9)) p9 a9 e9 n9 o9)), (a9, .inl (ca, 3, .inr (.inr (.inr (.inr (mo da)))))), (da 0, .inr (2, oD (F218 0) (ra 0) (ka 0))), (da 1, .inr (2, oD (F218 1) (ra 1) (ka 1))), (da 2, .inr (2, oD (F218 2) (ra 2) (ka 2)))]) [0, 1, 2, 3, 4] (by decide) rfl
        have hK9 := hK.sub (tys' := [(ca, .object "VotedTriple$VotedModule")]) [0] rfl
        refine W.widen (k := 0) (n := 0) (Nat.le_of_ble_eq_true rfl) (Nat.le_of_ble_eq_true rfl) ?_
        exact W.iret (v := 2) hx hb hr (fun t ht hW => ⟨⟨_, (F218, upc uT 9 ((uT 9) + (1 : Int32)) 9), rfl, ⟨⟨(Or.inr (Or.inr (Or.inr rfl))), hr17⟩, (by rw [hSq0, s_T_vote_cv65]; try (rw [← hr2E, bnd_eq]); try (rw [if_pos rfl]); try (rw [← hr5E, bnd_eq]); try (rw [if_neg (by decide)]); try (rw [if_neg (by decide)]); try (rw [if_neg (by decide)]); try (rw [← hr17E, bnd_eq]); all_goals rfl)⟩, by rw [ht]; exact hP9, va_K.moved hW.alike hK9, hD9⟩, hS.F ht⟩) hS.2.2 d_T_vote_109
    · --  0
      refine lv_istore_n hx hb d_T_vote_79 rfl hl (by decide) rfl (fun ls hl => ?_)
      replace hl : lv_has ls 3 [(2, .int 0), (0, .ref h0)] := hl
      refine lv_iload_n hx hb d_T_vote_80 rfl (lv_at hl 0 rfl) ?_
      refine lv_iconst (v := (-1)) hx hb d_T_vote_81 (by decide) ?_
      refine lv_icmp_ne (tgt := 90) hx hb d_T_vote_82 rfl (fun hc19 => ?_) (fun hc19 => by first | exact absurd (by decide) hc19 | exact absurd hc19 (by decide))
      refine lv_iload_n hx hb d_T_vote_90 rfl (lv_at hl 0 rfl) ?_
      refine lv_iconst (v := (-1)) hx hb d_T_vote_91 (by decide) ?_
      refine lv_icmp_eq (tgt := 108) hx hb d_T_vote_92 rfl (fun hc20 => by first | exact absurd hc20 (by decide) | exact absurd (by decide) hc20) (fun hc20 => ?_)
      refine lv_aload_n hx hb d_T_vote_95 rfl (lv_at hl 1 rfl) ?_
      refine lv_aload_n hx hb d_T_vote_96 rfl (lv_at hl 1 rfl) ?_
      refine va_get (D := (dC, dI)) (ci := 0) (v := .ref a9) (C := "VotedTriple") (T := F_T) (N := 11) hx hb hw in_T hown hK hP 0 rfl rfl 1 (by decide) (hw _ k_195) (fun _ h9 => h9) rfl d_T_vote_97 ?_
      refine lv_iload_n hx hb d_T_vote_100 rfl (lv_at hl 0 rfl) ?_
      refine va_aldq hx hb hK hP 1 0 rfl rfl (by unfold vp_in; decide) d_T_vote_101 ?_
      refine W.eq (g2 := F0 m 102 ls [.ref (da 0), .ref h0]) rfl ?_
      refine va_get (D := (dC, dI)) (ci := 2) (v := .int (F 0 18)) (C := "VotedTriple$VotedModule") (T := F_D) (N := 19) hx hb hw in_D hown hK hP 2 rfl rfl 18 (by decide) (hw _ k_161) (fun _ h9 => h9) rfl d_T_vote_102 ?_
      replace hPc := hP.sub (ws' := [(h0, .inr (0, oT (upc uT 9 ((uT 9) + (1 : Int32))) p9 a9 e9 n9 o9)), (a9, .inl (ca, 3, .inr (.inr (.inr (.inr (mo da)))))), (da 0, .inr (2, oD (F 0) (ra 0) (ka 0))), (da 1, .inr (2, oD (F 1) (ra 1) (ka 1))), (da 2, .inr (2, oD (F 2) (ra 2) (ka 2)))]) [0, 1, 2, 3, 4] rfl
      replace hKc := hK.sub (tys' := [(ca, .object "VotedTriple$VotedModule")]) [0] rfl
      replace hDc := hD.sub (ws' := [(h0, .inr (0, oT (upc uT 9 ((uT 9) + (1 : Int32))) p9 a9 e9 n9 o9)), (a9, .inl (ca, 3, .inr (.inr (.inr (.inr (mo da)))))), (da 0, .inr (2, oD (F 0) (ra 0) (ka 0))), (da 1, .inr (2, oD (F 1) (ra 1) (ka 1))), (da 2, .inr (2, oD (F 2) (ra 2) (ka 2)))]) [0, 1, 2, 3, 4] (by decide) rfl
      replace hFc := va_free (wc := [(h0, .inr (0, oT (upc uT 9 ((uT 9) + (1 : Int32))) p9 a9 e9 n9 o9)), (a9, .inl (ca, 3, .inr (.inr (.inr (.inr (mo da)))))), (da 0, .inr (2, oD (F 0) (ra 0) (ka 0))), (da 1, .inr (2, oD (F 1) (ra 1) (ka 1))), (da 2, .inr (2, oD (F 2) (ra 2) (ka 2)))]) hD hS hA [0, 1, 2, 3, 4] rfl
      refine va_callv (va_runV (C := "VotedTriple") (As := [.int (F 0 18)]) (rest := []) ⟨hx, hb, hml, hown, hw⟩ (c_T_nameAllUnlike l dC dI h0 p9 a9 e9 n9 o9 ca da ra ka (upc uT 9 ((uT 9) + (1 : Int32))) F (F 0 18) hF H.size) (cwV 1 hw (gdV (k_607) (k_604) (k_606) (ks_13) (k_1)) rfl rfl rfl (by decide +kernel) ⟨Nat.le_of_ble_eq_true rfl, Nat.le_of_ble_eq_true rfl⟩) ⟨fun a U g mk q => by obtain ⟨q0, q1, qP, qK, qD⟩ := q; exact ⟨q0, q1, qP, va_K.moved (u := U) (U := U.calling g mk a) (Vm.Alike.refl U.vm) qK, qD⟩, va_recv hK hP rfl (q0 := 0) rfl, fun U hU hW => ⟨rfl, by rw [hU], by rw [hU]; exact hPc, va_K.moved hW.alike hKc, hDc.weaken (fun _ _ _ _ => trivial)⟩⟩ rfl rfl hl.1 rfl (lv_room (Nat.le_of_ble_eq_true rfl)) d_T_vote_105 ⟨Nat.le_of_ble_eq_true rfl, Nat.le_of_ble_eq_true rfl⟩) hS (fun q _ h => hFc q h) hFc (fun u9 t H1 locs ht hvm hr22 hB hz1 hk1 hS => ?_)
      obtain ⟨F223, rfl⟩ : ∃ z, z = u9 := ⟨_, rfl⟩
      obtain ⟨hP1, hK1, hD1⟩ := hB
      rw [ht] at hP1
      replace hK1 := va_K.moved hvm.symm hK1
      try dsimp only at hr22 hP1 hK1 hD1
      obtain ⟨hr22, hr22E⟩ := hr22
      obtain ⟨hPz, hDz⟩ := va_join (wr := []) (w1 := [(h0, .inr (0, oT (upc uT 9 ((uT 9) + (1 : Int32))) p9 a9 e9 n9 o9)), (a9, .inl (ca, 3, .inr (.inr (.inr (.inr (mo da)))))), (da 0, .inr (2, oD (F223 0) (ra 0) (ka 0))), (da 1, .inr (2, oD (F223 1) (ra 1) (ka 1))), (da 2, .inr (2, oD (F223 2) (ra 2) (ka 2)))]) hP hD [0, 1, 2, 3, 4] [] rfl rfl (by decide) (by decide) hk1 hFc hP1 hD1
      clear hP hD hPc hDc hP1 hD1 hFc
      have hP := hPz
      have hD := hDz
      clear hPz hDz
      replace hK := (hK.sub (tys' := []) [] rfl).app hK1
      clear hK1 hKc
      generalize H1 = H at hP hS ⊢
      replace hP : va_P (dC, dI) classes [(h0, .inr (0, oT (upc uT 9 ((uT 9) + (1 : Int32))) p9 a9 e9 n9 o9)), (a9, .inl (ca, 3, .inr (.inr (.inr (.inr (mo da)))))), (da 0, .inr (2, oD (F223 0) (ra 0) (ka 0))), (da 1, .inr (2, oD (F223 1) (ra 1) (ka 1))), (da 2, .inr (2, oD (F223 2) (ra 2) (ka 2)))] H := hP
      replace hD : va_D A [(h0, .inr (0, oT (upc uT 9 ((uT 9) + (1 : Int32))) p9 a9 e9 n9 o9)), (a9, .inl (ca, 3, .inr (.inr (.inr (.inr (mo da)))))), (da 0, .inr (2, oD (F223 0) (ra 0) (ka 0))), (da 1, .inr (2, oD (F223 1) (ra 1) (ka 1))), (da 2, .inr (2, oD (F223 2) (ra 2) (ka 2)))] := hD
      replace hK : va_K (dC, dI) classes [(ca, .object "VotedTriple$VotedModule")] s := hK
      refine W.widen (k := 0) (n := 0) (Nat.le_of_ble_eq_true rfl) (Nat.le_of_ble_eq_true rfl) ?_
      refine lv_iload_n hx hb d_T_vote_108 rfl (lv_at hl 0 rfl) ?_
      have hP9 := hP.sub (ws' := [(h0, .inr (0, oT (upc uT 9 (upc uT 9 ((uT 9) + (1 : Int32)) 9)) p9 a9 e9 n9 o9)), (a9, .inl (ca, 3, .inr (.inr (.inr (.inr (mo da)))))), (da 0, .inr (2, oD (F223 0) (ra 0) (ka 0))), (da 1, .inr (2, oD (F223 1) (ra 1) (ka 1))), (da 2, .inr (2, oD (F223 2) (ra 2) (ka 2)))]) [0, 1, 2, 3, 4] rfl
      have hD9 := hD.sub (ws' := [(h0, .inr (0, oT (upc uT 9 (upc uT 9 ((uT 9) + (1 : Int32)) 9)) p9 a9 e9 n9 o9)), (a9, .inl (ca, 3, .inr (.inr (.inr (.inr (mo da)))))), (da 0, .inr (2, oD (F223 0) (ra 0) (ka 0))), (da 1, .inr (2, oD (F223 1) (ra 1) (ka 1))), (da 2, .inr (2, oD (F223 2) (ra 2) (ka 2)))]) [0, 1, 2, 3, 4] (by decide) rfl
      have hK9 := hK.sub (tys' := [(ca, .object "VotedTriple$VotedModule")]) [0] rfl
      refine W.widen (k := 0) (n := 0) (Nat.le_of_ble_eq_true rfl) (Nat.le_of_ble_eq_true rfl) ?_
      exact W.iret (v := 0) hx hb hr (fun t ht hW => ⟨⟨_, (F223, upc uT 9 ((uT 9) + (1 : Int32)) 9), rfl, ⟨⟨(Or.inr (Or.inl rfl)), hr22⟩, (by rw [hSq0, s_T_vote_cv65]; try (rw [← hr2E, bnd_eq]); try (rw [if_neg (by decide)]); try (rw [if_pos rfl]); try (rw [← hr22E, bnd_eq]); all_goals rfl)⟩, by rw [ht]; exact hP9, va_K.moved hW.alike hK9, hD9⟩, hS.F ht⟩) hS.2.2 d_T_vote_109
    · --  1
      refine lv_istore_n hx hb d_T_vote_79 rfl hl (by decide) rfl (fun ls hl => ?_)
      replace hl : lv_has ls 3 [(2, .int 1), (0, .ref h0)] := hl
      refine lv_iload_n hx hb d_T_vote_80 rfl (lv_at hl 0 rfl) ?_
      refine lv_iconst (v := (-1)) hx hb d_T_vote_81 (by decide) ?_
      refine lv_icmp_ne (tgt := 90) hx hb d_T_vote_82 rfl (fun hc24 => ?_) (fun hc24 => by first | exact absurd (by decide) hc24 | exact absurd hc24 (by decide))
      refine lv_iload_n hx hb d_T_vote_90 rfl (lv_at hl 0 rfl) ?_
      refine lv_iconst (v := (-1)) hx hb d_T_vote_91 (by decide) ?_
      refine lv_icmp_eq (tgt := 108) hx hb d_T_vote_92 rfl (fun hc25 => by first | exact absurd hc25 (by decide) | exact absurd (by decide) hc25) (fun hc25 => ?_)
      refine lv_aload_n hx hb d_T_vote_95 rfl (lv_at hl 1 rfl) ?_
      refine lv_aload_n hx hb d_T_vote_96 rfl (lv_at hl 1 rfl) ?_
      refine va_get (D := (dC, dI)) (ci := 0) (v := .ref a9) (C := "VotedTriple") (T := F_T) (N := 11) hx hb hw in_T hown hK hP 0 rfl rfl 1 (by decide) (hw _ k_195) (fun _ h9 => h9) rfl d_T_vote_97 ?_
      refine lv_iload_n hx hb d_T_vote_100 rfl (lv_at hl 0 rfl) ?_
      refine va_aldq hx hb hK hP 1 0 rfl rfl (by unfold vp_in; decide) d_T_vote_101 ?_
      refine W.eq (g2 := F0 m 102 ls [.ref (da 1), .ref h0]) rfl ?_
      refine va_get (D := (dC, dI)) (ci := 2) (v := .int (F 1 18)) (C := "VotedTriple$VotedModule") (T := F_D) (N := 19) hx hb hw in_D hown hK hP 3 rfl rfl 18 (by decide) (hw _ k_161) (fun _ h9 => h9) rfl d_T_vote_102 ?_
      replace hPc := hP.sub (ws' := [(h0, .inr (0, oT (upc uT 9 ((uT 9) + (1 : Int32))) p9 a9 e9 n9 o9)), (a9, .inl (ca, 3, .inr (.inr (.inr (.inr (mo da)))))), (da 0, .inr (2, oD (F 0) (ra 0) (ka 0))), (da 1, .inr (2, oD (F 1) (ra 1) (ka 1))), (da 2, .inr (2, oD (F 2) (ra 2) (ka 2)))]) [0, 1, 2, 3, 4] rfl
      replace hKc := hK.sub (tys' := [(ca, .object "VotedTriple$VotedModule")]) [0] rfl
      replace hDc := hD.sub (ws' := [(h0, .inr (0, oT (upc uT 9 ((uT 9) + (1 : Int32))) p9 a9 e9 n9 o9)), (a9, .inl (ca, 3, .inr (.inr (.inr (.inr (mo da)))))), (da 0, .inr (2, oD (F 0) (ra 0) (ka 0))), (da 1, .inr (2, oD (F 1) (ra 1) (ka 1))), (da 2, .inr (2, oD (F 2) (ra 2) (ka 2)))]) [0, 1, 2, 3, 4] (by decide) rfl
      replace hFc := va_free (wc := [(h0, .inr (0, oT (upc uT 9 ((uT 9) + (1 : Int32))) p9 a9 e9 n9 o9)), (a9, .inl (ca, 3, .inr (.inr (.inr (.inr (mo da)))))), (da 0, .inr (2, oD (F 0) (ra 0) (ka 0))), (da 1, .inr (2, oD (F 1) (ra 1) (ka 1))), (da 2, .inr (2, oD (F 2) (ra 2) (ka 2)))]) hD hS hA [0, 1, 2, 3, 4] rfl
      refine va_callv (va_runV (C := "VotedTriple") (As := [.int (F 1 18)]) (rest := []) ⟨hx, hb, hml, hown, hw⟩ (c_T_nameAllUnlike l dC dI h0 p9 a9 e9 n9 o9 ca da ra ka (upc uT 9 ((uT 9) + (1 : Int32))) F (F 1 18) hF H.size) (cwV 1 hw (gdV (k_607) (k_604) (k_606) (ks_13) (k_1)) rfl rfl rfl (by decide +kernel) ⟨Nat.le_of_ble_eq_true rfl, Nat.le_of_ble_eq_true rfl⟩) ⟨fun a U g mk q => by obtain ⟨q0, q1, qP, qK, qD⟩ := q; exact ⟨q0, q1, qP, va_K.moved (u := U) (U := U.calling g mk a) (Vm.Alike.refl U.vm) qK, qD⟩, va_recv hK hP rfl (q0 := 0) rfl, fun U hU hW => ⟨rfl, by rw [hU], by rw [hU]; exact hPc, va_K.moved hW.alike hKc, hDc.weaken (fun _ _ _ _ => trivial)⟩⟩ rfl rfl hl.1 rfl (lv_room (Nat.le_of_ble_eq_true rfl)) d_T_vote_105 ⟨Nat.le_of_ble_eq_true rfl, Nat.le_of_ble_eq_true rfl⟩) hS (fun q _ h => hFc q h) hFc (fun u9 t H1 locs ht hvm hr27 hB hz1 hk1 hS => ?_)
      obtain ⟨F228, rfl⟩ : ∃ z, z = u9 := ⟨_, rfl⟩
      obtain ⟨hP1, hK1, hD1⟩ := hB
      rw [ht] at hP1
      replace hK1 := va_K.moved hvm.symm hK1
      try dsimp only at hr27 hP1 hK1 hD1
      obtain ⟨hr27, hr27E⟩ := hr27
      obtain ⟨hPz, hDz⟩ := va_join (wr := []) (w1 := [(h0, .inr (0, oT (upc uT 9 ((uT 9) + (1 : Int32))) p9 a9 e9 n9 o9)), (a9, .inl (ca, 3, .inr (.inr (.inr (.inr (mo da)))))), (da 0, .inr (2, oD (F228 0) (ra 0) (ka 0))), (da 1, .inr (2, oD (F228 1) (ra 1) (ka 1))), (da 2, .inr (2, oD (F228 2) (ra 2) (ka 2)))]) hP hD [0, 1, 2, 3, 4] [] rfl rfl (by decide) (by decide) hk1 hFc hP1 hD1
      clear hP hD hPc hDc hP1 hD1 hFc
      have hP := hPz
      have hD := hDz
      clear hPz hDz
      replace hK := (hK.sub (tys' := []) [] rfl).app hK1
      clear hK1 hKc
      generalize H1 = H at hP hS ⊢
      replace hP : va_P (dC, dI) classes [(h0, .inr (0, oT (upc uT 9 ((uT 9) + (1 : Int32))) p9 a9 e9 n9 o9)), (a9, .inl (ca, 3, .inr (.inr (.inr (.inr (mo da)))))), (da 0, .inr (2, oD (F228 0) (ra 0) (ka 0))), (da 1, .inr (2, oD (F228 1) (ra 1) (ka 1))), (da 2, .inr (2, oD (F228 2) (ra 2) (ka 2)))] H := hP
      replace hD : va_D A [(h0, .inr (0, oT (upc uT 9 ((uT 9) + (1 : Int32))) p9 a9 e9 n9 o9)), (a9, .inl (ca, 3, .inr (.inr (.inr (.inr (mo da)))))), (da 0, .inr (2, oD (F228 0) (ra 0) (ka 0))), (da 1, .inr (2, oD (F228 1) (ra 1) (ka 1))), (da 2, .inr (2, oD (F228 2) (ra 2) (ka 2)))] := hD
      replace hK : va_K (dC, dI) classes [(ca, .object "VotedTriple$VotedModule")] s := hK
      refine W.widen (k := 0) (n := 0) (Nat.le_of_ble_eq_true rfl) (Nat.le_of_ble_eq_true rfl) ?_
      refine lv_iload_n hx hb d_T_vote_108 rfl (lv_at hl 0 rfl) ?_
      have hP9 := hP.sub (ws' := [(h0, .inr (0, oT (upc uT 9 (upc uT 9 ((uT 9) + (1 : Int32)) 9)) p9 a9 e9 n9 o9)), (a9, .inl (ca, 3, .inr (.inr (.inr (.inr (mo da)))))), (da 0, .inr (2, oD (F228 0) (ra 0) (ka 0))), (da 1, .inr (2, oD (F228 1) (ra 1) (ka 1))), (da 2, .inr (2, oD (F228 2) (ra 2) (ka 2)))]) [0, 1, 2, 3, 4] rfl
      have hD9 := hD.sub (ws' := [(h0, .inr (0, oT (upc uT 9 (upc uT 9 ((uT 9) + (1 : Int32)) 9)) p9 a9 e9 n9 o9)), (a9, .inl (ca, 3, .inr (.inr (.inr (.inr (mo da)))))), (da 0, .inr (2, oD (F228 0) (ra 0) (ka 0))), (da 1, .inr (2, oD (F228 1) (ra 1) (ka 1))), (da 2, .inr (2, oD (F228 2) (ra 2) (ka 2)))]) [0, 1, 2, 3, 4] (by decide) rfl
      have hK9 := hK.sub (tys' := [(ca, .object "VotedTriple$VotedModule")]) [0] rfl
      refine W.widen (k := 0) (n := 0) (Nat.le_of_ble_eq_true rfl) (Nat.le_of_ble_eq_true rfl) ?_
      exact W.iret (v := 1) hx hb hr (fun t ht hW => ⟨⟨_, (F228, upc uT 9 ((uT 9) + (1 : Int32)) 9), rfl, ⟨⟨(Or.inr (Or.inr (Or.inl rfl))), hr27⟩, (by rw [hSq0, s_T_vote_cv65]; try (rw [← hr2E, bnd_eq]); try (rw [if_neg (by decide)]); try (rw [if_neg (by decide)]); try (rw [if_pos rfl]); try (rw [← hr27E, bnd_eq]); all_goals rfl)⟩, by rw [ht]; exact hP9, va_K.moved hW.alike hK9, hD9⟩, hS.F ht⟩) hS.2.2 d_T_vote_109
    · --  2
      refine lv_istore_n hx hb d_T_vote_79 rfl hl (by decide) rfl (fun ls hl => ?_)
      replace hl : lv_has ls 3 [(2, .int 2), (0, .ref h0)] := hl
      refine lv_iload_n hx hb d_T_vote_80 rfl (lv_at hl 0 rfl) ?_
      refine lv_iconst (v := (-1)) hx hb d_T_vote_81 (by decide) ?_
      refine lv_icmp_ne (tgt := 90) hx hb d_T_vote_82 rfl (fun hc29 => ?_) (fun hc29 => by first | exact absurd (by decide) hc29 | exact absurd hc29 (by decide))
      refine lv_iload_n hx hb d_T_vote_90 rfl (lv_at hl 0 rfl) ?_
      refine lv_iconst (v := (-1)) hx hb d_T_vote_91 (by decide) ?_
      refine lv_icmp_eq (tgt := 108) hx hb d_T_vote_92 rfl (fun hc30 => by first | exact absurd hc30 (by decide) | exact absurd (by decide) hc30) (fun hc30 => ?_)
      refine lv_aload_n hx hb d_T_vote_95 rfl (lv_at hl 1 rfl) ?_
      refine lv_aload_n hx hb d_T_vote_96 rfl (lv_at hl 1 rfl) ?_
      refine va_get (D := (dC, dI)) (ci := 0) (v := .ref a9) (C := "VotedTriple") (T := F_T) (N := 11) hx hb hw in_T hown hK hP 0 rfl rfl 1 (by decide) (hw _ k_195) (fun _ h9 => h9) rfl d_T_vote_97 ?_
      refine lv_iload_n hx hb d_T_vote_100 rfl (lv_at hl 0 rfl) ?_
      refine va_aldq hx hb hK hP 1 0 rfl rfl (by unfold vp_in; decide) d_T_vote_101 ?_
      refine W.eq (g2 := F0 m 102 ls [.ref (da 2), .ref h0]) rfl ?_
      refine va_get (D := (dC, dI)) (ci := 2) (v := .int (F 2 18)) (C := "VotedTriple$VotedModule") (T := F_D) (N := 19) hx hb hw in_D hown hK hP 4 rfl rfl 18 (by decide) (hw _ k_161) (fun _ h9 => h9) rfl d_T_vote_102 ?_
      replace hPc := hP.sub (ws' := [(h0, .inr (0, oT (upc uT 9 ((uT 9) + (1 : Int32))) p9 a9 e9 n9 o9)), (a9, .inl (ca, 3, .inr (.inr (.inr (.inr (mo da)))))), (da 0, .inr (2, oD (F 0) (ra 0) (ka 0))), (da 1, .inr (2, oD (F 1) (ra 1) (ka 1))), (da 2, .inr (2, oD (F 2) (ra 2) (ka 2)))]) [0, 1, 2, 3, 4] rfl
      replace hKc := hK.sub (tys' := [(ca, .object "VotedTriple$VotedModule")]) [0] rfl
      replace hDc := hD.sub (ws' := [(h0, .inr (0, oT (upc uT 9 ((uT 9) + (1 : Int32))) p9 a9 e9 n9 o9)), (a9, .inl (ca, 3, .inr (.inr (.inr (.inr (mo da)))))), (da 0, .inr (2, oD (F 0) (ra 0) (ka 0))), (da 1, .inr (2, oD (F 1) (ra 1) (ka 1))), (da 2, .inr (2, oD (F 2) (ra 2) (ka 2)))]) [0, 1, 2, 3, 4] (by decide) rfl
      replace hFc := va_free (wc := [(h0, .inr (0, oT (upc uT 9 ((uT 9) + (1 : Int32))) p9 a9 e9 n9 o9)), (a9, .inl (ca, 3, .inr (.inr (.inr (.inr (mo da)))))), (da 0, .inr (2, oD (F 0) (ra 0) (ka 0))), (da 1, .inr (2, oD (F 1) (ra 1) (ka 1))), (da 2, .inr (2, oD (F 2) (ra 2) (ka 2)))]) hD hS hA [0, 1, 2, 3, 4] rfl
      refine va_callv (va_runV (C := "VotedTriple") (As := [.int (F 2 18)]) (rest := []) ⟨hx, hb, hml, hown, hw⟩ (c_T_nameAllUnlike l dC dI h0 p9 a9 e9 n9 o9 ca da ra ka (upc uT 9 ((uT 9) + (1 : Int32))) F (F 2 18) hF H.size) (cwV 1 hw (gdV (k_607) (k_604) (k_606) (ks_13) (k_1)) rfl rfl rfl (by decide +kernel) ⟨Nat.le_of_ble_eq_true rfl, Nat.le_of_ble_eq_true rfl⟩) ⟨fun a U g mk q => by obtain ⟨q0, q1, qP, qK, qD⟩ := q; exact ⟨q0, q1, qP, va_K.moved (u := U) (U := U.calling g mk a) (Vm.Alike.refl U.vm) qK, qD⟩, va_recv hK hP rfl (q0 := 0) rfl, fun U hU hW => ⟨rfl, by rw [hU], by rw [hU]; exact hPc, va_K.moved hW.alike hKc, hDc.weaken (fun _ _ _ _ => trivial)⟩⟩ rfl rfl hl.1 rfl (lv_room (Nat.le_of_ble_eq_true rfl)) d_T_vote_105 ⟨Nat.le_of_ble_eq_true rfl, Nat.le_of_ble_eq_true rfl⟩) hS (fun q _ h => hFc q h) hFc (fun u9 t H1 locs ht hvm hr32 hB hz1 hk1 hS => ?_)
      obtain ⟨F233, rfl⟩ : ∃ z, z = u9 := ⟨_, rfl⟩
      obtain ⟨hP1, hK1, hD1⟩ := hB
      rw [ht] at hP1
      replace hK1 := va_K.moved hvm.symm hK1
      try dsimp only at hr32 hP1 hK1 hD1
      obtain ⟨hr32, hr32E⟩ := hr32
      obtain ⟨hPz, hDz⟩ := va_join (wr := []) (w1 := [(h0, .inr (0, oT (upc uT 9 ((uT 9) + (1 : Int32))) p9 a9 e9 n9 o9)), (a9, .inl (ca, 3, .inr (.inr (.inr (.inr (mo da)))))), (da 0, .inr (2, oD (F233 0) (ra 0) (ka 0))), (da 1, .inr (2, oD (F233 1) (ra 1) (ka 1))), (da 2, .inr (2, oD (F233 2) (ra 2) (ka 2)))]) hP hD [0, 1, 2, 3, 4] [] rfl rfl (by decide) (by decide) hk1 hFc hP1 hD1
      clear hP hD hPc hDc hP1 hD1 hFc
      have hP := hPz
      have hD := hDz
      clear hPz hDz
      replace hK := (hK.sub (tys' := []) [] rfl).app hK1
      clear hK1 hKc
      generalize H1 = H at hP hS ⊢
      replace hP : va_P (dC, dI) classes [(h0, .inr (0, oT (upc uT 9 ((uT 9) + (1 : Int32))) p9 a9 e9 n9 o9)), (a9, .inl (ca, 3, .inr (.inr (.inr (.inr (mo da)))))), (da 0, .inr (2, oD (F233 0) (ra 0) (ka 0))), (da 1, .inr (2, oD (F233 1) (ra 1) (ka 1))), (da 2, .inr (2, oD (F233 2) (ra 2) (ka 2)))] H := hP
      replace hD : va_D A [(h0, .inr (0, oT (upc uT 9 ((uT 9) + (1 : Int32))) p9 a9 e9 n9 o9)), (a9, .inl (ca, 3, .inr (.inr (.inr (.inr (mo da)))))), (da 0, .inr (2, oD (F233 0) (ra 0) (ka 0))), (da 1, .inr (2, oD (F233 1) (ra 1) (ka 1))), (da 2, .inr (2, oD (F233 2) (ra 2) (ka 2)))] := hD
      replace hK : va_K (dC, dI) classes [(ca, .object "VotedTriple$VotedModule")] s := hK
      refine W.widen (k := 0) (n := 0) (Nat.le_of_ble_eq_true rfl) (Nat.le_of_ble_eq_true rfl) ?_
      refine lv_iload_n hx hb d_T_vote_108 rfl (lv_at hl 0 rfl) ?_
      have hP9 := hP.sub (ws' := [(h0, .inr (0, oT (upc uT 9 (upc uT 9 ((uT 9) + (1 : Int32)) 9)) p9 a9 e9 n9 o9)), (a9, .inl (ca, 3, .inr (.inr (.inr (.inr (mo da)))))), (da 0, .inr (2, oD (F233 0) (ra 0) (ka 0))), (da 1, .inr (2, oD (F233 1) (ra 1) (ka 1))), (da 2, .inr (2, oD (F233 2) (ra 2) (ka 2)))]) [0, 1, 2, 3, 4] rfl
      have hD9 := hD.sub (ws' := [(h0, .inr (0, oT (upc uT 9 (upc uT 9 ((uT 9) + (1 : Int32)) 9)) p9 a9 e9 n9 o9)), (a9, .inl (ca, 3, .inr (.inr (.inr (.inr (mo da)))))), (da 0, .inr (2, oD (F233 0) (ra 0) (ka 0))), (da 1, .inr (2, oD (F233 1) (ra 1) (ka 1))), (da 2, .inr (2, oD (F233 2) (ra 2) (ka 2)))]) [0, 1, 2, 3, 4] (by decide) rfl
      have hK9 := hK.sub (tys' := [(ca, .object "VotedTriple$VotedModule")]) [0] rfl
      refine W.widen (k := 0) (n := 0) (Nat.le_of_ble_eq_true rfl) (Nat.le_of_ble_eq_true rfl) ?_
      exact W.iret (v := 2) hx hb hr (fun t ht hW => ⟨⟨_, (F233, upc uT 9 ((uT 9) + (1 : Int32)) 9), rfl, ⟨⟨(Or.inr (Or.inr (Or.inr rfl))), hr32⟩, (by rw [hSq0, s_T_vote_cv65]; try (rw [← hr2E, bnd_eq]); try (rw [if_neg (by decide)]); try (rw [if_neg (by decide)]); try (rw [if_neg (by decide)]); try (rw [← hr32E, bnd_eq]); all_goals rfl)⟩, by rw [ht]; exact hP9, va_K.moved hW.alike hK9, hD9⟩, hS.F ht⟩) hS.2.2 d_T_vote_109
  have cut14_3 : ∀ (F : Nat → Nat → Int32) (w1 : Int32) (ls : Array Slot) (H : Heap) (locs : List Loc), f3 F → (w1 = 0 ∨ w1 = 1 ∨ w1 = 2) → SP = s_T_vote_cut14_3 uT F w1 →  lv_has ls 3 [(0, .ref h0), (1, .int w1), (2, .int 3)] → va_P (dC, dI) classes [(h0, .inr (0, oT uT p9 a9 e9 n9 o9)), (a9, .inl (ca, 3, .inr (.inr (.inr (.inr (mo da)))))), (da 0, .inr (2, oD (F 0) (ra 0) (ka 0))), (da 1, .inr (2, oD (F 1) (ra 1) (ka 1))), (da 2, .inr (2, oD (F 2) (ra 2) (ka 2)))] H → va_D A [(h0, .inr (0, oT uT p9 a9 e9 n9 o9)), (a9, .inl (ca, 3, .inr (.inr (.inr (.inr (mo da)))))), (da 0, .inr (2, oD (F 0) (ra 0) (ka 0))), (da 1, .inr (2, oD (F 1) (ra 1) (ka 1))), (da 2, .inr (2, oD (F 2) (ra 2) (ka 2)))] → va_S A s.heap H locs → W p l e (headSpec (tbw y_T_vote b_T_vote 3 (some .int)) ({ frames := 3, cells := 0, slots := 0, locals := 65 })).room s m ([.ref h0] : List Value).toArray below meth c H locs 0 0 (MQ below (va_Qi (fun (r : Int32) (u9 : (Nat → Nat → Int32) × Int32) => match u9 with | (F2, y9) => (i012 r ∧ f3 F2) ∧ (r, F2, y9) = SP) (fun (u9 : (Nat → Nat → Int32) × Int32) t => match u9 with | (F2, y9) => va_P (dC, dI) classes [(h0, .inr (0, oT (upc uT 9 y9) p9 a9 e9 n9 o9)), (a9, .inl (ca, 3, .inr (.inr (.inr (.inr (mo da)))))), (da 0, .inr (2, oD (F2 0) (ra 0) (ka 0))), (da 1, .inr (2, oD (F2 1) (ra 1) (ka 1))), (da 2, .inr (2, oD (F2 2) (ra 2) (ka 2)))] t.heap ∧ va_K (dC, dI) classes [(ca, .object "VotedTriple$VotedModule")] t ∧ va_D A [(h0, .inr (0, oT (upc uT 9 y9) p9 a9 e9 n9 o9)), (a9, .inl (ca, 3, .inr (.inr (.inr (.inr (mo da)))))), (da 0, .inr (2, oD (F2 0) (ra 0) (ka 0))), (da 1, .inr (2, oD (F2 1) (ra 1) (ka 1))), (da 2, .inr (2, oD (F2 2) (ra 2) (ka 2)))]) A) ([.ref h0] : List Value).toArray s 0 0 A) (F0 m 14 ls []) := by
    intro F w1 ls H locs hF h19 hSq0 hl hP hD hS
    refine lv_iload_n hx hb d_T_vote_14 rfl (lv_at hl 2 rfl) ?_
    refine lv_iconst (v := 3) hx hb d_T_vote_15 (by decide) ?_
    refine lv_icmp_ge (tgt := 43) hx hb d_T_vote_16 rfl (fun hc34 => ?_) (fun hc34 => by first | exact absurd (by decide) hc34 | exact absurd hc34 (by decide))
    rcases h19 with rfl | rfl | rfl
    · --  0
      refine lv_aload_n hx hb d_T_vote_43 rfl (lv_at hl 0 rfl) ?_
      refine lv_aload_n hx hb d_T_vote_44 rfl (lv_at hl 0 rfl) ?_
      refine va_get (D := (dC, dI)) (ci := 0) (v := .ref a9) (C := "VotedTriple") (T := F_T) (N := 11) hx hb hw in_T hown hK hP 0 rfl rfl 1 (by decide) (hw _ k_195) (fun _ h9 => h9) rfl d_T_vote_45 ?_
      refine lv_iload_n hx hb d_T_vote_48 rfl (lv_at hl 1 rfl) ?_
      refine va_aldq hx hb hK hP 1 0 rfl rfl (by unfold vp_in; decide) d_T_vote_49 ?_
      refine W.eq (g2 := F0 m 50 ls [.ref (da 0), .ref h0]) rfl ?_
      refine va_get (D := (dC, dI)) (ci := 2) (v := .int (F 0 18)) (C := "VotedTriple$VotedModule") (T := F_D) (N := 19) hx hb hw in_D hown hK hP 2 rfl rfl 18 (by decide) (hw _ k_161) (fun _ h9 => h9) rfl d_T_vote_50 ?_
      replace hPc := hP.sub (ws' := [(h0, .inr (0, oT uT p9 a9 e9 n9 o9)), (a9, .inl (ca, 3, .inr (.inr (.inr (.inr (mo da)))))), (da 0, .inr (2, oD (F 0) (ra 0) (ka 0))), (da 1, .inr (2, oD (F 1) (ra 1) (ka 1))), (da 2, .inr (2, oD (F 2) (ra 2) (ka 2)))]) [0, 1, 2, 3, 4] rfl
      replace hKc := hK.sub (tys' := [(ca, .object "VotedTriple$VotedModule")]) [0] rfl
      refine vp_callSi (va_runV (C := "VotedTriple") (As := [.int (F 0 18)]) (rest := []) ⟨hx, hb, hml, hown, hw⟩ (c_T_countBallots l dC dI h0 p9 a9 e9 n9 o9 ca da ra ka uT F (F 0 18)) (cwV 1 hw (gdV (k_591) (k_588) (k_590) (ks_9) (k_1)) rfl rfl rfl (by decide +kernel) ⟨Nat.le_of_ble_eq_true rfl, Nat.le_of_ble_eq_true rfl⟩) ⟨fun a U g mk q => ⟨q.1, q.2.1, va_K.moved (u := U) (U := U.calling g mk a) (Vm.Alike.refl U.vm) q.2.2⟩, va_recv hK hP rfl (q0 := 0) rfl, fun U hU hW => ⟨rfl, by rw [hU]; exact hPc, va_K.moved hW.alike hKc⟩⟩ rfl rfl hl.1 rfl (lv_room (Nat.le_of_ble_eq_true rfl)) d_T_vote_53 ⟨Nat.le_of_ble_eq_true rfl, Nat.le_of_ble_eq_true rfl⟩).run (fun r35 hr36 => ?_)
      obtain ⟨hr36, hr36E⟩ := hr36
      refine lv_aload_n hx hb d_T_vote_56 rfl (lv_at hl 0 rfl) ?_
      replace hPc := hP.sub (ws' := [(h0, .inr (0, oT uT p9 a9 e9 n9 o9)), (a9, .inl (ca, 3, .inr (.inr (.inr (.inr (mo da)))))), (da 0, .inr (2, oD (F 0) (ra 0) (ka 0))), (da 1, .inr (2, oD (F 1) (ra 1) (ka 1))), (da 2, .inr (2, oD (F 2) (ra 2) (ka 2)))]) [0, 1, 2, 3, 4] rfl
      replace hKc := hK.sub (tys' := [(ca, .object "VotedTriple$VotedModule")]) [0] rfl
      refine vp_callSi (va_runV (C := "VotedTriple") (As := []) (rest := [.int r35]) ⟨hx, hb, hml, hown, hw⟩ (c_T_countTrusted l dC dI h0 p9 a9 e9 n9 o9 ca da ra ka uT F) (cwV 0 hw (gdV (k_595) (k_592) (k_594) (ks_10) (k_1)) rfl rfl rfl (by decide +kernel) ⟨Nat.le_of_ble_eq_true rfl, Nat.le_of_ble_eq_true rfl⟩) ⟨fun a U g mk q => ⟨q.1, q.2.1, va_K.moved (u := U) (U := U.calling g mk a) (Vm.Alike.refl U.vm) q.2.2⟩, va_recv hK hP rfl (q0 := 0) rfl, fun U hU hW => ⟨rfl, by rw [hU]; exact hPc, va_K.moved hW.alike hKc⟩⟩ rfl rfl hl.1 rfl (lv_room (Nat.le_of_ble_eq_true rfl)) d_T_vote_57 ⟨Nat.le_of_ble_eq_true rfl, Nat.le_of_ble_eq_true rfl⟩).run (fun r37 hr38 => ?_)
      obtain ⟨hr38, hr38E⟩ := hr38
      refine lv_icmp_ne (tgt := 65) hx hb d_T_vote_60 rfl (fun hc39 => ?_) (fun hc39 => ?_)
      · --  ¬ r35 = r37
        have hSq : SP = s_T_vote_cv65 uT F := by rw [hSq0, s_T_vote_cut14_3]; try (rw [if_pos rfl]); try (rw [← hr36E, bnd_eq]); try (rw [← hr38E, bnd_eq]); try (rw [if_neg hc39]); all_goals rfl
        replace hl := lv_sub hl (l' := [(0, .ref h0)]) [0] rfl
        replace hP := hP.sub (ws' := [(h0, .inr (0, oT uT p9 a9 e9 n9 o9)), (a9, .inl (ca, 3, .inr (.inr (.inr (.inr (mo da)))))), (da 0, .inr (2, oD (F 0) (ra 0) (ka 0))), (da 1, .inr (2, oD (F 1) (ra 1) (ka 1))), (da 2, .inr (2, oD (F 2) (ra 2) (ka 2)))]) [0, 1, 2, 3, 4] rfl
        replace hD := hD.sub (ws' := [(h0, .inr (0, oT uT p9 a9 e9 n9 o9)), (a9, .inl (ca, 3, .inr (.inr (.inr (.inr (mo da)))))), (da 0, .inr (2, oD (F 0) (ra 0) (ka 0))), (da 1, .inr (2, oD (F 1) (ra 1) (ka 1))), (da 2, .inr (2, oD (F 2) (ra 2) (ka 2)))]) [0, 1, 2, 3, 4] (by decide) rfl
        exact cv65 F _ _ _ hF hSq hl hP hD hS
      · --  r35 = r37
        refine lv_iload_n hx hb d_T_vote_63 rfl (lv_at hl 1 rfl) ?_
        have hP9 := hP.sub (ws' := [(h0, .inr (0, oT (upc uT 9 (uT 9)) p9 a9 e9 n9 o9)), (a9, .inl (ca, 3, .inr (.inr (.inr (.inr (mo da)))))), (da 0, .inr (2, oD (F 0) (ra 0) (ka 0))), (da 1, .inr (2, oD (F 1) (ra 1) (ka 1))), (da 2, .inr (2, oD (F 2) (ra 2) (ka 2)))]) [0, 1, 2, 3, 4] rfl
        have hD9 := hD.sub (ws' := [(h0, .inr (0, oT (upc uT 9 (uT 9)) p9 a9 e9 n9 o9)), (a9, .inl (ca, 3, .inr (.inr (.inr (.inr (mo da)))))), (da 0, .inr (2, oD (F 0) (ra 0) (ka 0))), (da 1, .inr (2, oD (F 1) (ra 1) (ka 1))), (da 2, .inr (2, oD (F 2) (ra 2) (ka 2)))]) [0, 1, 2, 3, 4] (by decide) rfl
        have hK9 := hK.sub (tys' := [(ca, .object "VotedTriple$VotedModule")]) [0] rfl
        refine W.widen (k := 0) (n := 0) (Nat.le_of_ble_eq_true rfl) (Nat.le_of_ble_eq_true rfl) ?_
        exact W.iret (v := 0) hx hb hr (fun t ht hW => ⟨⟨_, (F, uT 9), rfl, ⟨⟨(Or.inr (Or.inl rfl)), hF⟩, (by rw [hSq0, s_T_vote_cut14_3]; try (rw [if_pos rfl]); try (rw [← hr36E, bnd_eq]); try (rw [← hr38E, bnd_eq]); try (rw [if_pos hc39]); all_goals rfl)⟩, by rw [ht]; exact hP9, va_K.moved hW.alike hK9, hD9⟩, hS.F ht⟩) hS.2.2 d_T_vote_64
    · --  1
      refine lv_aload_n hx hb d_T_vote_43 rfl (lv_at hl 0 rfl) ?_
      refine lv_aload_n hx hb d_T_vote_44 rfl (lv_at hl 0 rfl) ?_
      refine va_get (D := (dC, dI)) (ci := 0) (v := .ref a9) (C := "VotedTriple") (T := F_T) (N := 11) hx hb hw in_T hown hK hP 0 rfl rfl 1 (by decide) (hw _ k_195) (fun _ h9 => h9) rfl d_T_vote_45 ?_
      refine lv_iload_n hx hb d_T_vote_48 rfl (lv_at hl 1 rfl) ?_
      refine va_aldq hx hb hK hP 1 0 rfl rfl (by unfold vp_in; decide) d_T_vote_49 ?_
      refine W.eq (g2 := F0 m 50 ls [.ref (da 1), .ref h0]) rfl ?_
      refine va_get (D := (dC, dI)) (ci := 2) (v := .int (F 1 18)) (C := "VotedTriple$VotedModule") (T := F_D) (N := 19) hx hb hw in_D hown hK hP 3 rfl rfl 18 (by decide) (hw _ k_161) (fun _ h9 => h9) rfl d_T_vote_50 ?_
      replace hPc := hP.sub (ws' := [(h0, .inr (0, oT uT p9 a9 e9 n9 o9)), (a9, .inl (ca, 3, .inr (.inr (.inr (.inr (mo da)))))), (da 0, .inr (2, oD (F 0) (ra 0) (ka 0))), (da 1, .inr (2, oD (F 1) (ra 1) (ka 1))), (da 2, .inr (2, oD (F 2) (ra 2) (ka 2)))]) [0, 1, 2, 3, 4] rfl
      replace hKc := hK.sub (tys' := [(ca, .object "VotedTriple$VotedModule")]) [0] rfl
      refine vp_callSi (va_runV (C := "VotedTriple") (As := [.int (F 1 18)]) (rest := []) ⟨hx, hb, hml, hown, hw⟩ (c_T_countBallots l dC dI h0 p9 a9 e9 n9 o9 ca da ra ka uT F (F 1 18)) (cwV 1 hw (gdV (k_591) (k_588) (k_590) (ks_9) (k_1)) rfl rfl rfl (by decide +kernel) ⟨Nat.le_of_ble_eq_true rfl, Nat.le_of_ble_eq_true rfl⟩) ⟨fun a U g mk q => ⟨q.1, q.2.1, va_K.moved (u := U) (U := U.calling g mk a) (Vm.Alike.refl U.vm) q.2.2⟩, va_recv hK hP rfl (q0 := 0) rfl, fun U hU hW => ⟨rfl, by rw [hU]; exact hPc, va_K.moved hW.alike hKc⟩⟩ rfl rfl hl.1 rfl (lv_room (Nat.le_of_ble_eq_true rfl)) d_T_vote_53 ⟨Nat.le_of_ble_eq_true rfl, Nat.le_of_ble_eq_true rfl⟩).run (fun r40 hr41 => ?_)
      obtain ⟨hr41, hr41E⟩ := hr41
      refine lv_aload_n hx hb d_T_vote_56 rfl (lv_at hl 0 rfl) ?_
      replace hPc := hP.sub (ws' := [(h0, .inr (0, oT uT p9 a9 e9 n9 o9)), (a9, .inl (ca, 3, .inr (.inr (.inr (.inr (mo da)))))), (da 0, .inr (2, oD (F 0) (ra 0) (ka 0))), (da 1, .inr (2, oD (F 1) (ra 1) (ka 1))), (da 2, .inr (2, oD (F 2) (ra 2) (ka 2)))]) [0, 1, 2, 3, 4] rfl
      replace hKc := hK.sub (tys' := [(ca, .object "VotedTriple$VotedModule")]) [0] rfl
      refine vp_callSi (va_runV (C := "VotedTriple") (As := []) (rest := [.int r40]) ⟨hx, hb, hml, hown, hw⟩ (c_T_countTrusted l dC dI h0 p9 a9 e9 n9 o9 ca da ra ka uT F) (cwV 0 hw (gdV (k_595) (k_592) (k_594) (ks_10) (k_1)) rfl rfl rfl (by decide +kernel) ⟨Nat.le_of_ble_eq_true rfl, Nat.le_of_ble_eq_true rfl⟩) ⟨fun a U g mk q => ⟨q.1, q.2.1, va_K.moved (u := U) (U := U.calling g mk a) (Vm.Alike.refl U.vm) q.2.2⟩, va_recv hK hP rfl (q0 := 0) rfl, fun U hU hW => ⟨rfl, by rw [hU]; exact hPc, va_K.moved hW.alike hKc⟩⟩ rfl rfl hl.1 rfl (lv_room (Nat.le_of_ble_eq_true rfl)) d_T_vote_57 ⟨Nat.le_of_ble_eq_true rfl, Nat.le_of_ble_eq_true rfl⟩).run (fun r42 hr43 => ?_)
      obtain ⟨hr43, hr43E⟩ := hr43
      refine lv_icmp_ne (tgt := 65) hx hb d_T_vote_60 rfl (fun hc44 => ?_) (fun hc44 => ?_)
      · --  ¬ r40 = r42
        have hSq : SP = s_T_vote_cv65 uT F := by rw [hSq0, s_T_vote_cut14_3]; try (rw [if_neg (by decide)]); try (rw [if_pos rfl]); try (rw [← hr41E, bnd_eq]); try (rw [← hr43E, bnd_eq]); try (rw [if_neg hc44]); all_goals rfl
        replace hl := lv_sub hl (l' := [(0, .ref h0)]) [0] rfl
        replace hP := hP.sub (ws' := [(h0, .inr (0, oT uT p9 a9 e9 n9 o9)), (a9, .inl (ca, 3, .inr (.inr (.inr (.inr (mo da)))))), (da 0, .inr (2, oD (F 0) (ra 0) (ka 0))), (da 1, .inr (2, oD (F 1) (ra 1) (ka 1))), (da 2, .inr (2, oD (F 2) (ra 2) (ka 2)))]) [0, 1, 2, 3, 4] rfl
        replace hD := hD.sub (ws' := [(h0, .inr (0, oT uT p9 a9 e9 n9 o9)), (a9, .inl (ca, 3, .inr (.inr (.inr (.inr (mo da)))))), (da 0, .inr (2, oD (F 0) (ra 0) (ka 0))), (da 1, .inr (2, oD (F 1) (ra 1) (ka 1))), (da 2, .inr (2, oD (F 2) (ra 2) (ka 2)))]) [0, 1, 2, 3, 4] (by decide) rfl
        exact cv65 F _ _ _ hF hSq hl hP hD hS
      · --  r40 = r42
        refine lv_iload_n hx hb d_T_vote_63 rfl (lv_at hl 1 rfl) ?_
        have hP9 := hP.sub (ws' := [(h0, .inr (0, oT (upc uT 9 (uT 9)) p9 a9 e9 n9 o9)), (a9, .inl (ca, 3, .inr (.inr (.inr (.inr (mo da)))))), (da 0, .inr (2, oD (F 0) (ra 0) (ka 0))), (da 1, .inr (2, oD (F 1) (ra 1) (ka 1))), (da 2, .inr (2, oD (F 2) (ra 2) (ka 2)))]) [0, 1, 2, 3, 4] rfl
        have hD9 := hD.sub (ws' := [(h0, .inr (0, oT (upc uT 9 (uT 9)) p9 a9 e9 n9 o9)), (a9, .inl (ca, 3, .inr (.inr (.inr (.inr (mo da)))))), (da 0, .inr (2, oD (F 0) (ra 0) (ka 0))), (da 1, .inr (2, oD (F 1) (ra 1) (ka 1))), (da 2, .inr (2, oD (F 2) (ra 2) (ka 2)))]) [0, 1, 2, 3, 4] (by decide) rfl
        have hK9 := hK.sub (tys' := [(ca, .object "VotedTriple$VotedModule")]) [0] rfl
        refine W.widen (k := 0) (n := 0) (Nat.le_of_ble_eq_true rfl) (Nat.le_of_ble_eq_true rfl) ?_
        exact W.iret (v := 1) hx hb hr (fun t ht hW => ⟨⟨_, (F, uT 9), rfl, ⟨⟨(Or.inr (Or.inr (Or.inl rfl))), hF⟩, (by rw [hSq0, s_T_vote_cut14_3]; try (rw [if_neg (by decide)]); try (rw [if_pos rfl]); try (rw [← hr41E, bnd_eq]); try (rw [← hr43E, bnd_eq]); try (rw [if_pos hc44]); all_goals rfl)⟩, by rw [ht]; exact hP9, va_K.moved hW.alike hK9, hD9⟩, hS.F ht⟩) hS.2.2 d_T_vote_64
    · --  2
      refine lv_aload_n hx hb d_T_vote_43 rfl (lv_at hl 0 rfl) ?_
      refine lv_aload_n hx hb d_T_vote_44 rfl (lv_at hl 0 rfl) ?_
      refine va_get (D := (dC, dI)) (ci := 0) (v := .ref a9) (C := "VotedTriple") (T := F_T) (N := 11) hx hb hw in_T hown hK hP 0 rfl rfl 1 (by decide) (hw _ k_195) (fun _ h9 => h9) rfl d_T_vote_45 ?_
      refine lv_iload_n hx hb d_T_vote_48 rfl (lv_at hl 1 rfl) ?_
      refine va_aldq hx hb hK hP 1 0 rfl rfl (by unfold vp_in; decide) d_T_vote_49 ?_
      refine W.eq (g2 := F0 m 50 ls [.ref (da 2), .ref h0]) rfl ?_
      refine va_get (D := (dC, dI)) (ci := 2) (v := .int (F 2 18)) (C := "VotedTriple$VotedModule") (T := F_D) (N := 19) hx hb hw in_D hown hK hP 4 rfl rfl 18 (by decide) (hw _ k_161) (fun _ h9 => h9) rfl d_T_vote_50 ?_
      replace hPc := hP.sub (ws' := [(h0, .inr (0, oT uT p9 a9 e9 n9 o9)), (a9, .inl (ca, 3, .inr (.inr (.inr (.inr (mo da)))))), (da 0, .inr (2, oD (F 0) (ra 0) (ka 0))), (da 1, .inr (2, oD (F 1) (ra 1) (ka 1))), (da 2, .inr (2, oD (F 2) (ra 2) (ka 2)))]) [0, 1, 2, 3, 4] rfl
      replace hKc := hK.sub (tys' := [(ca, .object "VotedTriple$VotedModule")]) [0] rfl
      refine vp_callSi (va_runV (C := "VotedTriple") (As := [.int (F 2 18)]) (rest := []) ⟨hx, hb, hml, hown, hw⟩ (c_T_countBallots l dC dI h0 p9 a9 e9 n9 o9 ca da ra ka uT F (F 2 18)) (cwV 1 hw (gdV (k_591) (k_588) (k_590) (ks_9) (k_1)) rfl rfl rfl (by decide +kernel) ⟨Nat.le_of_ble_eq_true rfl, Nat.le_of_ble_eq_true rfl⟩) ⟨fun a U g mk q => ⟨q.1, q.2.1, va_K.moved (u := U) (U := U.calling g mk a) (Vm.Alike.refl U.vm) q.2.2⟩, va_recv hK hP rfl (q0 := 0) rfl, fun U hU hW => ⟨rfl, by rw [hU]; exact hPc, va_K.moved hW.alike hKc⟩⟩ rfl rfl hl.1 rfl (lv_room (Nat.le_of_ble_eq_true rfl)) d_T_vote_53 ⟨Nat.le_of_ble_eq_true rfl, Nat.le_of_ble_eq_true rfl⟩).run (fun r45 hr46 => ?_)
      obtain ⟨hr46, hr46E⟩ := hr46
      refine lv_aload_n hx hb d_T_vote_56 rfl (lv_at hl 0 rfl) ?_
      replace hPc := hP.sub (ws' := [(h0, .inr (0, oT uT p9 a9 e9 n9 o9)), (a9, .inl (ca, 3, .inr (.inr (.inr (.inr (mo da)))))), (da 0, .inr (2, oD (F 0) (ra 0) (ka 0))), (da 1, .inr (2, oD (F 1) (ra 1) (ka 1))), (da 2, .inr (2, oD (F 2) (ra 2) (ka 2)))]) [0, 1, 2, 3, 4] rfl
      replace hKc := hK.sub (tys' := [(ca, .object "VotedTriple$VotedModule")]) [0] rfl
      refine vp_callSi (va_runV (C := "VotedTriple") (As := []) (rest := [.int r45]) ⟨hx, hb, hml, hown, hw⟩ (c_T_countTrusted l dC dI h0 p9 a9 e9 n9 o9 ca da ra ka uT F) (cwV 0 hw (gdV (k_595) (k_592) (k_594) (ks_10) (k_1)) rfl rfl rfl (by decide +kernel) ⟨Nat.le_of_ble_eq_true rfl, Nat.le_of_ble_eq_true rfl⟩) ⟨fun a U g mk q => ⟨q.1, q.2.1, va_K.moved (u := U) (U := U.calling g mk a) (Vm.Alike.refl U.vm) q.2.2⟩, va_recv hK hP rfl (q0 := 0) rfl, fun U hU hW => ⟨rfl, by rw [hU]; exact hPc, va_K.moved hW.alike hKc⟩⟩ rfl rfl hl.1 rfl (lv_room (Nat.le_of_ble_eq_true rfl)) d_T_vote_57 ⟨Nat.le_of_ble_eq_true rfl, Nat.le_of_ble_eq_true rfl⟩).run (fun r47 hr48 => ?_)
      obtain ⟨hr48, hr48E⟩ := hr48
      refine lv_icmp_ne (tgt := 65) hx hb d_T_vote_60 rfl (fun hc49 => ?_) (fun hc49 => ?_)
      · --  ¬ r45 = r47
        have hSq : SP = s_T_vote_cv65 uT F := by rw [hSq0, s_T_vote_cut14_3]; try (rw [if_neg (by decide)]); try (rw [if_neg (by decide)]); try (rw [← hr46E, bnd_eq]); try (rw [← hr48E, bnd_eq]); try (rw [if_neg hc49]); all_goals rfl
        replace hl := lv_sub hl (l' := [(0, .ref h0)]) [0] rfl
        replace hP := hP.sub (ws' := [(h0, .inr (0, oT uT p9 a9 e9 n9 o9)), (a9, .inl (ca, 3, .inr (.inr (.inr (.inr (mo da)))))), (da 0, .inr (2, oD (F 0) (ra 0) (ka 0))), (da 1, .inr (2, oD (F 1) (ra 1) (ka 1))), (da 2, .inr (2, oD (F 2) (ra 2) (ka 2)))]) [0, 1, 2, 3, 4] rfl
        replace hD := hD.sub (ws' := [(h0, .inr (0, oT uT p9 a9 e9 n9 o9)), (a9, .inl (ca, 3, .inr (.inr (.inr (.inr (mo da)))))), (da 0, .inr (2, oD (F 0) (ra 0) (ka 0))), (da 1, .inr (2, oD (F 1) (ra 1) (ka 1))), (da 2, .inr (2, oD (F 2) (ra 2) (ka 2)))]) [0, 1, 2, 3, 4] (by decide) rfl
        exact cv65 F _ _ _ hF hSq hl hP hD hS
      · --  r45 = r47
        refine lv_iload_n hx hb d_T_vote_63 rfl (lv_at hl 1 rfl) ?_
        have hP9 := hP.sub (ws' := [(h0, .inr (0, oT (upc uT 9 (uT 9)) p9 a9 e9 n9 o9)), (a9, .inl (ca, 3, .inr (.inr (.inr (.inr (mo da)))))), (da 0, .inr (2, oD (F 0) (ra 0) (ka 0))), (da 1, .inr (2, oD (F 1) (ra 1) (ka 1))), (da 2, .inr (2, oD (F 2) (ra 2) (ka 2)))]) [0, 1, 2, 3, 4] rfl
        have hD9 := hD.sub (ws' := [(h0, .inr (0, oT (upc uT 9 (uT 9)) p9 a9 e9 n9 o9)), (a9, .inl (ca, 3, .inr (.inr (.inr (.inr (mo da)))))), (da 0, .inr (2, oD (F 0) (ra 0) (ka 0))), (da 1, .inr (2, oD (F 1) (ra 1) (ka 1))), (da 2, .inr (2, oD (F 2) (ra 2) (ka 2)))]) [0, 1, 2, 3, 4] (by decide) rfl
        have hK9 := hK.sub (tys' := [(ca, .object "VotedTriple$VotedModule")]) [0] rfl
        refine W.widen (k := 0) (n := 0) (Nat.le_of_ble_eq_true rfl) (Nat.le_of_ble_eq_true rfl) ?_
        exact W.iret (v := 2) hx hb hr (fun t ht hW => ⟨⟨_, (F, uT 9), rfl, ⟨⟨(Or.inr (Or.inr (Or.inr rfl))), hF⟩, (by rw [hSq0, s_T_vote_cut14_3]; try (rw [if_neg (by decide)]); try (rw [if_neg (by decide)]); try (rw [← hr46E, bnd_eq]); try (rw [← hr48E, bnd_eq]); try (rw [if_pos hc49]); all_goals rfl)⟩, by rw [ht]; exact hP9, va_K.moved hW.alike hK9, hD9⟩, hS.F ht⟩) hS.2.2 d_T_vote_64
  have cut14_2 : ∀ (F : Nat → Nat → Int32) (w1 : Int32) (ls : Array Slot) (H : Heap) (locs : List Loc), f3 F → (w1 = 0 ∨ w1 = 1 ∨ w1 = 2) → SP = s_T_vote_cut14_2 uT F w1 →  lv_has ls 3 [(0, .ref h0), (1, .int w1), (2, .int 2)] → va_P (dC, dI) classes [(h0, .inr (0, oT uT p9 a9 e9 n9 o9)), (a9, .inl (ca, 3, .inr (.inr (.inr (.inr (mo da)))))), (da 0, .inr (2, oD (F 0) (ra 0) (ka 0))), (da 1, .inr (2, oD (F 1) (ra 1) (ka 1))), (da 2, .inr (2, oD (F 2) (ra 2) (ka 2)))] H → va_D A [(h0, .inr (0, oT uT p9 a9 e9 n9 o9)), (a9, .inl (ca, 3, .inr (.inr (.inr (.inr (mo da)))))), (da 0, .inr (2, oD (F 0) (ra 0) (ka 0))), (da 1, .inr (2, oD (F 1) (ra 1) (ka 1))), (da 2, .inr (2, oD (F 2) (ra 2) (ka 2)))] → va_S A s.heap H locs → W p l e (headSpec (tbw y_T_vote b_T_vote 3 (some .int)) ({ frames := 3, cells := 0, slots := 0, locals := 65 })).room s m ([.ref h0] : List Value).toArray below meth c H locs 0 0 (MQ below (va_Qi (fun (r : Int32) (u9 : (Nat → Nat → Int32) × Int32) => match u9 with | (F2, y9) => (i012 r ∧ f3 F2) ∧ (r, F2, y9) = SP) (fun (u9 : (Nat → Nat → Int32) × Int32) t => match u9 with | (F2, y9) => va_P (dC, dI) classes [(h0, .inr (0, oT (upc uT 9 y9) p9 a9 e9 n9 o9)), (a9, .inl (ca, 3, .inr (.inr (.inr (.inr (mo da)))))), (da 0, .inr (2, oD (F2 0) (ra 0) (ka 0))), (da 1, .inr (2, oD (F2 1) (ra 1) (ka 1))), (da 2, .inr (2, oD (F2 2) (ra 2) (ka 2)))] t.heap ∧ va_K (dC, dI) classes [(ca, .object "VotedTriple$VotedModule")] t ∧ va_D A [(h0, .inr (0, oT (upc uT 9 y9) p9 a9 e9 n9 o9)), (a9, .inl (ca, 3, .inr (.inr (.inr (.inr (mo da)))))), (da 0, .inr (2, oD (F2 0) (ra 0) (ka 0))), (da 1, .inr (2, oD (F2 1) (ra 1) (ka 1))), (da 2, .inr (2, oD (F2 2) (ra 2) (ka 2)))]) A) ([.ref h0] : List Value).toArray s 0 0 A) (F0 m 14 ls []) := by
    intro F w1 ls H locs hF h19 hSq0 hl hP hD hS
    clear cv65
    refine lv_iload_n hx hb d_T_vote_14 rfl (lv_at hl 2 rfl) ?_
    refine lv_iconst (v := 3) hx hb d_T_vote_15 (by decide) ?_
    refine lv_icmp_ge (tgt := 43) hx hb d_T_vote_16 rfl (fun hc50 => by first | exact absurd hc50 (by decide) | exact absurd (by decide) hc50) (fun hc50 => ?_)
    refine lv_aload_n hx hb d_T_vote_19 rfl (lv_at hl 0 rfl) ?_
    refine va_get (D := (dC, dI)) (ci := 0) (v := .ref a9) (C := "VotedTriple") (T := F_T) (N := 11) hx hb hw in_T hown hK hP 0 rfl rfl 1 (by decide) (hw _ k_195) (fun _ h9 => h9) rfl d_T_vote_20 ?_
    refine lv_iload_n hx hb d_T_vote_23 rfl (lv_at hl 2 rfl) ?_
    refine va_aldq hx hb hK hP 1 0 rfl rfl (by unfold vp_in; decide) d_T_vote_24 ?_
    refine W.eq (g2 := F0 m 25 ls [.ref (da 2)]) rfl ?_
    refine lv_aload_n hx hb d_T_vote_25 rfl (lv_at hl 0 rfl) ?_
    refine va_get (D := (dC, dI)) (ci := 0) (v := .ref a9) (C := "VotedTriple") (T := F_T) (N := 11) hx hb hw in_T hown hK hP 0 rfl rfl 1 (by decide) (hw _ k_195) (fun _ h9 => h9) rfl d_T_vote_26 ?_
    refine lv_iload_n hx hb d_T_vote_29 rfl (lv_at hl 2 rfl) ?_
    refine va_aldq hx hb hK hP 1 0 rfl rfl (by unfold vp_in; decide) d_T_vote_30 ?_
    refine W.eq (g2 := F0 m 31 ls [.ref (da 2), .ref (da 2)]) rfl ?_
    replace hPc := hP.sub (ws' := [(da 2, .inr (2, oD (F 2) (ra 2) (ka 2)))]) [4] rfl
    replace hKc := hK.sub (tys' := []) [] rfl
    refine vp_callSi (va_runV (C := "VotedTriple$VotedModule") (As := []) (rest := [.ref (da 2)]) ⟨hx, hb, hml, hown, hw⟩ (c_D_wishAsBallot l dC dI (da 2) (ra 2) (ka 2) (F 2)) (cwV 0 hw (gdV (k_587) (k_584) (k_585) (k_586) (k_7)) rfl rfl rfl (by decide +kernel) ⟨Nat.le_of_ble_eq_true rfl, Nat.le_of_ble_eq_true rfl⟩) ⟨fun a U g mk q => ⟨q.1, q.2.1, va_K.moved (u := U) (U := U.calling g mk a) (Vm.Alike.refl U.vm) q.2.2⟩, va_recv hK hP rfl (q0 := 4) rfl, fun U hU hW => ⟨rfl, by rw [hU]; exact hPc, va_K.moved hW.alike hKc⟩⟩ rfl rfl hl.1 rfl (lv_room (Nat.le_of_ble_eq_true rfl)) d_T_vote_31 ⟨Nat.le_of_ble_eq_true rfl, Nat.le_of_ble_eq_true rfl⟩).run (fun r51 hr52 => ?_)
    obtain ⟨hr52, hr52E⟩ := hr52
    refine va_put (D := (dC, dI)) (ci := 2) (v := .int r51) (ty := .int) (C := "VotedTriple$VotedModule") (T := F_D) (N := 19) hx hb hw in_D ft_D tyok_D nm_D hown hK hP hD hS 4 rfl rfl 18 (by decide) (hw _ k_161) (fun _ h9 => h9) rfl (by decide +kernel) rfl rfl (Nat.le_of_ble_eq_true rfl) d_T_vote_34 (fun H locs hP hD hS => ?_)
    replace hP : va_P (dC, dI) classes [(h0, .inr (0, oT uT p9 a9 e9 n9 o9)), (a9, .inl (ca, 3, .inr (.inr (.inr (.inr (mo da)))))), (da 0, .inr (2, oD (F 0) (ra 0) (ka 0))), (da 1, .inr (2, oD (F 1) (ra 1) (ka 1))), (da 2, .inr (2, [.ref (ra 2), .int (F 2 1), .int (F 2 2), .int (F 2 3), .int (F 2 4), .int (F 2 5), .int (F 2 6), .ref (ka 2), .int (F 2 8), .int (F 2 9), .int (F 2 10), .int (F 2 11), .int (F 2 12), .int (F 2 13), .int (F 2 14), .int (F 2 15), .int (F 2 16), .int (F 2 17), .int r51]))] H := hP
    replace hD : va_D A [(h0, .inr (0, oT uT p9 a9 e9 n9 o9)), (a9, .inl (ca, 3, .inr (.inr (.inr (.inr (mo da)))))), (da 0, .inr (2, oD (F 0) (ra 0) (ka 0))), (da 1, .inr (2, oD (F 1) (ra 1) (ka 1))), (da 2, .inr (2, [.ref (ra 2), .int (F 2 1), .int (F 2 2), .int (F 2 3), .int (F 2 4), .int (F 2 5), .int (F 2 6), .ref (ka 2), .int (F 2 8), .int (F 2 9), .int (F 2 10), .int (F 2 11), .int (F 2 12), .int (F 2 13), .int (F 2 14), .int (F 2 15), .int (F 2 16), .int (F 2 17), .int r51]))] := hD
    refine lv_iinc (k := 2) (v := 3) hx hb d_T_vote_37 hl rfl rfl (by decide) rfl (fun ls hl => ?_)
    replace hl : lv_has ls 3 [(2, .int 3), (0, .ref h0), (1, .int w1)] := hl
    refine lv_goto (tgt := 14) hx hb d_T_vote_40 rfl ?_
    have hSq : SP = s_T_vote_cut14_3 uT (tri (F 0) (F 1) (upc (F 2) 18 r51)) w1 := by rw [hSq0, s_T_vote_cut14_2]; try (rw [← hr52E, bnd_eq]); all_goals rfl
    replace hl := lv_sub hl (l' := [(0, .ref h0), (1, .int w1), (2, .int 3)]) [1, 2, 0] rfl
    replace hP := hP.sub (ws' := [(h0, .inr (0, oT uT p9 a9 e9 n9 o9)), (a9, .inl (ca, 3, .inr (.inr (.inr (.inr (mo da)))))), (da 0, .inr (2, oD (tri (F 0) (F 1) (upc (F 2) 18 r51) 0) (ra 0) (ka 0))), (da 1, .inr (2, oD (tri (F 0) (F 1) (upc (F 2) 18 r51) 1) (ra 1) (ka 1))), (da 2, .inr (2, oD (tri (F 0) (F 1) (upc (F 2) 18 r51) 2) (ra 2) (ka 2)))]) [0, 1, 2, 3, 4] rfl
    replace hD := hD.sub (ws' := [(h0, .inr (0, oT uT p9 a9 e9 n9 o9)), (a9, .inl (ca, 3, .inr (.inr (.inr (.inr (mo da)))))), (da 0, .inr (2, oD (tri (F 0) (F 1) (upc (F 2) 18 r51) 0) (ra 0) (ka 0))), (da 1, .inr (2, oD (tri (F 0) (F 1) (upc (F 2) 18 r51) 1) (ra 1) (ka 1))), (da 2, .inr (2, oD (tri (F 0) (F 1) (upc (F 2) 18 r51) 2) (ra 2) (ka 2)))]) [0, 1, 2, 3, 4] (by decide) rfl
    exact cut14_3 (tri (F 0) (F 1) (upc (F 2) 18 r51)) w1 _ _ _ hF h19 hSq hl hP hD hS
  have cut14_1 : ∀ (F : Nat → Nat → Int32) (w1 : Int32) (ls : Array Slot) (H : Heap) (locs : List Loc), f3 F → (w1 = 0 ∨ w1 = 1 ∨ w1 = 2) → SP = s_T_vote_cut14_1 uT F w1 →  lv_has ls 3 [(0, .ref h0), (1, .int w1), (2, .int 1)] → va_P (dC, dI) classes [(h0, .inr (0, oT uT p9 a9 e9 n9 o9)), (a9, .inl (ca, 3, .inr (.inr (.inr (.inr (mo da)))))), (da 0, .inr (2, oD (F 0) (ra 0) (ka 0))), (da 1, .inr (2, oD (F 1) (ra 1) (ka 1))), (da 2, .inr (2, oD (F 2) (ra 2) (ka 2)))] H → va_D A [(h0, .inr (0, oT uT p9 a9 e9 n9 o9)), (a9, .inl (ca, 3, .inr (.inr (.inr (.inr (mo da)))))), (da 0, .inr (2, oD (F 0) (ra 0) (ka 0))), (da 1, .inr (2, oD (F 1) (ra 1) (ka 1))), (da 2, .inr (2, oD (F 2) (ra 2) (ka 2)))] → va_S A s.heap H locs → W p l e (headSpec (tbw y_T_vote b_T_vote 3 (some .int)) ({ frames := 3, cells := 0, slots := 0, locals := 65 })).room s m ([.ref h0] : List Value).toArray below meth c H locs 0 0 (MQ below (va_Qi (fun (r : Int32) (u9 : (Nat → Nat → Int32) × Int32) => match u9 with | (F2, y9) => (i012 r ∧ f3 F2) ∧ (r, F2, y9) = SP) (fun (u9 : (Nat → Nat → Int32) × Int32) t => match u9 with | (F2, y9) => va_P (dC, dI) classes [(h0, .inr (0, oT (upc uT 9 y9) p9 a9 e9 n9 o9)), (a9, .inl (ca, 3, .inr (.inr (.inr (.inr (mo da)))))), (da 0, .inr (2, oD (F2 0) (ra 0) (ka 0))), (da 1, .inr (2, oD (F2 1) (ra 1) (ka 1))), (da 2, .inr (2, oD (F2 2) (ra 2) (ka 2)))] t.heap ∧ va_K (dC, dI) classes [(ca, .object "VotedTriple$VotedModule")] t ∧ va_D A [(h0, .inr (0, oT (upc uT 9 y9) p9 a9 e9 n9 o9)), (a9, .inl (ca, 3, .inr (.inr (.inr (.inr (mo da)))))), (da 0, .inr (2, oD (F2 0) (ra 0) (ka 0))), (da 1, .inr (2, oD (F2 1) (ra 1) (ka 1))), (da 2, .inr (2, oD (F2 2) (ra 2) (ka 2)))]) A) ([.ref h0] : List Value).toArray s 0 0 A) (F0 m 14 ls []) := by
    intro F w1 ls H locs hF h19 hSq0 hl hP hD hS
    clear cv65 cut14_3
    refine lv_iload_n hx hb d_T_vote_14 rfl (lv_at hl 2 rfl) ?_
    refine lv_iconst (v := 3) hx hb d_T_vote_15 (by decide) ?_
    refine lv_icmp_ge (tgt := 43) hx hb d_T_vote_16 rfl (fun hc53 => by first | exact absurd hc53 (by decide) | exact absurd (by decide) hc53) (fun hc53 => ?_)
    refine lv_aload_n hx hb d_T_vote_19 rfl (lv_at hl 0 rfl) ?_
    refine va_get (D := (dC, dI)) (ci := 0) (v := .ref a9) (C := "VotedTriple") (T := F_T) (N := 11) hx hb hw in_T hown hK hP 0 rfl rfl 1 (by decide) (hw _ k_195) (fun _ h9 => h9) rfl d_T_vote_20 ?_
    refine lv_iload_n hx hb d_T_vote_23 rfl (lv_at hl 2 rfl) ?_
    refine va_aldq hx hb hK hP 1 0 rfl rfl (by unfold vp_in; decide) d_T_vote_24 ?_
    refine W.eq (g2 := F0 m 25 ls [.ref (da 1)]) rfl ?_
    refine lv_aload_n hx hb d_T_vote_25 rfl (lv_at hl 0 rfl) ?_
    refine va_get (D := (dC, dI)) (ci := 0) (v := .ref a9) (C := "VotedTriple") (T := F_T) (N := 11) hx hb hw in_T hown hK hP 0 rfl rfl 1 (by decide) (hw _ k_195) (fun _ h9 => h9) rfl d_T_vote_26 ?_
    refine lv_iload_n hx hb d_T_vote_29 rfl (lv_at hl 2 rfl) ?_
    refine va_aldq hx hb hK hP 1 0 rfl rfl (by unfold vp_in; decide) d_T_vote_30 ?_
    refine W.eq (g2 := F0 m 31 ls [.ref (da 1), .ref (da 1)]) rfl ?_
    replace hPc := hP.sub (ws' := [(da 1, .inr (2, oD (F 1) (ra 1) (ka 1)))]) [3] rfl
    replace hKc := hK.sub (tys' := []) [] rfl
    refine vp_callSi (va_runV (C := "VotedTriple$VotedModule") (As := []) (rest := [.ref (da 1)]) ⟨hx, hb, hml, hown, hw⟩ (c_D_wishAsBallot l dC dI (da 1) (ra 1) (ka 1) (F 1)) (cwV 0 hw (gdV (k_587) (k_584) (k_585) (k_586) (k_7)) rfl rfl rfl (by decide +kernel) ⟨Nat.le_of_ble_eq_true rfl, Nat.le_of_ble_eq_true rfl⟩) ⟨fun a U g mk q => ⟨q.1, q.2.1, va_K.moved (u := U) (U := U.calling g mk a) (Vm.Alike.refl U.vm) q.2.2⟩, va_recv hK hP rfl (q0 := 3) rfl, fun U hU hW => ⟨rfl, by rw [hU]; exact hPc, va_K.moved hW.alike hKc⟩⟩ rfl rfl hl.1 rfl (lv_room (Nat.le_of_ble_eq_true rfl)) d_T_vote_31 ⟨Nat.le_of_ble_eq_true rfl, Nat.le_of_ble_eq_true rfl⟩).run (fun r54 hr55 => ?_)
    obtain ⟨hr55, hr55E⟩ := hr55
    refine va_put (D := (dC, dI)) (ci := 2) (v := .int r54) (ty := .int) (C := "VotedTriple$VotedModule") (T := F_D) (N := 19) hx hb hw in_D ft_D tyok_D nm_D hown hK hP hD hS 3 rfl rfl 18 (by decide) (hw _ k_161) (fun _ h9 => h9) rfl (by decide +kernel) rfl rfl (Nat.le_of_ble_eq_true rfl) d_T_vote_34 (fun H locs hP hD hS => ?_)
    replace hP : va_P (dC, dI) classes [(h0, .inr (0, oT uT p9 a9 e9 n9 o9)), (a9, .inl (ca, 3, .inr (.inr (.inr (.inr (mo da)))))), (da 0, .inr (2, oD (F 0) (ra 0) (ka 0))), (da 1, .inr (2, [.ref (ra 1), .int (F 1 1), .int (F 1 2), .int (F 1 3), .int (F 1 4), .int (F 1 5), .int (F 1 6), .ref (ka 1), .int (F 1 8), .int (F 1 9), .int (F 1 10), .int (F 1 11), .int (F 1 12), .int (F 1 13), .int (F 1 14), .int (F 1 15), .int (F 1 16), .int (F 1 17), .int r54])), (da 2, .inr (2, oD (F 2) (ra 2) (ka 2)))] H := hP
    replace hD : va_D A [(h0, .inr (0, oT uT p9 a9 e9 n9 o9)), (a9, .inl (ca, 3, .inr (.inr (.inr (.inr (mo da)))))), (da 0, .inr (2, oD (F 0) (ra 0) (ka 0))), (da 1, .inr (2, [.ref (ra 1), .int (F 1 1), .int (F 1 2), .int (F 1 3), .int (F 1 4), .int (F 1 5), .int (F 1 6), .ref (ka 1), .int (F 1 8), .int (F 1 9), .int (F 1 10), .int (F 1 11), .int (F 1 12), .int (F 1 13), .int (F 1 14), .int (F 1 15), .int (F 1 16), .int (F 1 17), .int r54])), (da 2, .inr (2, oD (F 2) (ra 2) (ka 2)))] := hD
    refine lv_iinc (k := 2) (v := 2) hx hb d_T_vote_37 hl rfl rfl (by decide) rfl (fun ls hl => ?_)
    replace hl : lv_has ls 3 [(2, .int 2), (0, .ref h0), (1, .int w1)] := hl
    refine lv_goto (tgt := 14) hx hb d_T_vote_40 rfl ?_
    have hSq : SP = s_T_vote_cut14_2 uT (tri (F 0) (upc (F 1) 18 r54) (F 2)) w1 := by rw [hSq0, s_T_vote_cut14_1]; try (rw [← hr55E, bnd_eq]); all_goals rfl
    replace hl := lv_sub hl (l' := [(0, .ref h0), (1, .int w1), (2, .int 2)]) [1, 2, 0] rfl
    replace hP := hP.sub (ws' := [(h0, .inr (0, oT uT p9 a9 e9 n9 o9)), (a9, .inl (ca, 3, .inr (.inr (.inr (.inr (mo da)))))), (da 0, .inr (2, oD (tri (F 0) (upc (F 1) 18 r54) (F 2) 0) (ra 0) (ka 0))), (da 1, .inr (2, oD (tri (F 0) (upc (F 1) 18 r54) (F 2) 1) (ra 1) (ka 1))), (da 2, .inr (2, oD (tri (F 0) (upc (F 1) 18 r54) (F 2) 2) (ra 2) (ka 2)))]) [0, 1, 2, 3, 4] rfl
    replace hD := hD.sub (ws' := [(h0, .inr (0, oT uT p9 a9 e9 n9 o9)), (a9, .inl (ca, 3, .inr (.inr (.inr (.inr (mo da)))))), (da 0, .inr (2, oD (tri (F 0) (upc (F 1) 18 r54) (F 2) 0) (ra 0) (ka 0))), (da 1, .inr (2, oD (tri (F 0) (upc (F 1) 18 r54) (F 2) 1) (ra 1) (ka 1))), (da 2, .inr (2, oD (tri (F 0) (upc (F 1) 18 r54) (F 2) 2) (ra 2) (ka 2)))]) [0, 1, 2, 3, 4] (by decide) rfl
    exact cut14_2 (tri (F 0) (upc (F 1) 18 r54) (F 2)) w1 _ _ _ hF h19 hSq hl hP hD hS
  have cut14_0 : ∀ (F : Nat → Nat → Int32) (w1 : Int32) (ls : Array Slot) (H : Heap) (locs : List Loc), f3 F → (w1 = 0 ∨ w1 = 1 ∨ w1 = 2) → SP = s_T_vote_cut14_0 uT F w1 →  lv_has ls 3 [(0, .ref h0), (1, .int w1), (2, .int 0)] → va_P (dC, dI) classes [(h0, .inr (0, oT uT p9 a9 e9 n9 o9)), (a9, .inl (ca, 3, .inr (.inr (.inr (.inr (mo da)))))), (da 0, .inr (2, oD (F 0) (ra 0) (ka 0))), (da 1, .inr (2, oD (F 1) (ra 1) (ka 1))), (da 2, .inr (2, oD (F 2) (ra 2) (ka 2)))] H → va_D A [(h0, .inr (0, oT uT p9 a9 e9 n9 o9)), (a9, .inl (ca, 3, .inr (.inr (.inr (.inr (mo da)))))), (da 0, .inr (2, oD (F 0) (ra 0) (ka 0))), (da 1, .inr (2, oD (F 1) (ra 1) (ka 1))), (da 2, .inr (2, oD (F 2) (ra 2) (ka 2)))] → va_S A s.heap H locs → W p l e (headSpec (tbw y_T_vote b_T_vote 3 (some .int)) ({ frames := 3, cells := 0, slots := 0, locals := 65 })).room s m ([.ref h0] : List Value).toArray below meth c H locs 0 0 (MQ below (va_Qi (fun (r : Int32) (u9 : (Nat → Nat → Int32) × Int32) => match u9 with | (F2, y9) => (i012 r ∧ f3 F2) ∧ (r, F2, y9) = SP) (fun (u9 : (Nat → Nat → Int32) × Int32) t => match u9 with | (F2, y9) => va_P (dC, dI) classes [(h0, .inr (0, oT (upc uT 9 y9) p9 a9 e9 n9 o9)), (a9, .inl (ca, 3, .inr (.inr (.inr (.inr (mo da)))))), (da 0, .inr (2, oD (F2 0) (ra 0) (ka 0))), (da 1, .inr (2, oD (F2 1) (ra 1) (ka 1))), (da 2, .inr (2, oD (F2 2) (ra 2) (ka 2)))] t.heap ∧ va_K (dC, dI) classes [(ca, .object "VotedTriple$VotedModule")] t ∧ va_D A [(h0, .inr (0, oT (upc uT 9 y9) p9 a9 e9 n9 o9)), (a9, .inl (ca, 3, .inr (.inr (.inr (.inr (mo da)))))), (da 0, .inr (2, oD (F2 0) (ra 0) (ka 0))), (da 1, .inr (2, oD (F2 1) (ra 1) (ka 1))), (da 2, .inr (2, oD (F2 2) (ra 2) (ka 2)))]) A) ([.ref h0] : List Value).toArray s 0 0 A) (F0 m 14 ls []) := by
    intro F w1 ls H locs hF h19 hSq0 hl hP hD hS
    clear cv65 cut14_3 cut14_2
    refine lv_iload_n hx hb d_T_vote_14 rfl (lv_at hl 2 rfl) ?_
    refine lv_iconst (v := 3) hx hb d_T_vote_15 (by decide) ?_
    refine lv_icmp_ge (tgt := 43) hx hb d_T_vote_16 rfl (fun hc56 => by first | exact absurd hc56 (by decide) | exact absurd (by decide) hc56) (fun hc56 => ?_)
    refine lv_aload_n hx hb d_T_vote_19 rfl (lv_at hl 0 rfl) ?_
    refine va_get (D := (dC, dI)) (ci := 0) (v := .ref a9) (C := "VotedTriple") (T := F_T) (N := 11) hx hb hw in_T hown hK hP 0 rfl rfl 1 (by decide) (hw _ k_195) (fun _ h9 => h9) rfl d_T_vote_20 ?_
    refine lv_iload_n hx hb d_T_vote_23 rfl (lv_at hl 2 rfl) ?_
    refine va_aldq hx hb hK hP 1 0 rfl rfl (by unfold vp_in; decide) d_T_vote_24 ?_
    refine W.eq (g2 := F0 m 25 ls [.ref (da 0)]) rfl ?_
    refine lv_aload_n hx hb d_T_vote_25 rfl (lv_at hl 0 rfl) ?_
    refine va_get (D := (dC, dI)) (ci := 0) (v := .ref a9) (C := "VotedTriple") (T := F_T) (N := 11) hx hb hw in_T hown hK hP 0 rfl rfl 1 (by decide) (hw _ k_195) (fun _ h9 => h9) rfl d_T_vote_26 ?_
    refine lv_iload_n hx hb d_T_vote_29 rfl (lv_at hl 2 rfl) ?_
    refine va_aldq hx hb hK hP 1 0 rfl rfl (by unfold vp_in; decide) d_T_vote_30 ?_
    refine W.eq (g2 := F0 m 31 ls [.ref (da 0), .ref (da 0)]) rfl ?_
    replace hPc := hP.sub (ws' := [(da 0, .inr (2, oD (F 0) (ra 0) (ka 0)))]) [2] rfl
    replace hKc := hK.sub (tys' := []) [] rfl
    refine vp_callSi (va_runV (C := "VotedTriple$VotedModule") (As := []) (rest := [.ref (da 0)]) ⟨hx, hb, hml, hown, hw⟩ (c_D_wishAsBallot l dC dI (da 0) (ra 0) (ka 0) (F 0)) (cwV 0 hw (gdV (k_587) (k_584) (k_585) (k_586) (k_7)) rfl rfl rfl (by decide +kernel) ⟨Nat.le_of_ble_eq_true rfl, Nat.le_of_ble_eq_true rfl⟩) ⟨fun a U g mk q => ⟨q.1, q.2.1, va_K.moved (u := U) (U := U.calling g mk a) (Vm.Alike.refl U.vm) q.2.2⟩, va_recv hK hP rfl (q0 := 2) rfl, fun U hU hW => ⟨rfl, by rw [hU]; exact hPc, va_K.moved hW.alike hKc⟩⟩ rfl rfl hl.1 rfl (lv_room (Nat.le_of_ble_eq_true rfl)) d_T_vote_31 ⟨Nat.le_of_ble_eq_true rfl, Nat.le_of_ble_eq_true rfl⟩).run (fun r57 hr58 => ?_)
    obtain ⟨hr58, hr58E⟩ := hr58
    refine va_put (D := (dC, dI)) (ci := 2) (v := .int r57) (ty := .int) (C := "VotedTriple$VotedModule") (T := F_D) (N := 19) hx hb hw in_D ft_D tyok_D nm_D hown hK hP hD hS 2 rfl rfl 18 (by decide) (hw _ k_161) (fun _ h9 => h9) rfl (by decide +kernel) rfl rfl (Nat.le_of_ble_eq_true rfl) d_T_vote_34 (fun H locs hP hD hS => ?_)
    replace hP : va_P (dC, dI) classes [(h0, .inr (0, oT uT p9 a9 e9 n9 o9)), (a9, .inl (ca, 3, .inr (.inr (.inr (.inr (mo da)))))), (da 0, .inr (2, [.ref (ra 0), .int (F 0 1), .int (F 0 2), .int (F 0 3), .int (F 0 4), .int (F 0 5), .int (F 0 6), .ref (ka 0), .int (F 0 8), .int (F 0 9), .int (F 0 10), .int (F 0 11), .int (F 0 12), .int (F 0 13), .int (F 0 14), .int (F 0 15), .int (F 0 16), .int (F 0 17), .int r57])), (da 1, .inr (2, oD (F 1) (ra 1) (ka 1))), (da 2, .inr (2, oD (F 2) (ra 2) (ka 2)))] H := hP
    replace hD : va_D A [(h0, .inr (0, oT uT p9 a9 e9 n9 o9)), (a9, .inl (ca, 3, .inr (.inr (.inr (.inr (mo da)))))), (da 0, .inr (2, [.ref (ra 0), .int (F 0 1), .int (F 0 2), .int (F 0 3), .int (F 0 4), .int (F 0 5), .int (F 0 6), .ref (ka 0), .int (F 0 8), .int (F 0 9), .int (F 0 10), .int (F 0 11), .int (F 0 12), .int (F 0 13), .int (F 0 14), .int (F 0 15), .int (F 0 16), .int (F 0 17), .int r57])), (da 1, .inr (2, oD (F 1) (ra 1) (ka 1))), (da 2, .inr (2, oD (F 2) (ra 2) (ka 2)))] := hD
    refine lv_iinc (k := 2) (v := 1) hx hb d_T_vote_37 hl rfl rfl (by decide) rfl (fun ls hl => ?_)
    replace hl : lv_has ls 3 [(2, .int 1), (0, .ref h0), (1, .int w1)] := hl
    refine lv_goto (tgt := 14) hx hb d_T_vote_40 rfl ?_
    have hSq : SP = s_T_vote_cut14_1 uT (tri (upc (F 0) 18 r57) (F 1) (F 2)) w1 := by rw [hSq0, s_T_vote_cut14_0]; try (rw [← hr58E, bnd_eq]); all_goals rfl
    replace hl := lv_sub hl (l' := [(0, .ref h0), (1, .int w1), (2, .int 1)]) [1, 2, 0] rfl
    replace hP := hP.sub (ws' := [(h0, .inr (0, oT uT p9 a9 e9 n9 o9)), (a9, .inl (ca, 3, .inr (.inr (.inr (.inr (mo da)))))), (da 0, .inr (2, oD (tri (upc (F 0) 18 r57) (F 1) (F 2) 0) (ra 0) (ka 0))), (da 1, .inr (2, oD (tri (upc (F 0) 18 r57) (F 1) (F 2) 1) (ra 1) (ka 1))), (da 2, .inr (2, oD (tri (upc (F 0) 18 r57) (F 1) (F 2) 2) (ra 2) (ka 2)))]) [0, 1, 2, 3, 4] rfl
    replace hD := hD.sub (ws' := [(h0, .inr (0, oT uT p9 a9 e9 n9 o9)), (a9, .inl (ca, 3, .inr (.inr (.inr (.inr (mo da)))))), (da 0, .inr (2, oD (tri (upc (F 0) 18 r57) (F 1) (F 2) 0) (ra 0) (ka 0))), (da 1, .inr (2, oD (tri (upc (F 0) 18 r57) (F 1) (F 2) 1) (ra 1) (ka 1))), (da 2, .inr (2, oD (tri (upc (F 0) 18 r57) (F 1) (F 2) 2) (ra 2) (ka 2)))]) [0, 1, 2, 3, 4] (by decide) rfl
    exact cut14_1 (tri (upc (F 0) 18 r57) (F 1) (F 2)) w1 _ _ _ hF h19 hSq hl hP hD hS
  clear cv65 cut14_3 cut14_2 cut14_1
  refine lv_aload_n hx hb d_T_vote_0 rfl (lv_at hl 0 rfl) ?_
  replace hPc := hP.sub (ws' := [(h0, .inr (0, oT uT p9 a9 e9 n9 o9)), (a9, .inl (ca, 3, .inr (.inr (.inr (.inr (mo da)))))), (da 0, .inr (2, oD (F 0) (ra 0) (ka 0))), (da 1, .inr (2, oD (F 1) (ra 1) (ka 1))), (da 2, .inr (2, oD (F 2) (ra 2) (ka 2)))]) [0, 1, 2, 3, 4] rfl
  replace hKc := hK.sub (tys' := [(ca, .object "VotedTriple$VotedModule")]) [0] rfl
  refine vp_callSi (va_runV (C := "VotedTriple") (As := []) (rest := []) ⟨hx, hb, hml, hown, hw⟩ (c_T_lowestTrusted l dC dI h0 p9 a9 e9 n9 o9 ca da ra ka uT F) (cwV 0 hw (gdV (k_579) (k_576) (k_578) (ks_8) (k_1)) rfl rfl rfl (by decide +kernel) ⟨Nat.le_of_ble_eq_true rfl, Nat.le_of_ble_eq_true rfl⟩) ⟨fun a U g mk q => ⟨q.1, q.2.1, va_K.moved (u := U) (U := U.calling g mk a) (Vm.Alike.refl U.vm) q.2.2⟩, va_recv hK hP rfl (q0 := 0) rfl, fun U hU hW => ⟨rfl, by rw [hU]; exact hPc, va_K.moved hW.alike hKc⟩⟩ rfl rfl hl.1 rfl (lv_room (Nat.le_of_ble_eq_true rfl)) d_T_vote_1 ⟨Nat.le_of_ble_eq_true rfl, Nat.le_of_ble_eq_true rfl⟩).run (fun r59 hr60 => ?_)
  obtain ⟨hr60, hr60E⟩ := hr60
  rcases hr60 with rfl | ⟨rfl, hlo61⟩ | ⟨rfl, hlo61⟩ | ⟨rfl, hlo61⟩
  · --  (-1)
    refine lv_istore_n hx hb d_T_vote_4 rfl hl (by decide) rfl (fun ls hl => ?_)
    replace hl : lv_has ls 3 [(1, .int (-1)), (0, .ref h0)] := hl
    refine lv_iload_n hx hb d_T_vote_5 rfl (lv_at hl 0 rfl) ?_
    refine lv_iconst (v := (-1)) hx hb d_T_vote_6 (by decide) ?_
    refine lv_icmp_ne (tgt := 12) hx hb d_T_vote_7 rfl (fun hc62 => by first | exact absurd hc62 (fun hh => hh rfl) | exact absurd (fun hh => hh rfl) hc62) (fun hc62 => ?_)
    refine lv_iconst (v := (-1)) hx hb d_T_vote_10 (by decide) ?_
    have hP9 := hP.sub (ws' := [(h0, .inr (0, oT (upc uT 9 (uT 9)) p9 a9 e9 n9 o9)), (a9, .inl (ca, 3, .inr (.inr (.inr (.inr (mo da)))))), (da 0, .inr (2, oD (F 0) (ra 0) (ka 0))), (da 1, .inr (2, oD (F 1) (ra 1) (ka 1))), (da 2, .inr (2, oD (F 2) (ra 2) (ka 2)))]) [0, 1, 2, 3, 4] rfl
    have hD9 := hD.sub (ws' := [(h0, .inr (0, oT (upc uT 9 (uT 9)) p9 a9 e9 n9 o9)), (a9, .inl (ca, 3, .inr (.inr (.inr (.inr (mo da)))))), (da 0, .inr (2, oD (F 0) (ra 0) (ka 0))), (da 1, .inr (2, oD (F 1) (ra 1) (ka 1))), (da 2, .inr (2, oD (F 2) (ra 2) (ka 2)))]) [0, 1, 2, 3, 4] (by decide) rfl
    have hK9 := hK.sub (tys' := [(ca, .object "VotedTriple$VotedModule")]) [0] rfl
    refine W.widen (k := 0) (n := 0) (Nat.le_of_ble_eq_true rfl) (Nat.le_of_ble_eq_true rfl) ?_
    exact W.iret (v := (-1)) hx hb hr (fun t ht hW => ⟨⟨_, (F, uT 9), rfl, ⟨⟨(Or.inl rfl), hF⟩, (by rw [← hSP, s_T_vote]; try (rw [← hr60E, bnd_eq]); try (rw [if_pos rfl]); all_goals rfl)⟩, by rw [ht]; exact hP9, va_K.moved hW.alike hK9, hD9⟩, hS.F ht⟩) hS.2.2 d_T_vote_11
  · --  0
    refine lv_istore_n hx hb d_T_vote_4 rfl hl (by decide) rfl (fun ls hl => ?_)
    replace hl : lv_has ls 3 [(1, .int 0), (0, .ref h0)] := hl
    refine lv_iload_n hx hb d_T_vote_5 rfl (lv_at hl 0 rfl) ?_
    refine lv_iconst (v := (-1)) hx hb d_T_vote_6 (by decide) ?_
    refine lv_icmp_ne (tgt := 12) hx hb d_T_vote_7 rfl (fun hc63 => ?_) (fun hc63 => by first | exact absurd (by decide) hc63 | exact absurd hc63 (by decide))
    refine lv_iconst (v := 0) hx hb d_T_vote_12 (by decide) ?_
    refine lv_istore_n hx hb d_T_vote_13 rfl hl (by decide) rfl (fun ls hl => ?_)
    replace hl : lv_has ls 3 [(2, .int 0), (1, .int 0), (0, .ref h0)] := hl
    have hSq : SP = s_T_vote_cut14_0 uT F 0 := by rw [← hSP, s_T_vote]; try (rw [← hr60E, bnd_eq]); try (rw [if_neg (by decide)]); try (rw [if_pos rfl]); all_goals rfl
    replace hl := lv_sub hl (l' := [(0, .ref h0), (1, .int 0), (2, .int 0)]) [2, 1, 0] rfl
    replace hP := hP.sub (ws' := [(h0, .inr (0, oT uT p9 a9 e9 n9 o9)), (a9, .inl (ca, 3, .inr (.inr (.inr (.inr (mo da)))))), (da 0, .inr (2, oD (F 0) (ra 0) (ka 0))), (da 1, .inr (2, oD (F 1) (ra 1) (ka 1))), (da 2, .inr (2, oD (F 2) (ra 2) (ka 2)))]) [0, 1, 2, 3, 4] rfl
    replace hD := hD.sub (ws' := [(h0, .inr (0, oT uT p9 a9 e9 n9 o9)), (a9, .inl (ca, 3, .inr (.inr (.inr (.inr (mo da)))))), (da 0, .inr (2, oD (F 0) (ra 0) (ka 0))), (da 1, .inr (2, oD (F 1) (ra 1) (ka 1))), (da 2, .inr (2, oD (F 2) (ra 2) (ka 2)))]) [0, 1, 2, 3, 4] (by decide) rfl
    exact cut14_0 F 0 _ _ _ hF (Or.inl rfl) hSq hl hP hD hS
  · --  1
    refine lv_istore_n hx hb d_T_vote_4 rfl hl (by decide) rfl (fun ls hl => ?_)
    replace hl : lv_has ls 3 [(1, .int 1), (0, .ref h0)] := hl
    refine lv_iload_n hx hb d_T_vote_5 rfl (lv_at hl 0 rfl) ?_
    refine lv_iconst (v := (-1)) hx hb d_T_vote_6 (by decide) ?_
    refine lv_icmp_ne (tgt := 12) hx hb d_T_vote_7 rfl (fun hc64 => ?_) (fun hc64 => by first | exact absurd (by decide) hc64 | exact absurd hc64 (by decide))
    refine lv_iconst (v := 0) hx hb d_T_vote_12 (by decide) ?_
    refine lv_istore_n hx hb d_T_vote_13 rfl hl (by decide) rfl (fun ls hl => ?_)
    replace hl : lv_has ls 3 [(2, .int 0), (1, .int 1), (0, .ref h0)] := hl
    have hSq : SP = s_T_vote_cut14_0 uT F 1 := by rw [← hSP, s_T_vote]; try (rw [← hr60E, bnd_eq]); try (rw [if_neg (by decide)]); try (rw [if_neg (by decide)]); try (rw [if_pos rfl]); all_goals rfl
    replace hl := lv_sub hl (l' := [(0, .ref h0), (1, .int 1), (2, .int 0)]) [2, 1, 0] rfl
    replace hP := hP.sub (ws' := [(h0, .inr (0, oT uT p9 a9 e9 n9 o9)), (a9, .inl (ca, 3, .inr (.inr (.inr (.inr (mo da)))))), (da 0, .inr (2, oD (F 0) (ra 0) (ka 0))), (da 1, .inr (2, oD (F 1) (ra 1) (ka 1))), (da 2, .inr (2, oD (F 2) (ra 2) (ka 2)))]) [0, 1, 2, 3, 4] rfl
    replace hD := hD.sub (ws' := [(h0, .inr (0, oT uT p9 a9 e9 n9 o9)), (a9, .inl (ca, 3, .inr (.inr (.inr (.inr (mo da)))))), (da 0, .inr (2, oD (F 0) (ra 0) (ka 0))), (da 1, .inr (2, oD (F 1) (ra 1) (ka 1))), (da 2, .inr (2, oD (F 2) (ra 2) (ka 2)))]) [0, 1, 2, 3, 4] (by decide) rfl
    exact cut14_0 F 1 _ _ _ hF (Or.inr (Or.inl rfl)) hSq hl hP hD hS
  · --  2
    refine lv_istore_n hx hb d_T_vote_4 rfl hl (by decide) rfl (fun ls hl => ?_)
    replace hl : lv_has ls 3 [(1, .int 2), (0, .ref h0)] := hl
    refine lv_iload_n hx hb d_T_vote_5 rfl (lv_at hl 0 rfl) ?_
    refine lv_iconst (v := (-1)) hx hb d_T_vote_6 (by decide) ?_
    refine lv_icmp_ne (tgt := 12) hx hb d_T_vote_7 rfl (fun hc65 => ?_) (fun hc65 => by first | exact absurd (by decide) hc65 | exact absurd hc65 (by decide))
    refine lv_iconst (v := 0) hx hb d_T_vote_12 (by decide) ?_
    refine lv_istore_n hx hb d_T_vote_13 rfl hl (by decide) rfl (fun ls hl => ?_)
    replace hl : lv_has ls 3 [(2, .int 0), (1, .int 2), (0, .ref h0)] := hl
    have hSq : SP = s_T_vote_cut14_0 uT F 2 := by rw [← hSP, s_T_vote]; try (rw [← hr60E, bnd_eq]); try (rw [if_neg (by decide)]); try (rw [if_neg (by decide)]); try (rw [if_neg (by decide)]); all_goals rfl
    replace hl := lv_sub hl (l' := [(0, .ref h0), (1, .int 2), (2, .int 0)]) [2, 1, 0] rfl
    replace hP := hP.sub (ws' := [(h0, .inr (0, oT uT p9 a9 e9 n9 o9)), (a9, .inl (ca, 3, .inr (.inr (.inr (.inr (mo da)))))), (da 0, .inr (2, oD (F 0) (ra 0) (ka 0))), (da 1, .inr (2, oD (F 1) (ra 1) (ka 1))), (da 2, .inr (2, oD (F 2) (ra 2) (ka 2)))]) [0, 1, 2, 3, 4] rfl
    replace hD := hD.sub (ws' := [(h0, .inr (0, oT uT p9 a9 e9 n9 o9)), (a9, .inl (ca, 3, .inr (.inr (.inr (.inr (mo da)))))), (da 0, .inr (2, oD (F 0) (ra 0) (ka 0))), (da 1, .inr (2, oD (F 1) (ra 1) (ka 1))), (da 2, .inr (2, oD (F 2) (ra 2) (ka 2)))]) [0, 1, 2, 3, 4] (by decide) rfl
    exact cut14_0 F 2 _ _ _ hF (Or.inr (Or.inr rfl)) hSq hl hP hD hS

set_option maxHeartbeats 4000000 in
set_option maxRecDepth 100000 in
theorem c_T_takeWord (l : Launch) (dC : Nat → ClassId) (dI : Nat → Nat → Nat) (h0 : Nat) (p9 : Nat) (a9 : Nat) (e9 : Nat) (n9 : Nat) (o9 : Nat) (nw9 : Nat) (cN : ClassId) (uT : Nat → Int32) (kN : Nat) (wN : Nat → Int32) (hkN : kN ≤ 64) (hwN : wdI 64 wN) (sz : Nat) : Met l y_T_takeWord (tbw y_T_takeWord b_T_takeWord 2 (some .int)) ({ frames := 1, cells := 0, slots := 0, locals := 21 }) (va_Pc [.ref h0] (fun U => U.heap.size = sz ∧ va_P (dC, dI) classes [(h0, .inr (0, oT uT p9 a9 e9 n9 o9)), (n9, .inr (4, [.ref nw9, .int (nI kN)])), (nw9, .inl (cN, 64, .inl wN))] U.heap ∧ va_K (dC, dI) classes [(cN, .int)] U ∧ va_D (fun _ => True) [(h0, .inr (0, oT uT p9 a9 e9 n9 o9)), (n9, .inr (4, [.ref nw9, .int (nI kN)])), (nw9, .inl (cN, 64, .inl wN))])) (va_Qi (fun (r : Int32) (u9 : Int32) => match u9 with | y10 => (is16 r) ∧ (r, y10) = s_T_takeWord uT kN wN) (fun (u9 : Int32) t => match u9 with | y10 => va_P (dC, dI) classes [(h0, .inr (0, oT (upc uT 10 y10) p9 a9 e9 n9 o9)), (n9, .inr (4, [.ref nw9, .int (nI kN)])), (nw9, .inl (cN, 64, .inl wN))] t.heap ∧ va_K (dC, dI) classes [(cN, .int)] t ∧ va_D (va_A [(h0, .inr (0, oT uT p9 a9 e9 n9 o9)), (n9, .inr (4, [.ref nw9, .int (nI kN)])), (nw9, .inl (cN, 64, .inl wN))] sz) [(h0, .inr (0, oT (upc uT 10 y10) p9 a9 e9 n9 o9)), (n9, .inr (4, [.ref nw9, .int (nI kN)])), (nw9, .inl (cN, 64, .inl wN))]) (va_A [(h0, .inr (0, oT uT p9 a9 e9 n9 o9)), (n9, .inr (4, [.ref nw9, .int (nI kN)])), (nw9, .inl (cN, 64, .inl wN))] sz)) 0 0 (va_A [(h0, .inr (0, oT uT p9 a9 e9 n9 o9)), (n9, .inr (4, [.ref nw9, .int (nI kN)])), (nw9, .inl (cN, 64, .inl wN))] sz) := by
  refine Met.ofW (cc := b_T_takeWord) (maxL := 2) (ret := (some .int)) (by decide) rfl ?_
  intro p e s m args below meth c s₁ B hml hv
  obtain ⟨rfl, hsz, hP, hK, hD0⟩ := hv
  have hx := B.exec
  have hb := B.bytes
  have hr := B.returns
  have hts := atoms_spec (ws := (tbw y_T_takeWord b_T_takeWord 2 (some .int))) B.pre
  have hw : ∀ z9 ∈ tb, z9.before ([.ref h0] : List Value).toArray s = true := fun z9 h => hts z9 (List.mem_cons_of_mem _ h)
  have hown : s.vm.findClass "VotedTriple" = some m.cls := findClass_of_methodNamed B.named
  have hlocks := B.notSynchronized
  subst hsz
  replace hD := hD0.self (sz := s.heap.size)
  generalize hAe : va_A [(h0, .inr (0, oT uT p9 a9 e9 n9 o9)), (n9, .inr (4, [.ref nw9, .int (nI kN)])), (nw9, .inl (cN, 64, .inl wN))] s.heap.size = A at hD ⊢
  have hA : ∀ q : Nat, s.heap.size ≤ q → A q := fun q h => by rw [← hAe]; exact Or.inr h
  have hS : va_S A s.heap s.heap [] := va_S.rf
  replace hl := lv_entry ([.ref h0]) (n := 2) (Nat.le_of_ble_eq_true rfl)
  rw [lg_entry_eq]
  generalize (lg_sl ([.ref h0]) ++ List.replicate (2 - (lg_sl ([.ref h0])).length) Slot.unset).toArray = ls at hl ⊢
  replace hl : lv_has ls 2 [(0, .ref h0)] := hl
  generalize hSP : s_T_takeWord uT kN wN = SP
  refine lv_aload_n hx hb d_T_takeWord_0 rfl (lv_at hl 0 rfl) ?_
  refine va_get (D := (dC, dI)) (ci := 0) (v := .ref n9) (C := "VotedTriple") (T := F_T) (N := 11) hx hb hw in_T hown hK hP 0 rfl rfl 3 (by decide) (hw _ k_197) (fun _ h9 => h9) rfl d_T_takeWord_1 ?_
  refine lv_aload_n hx hb d_T_takeWord_4 rfl (lv_at hl 0 rfl) ?_
  refine va_get (D := (dC, dI)) (ci := 0) (v := .int (uT 10)) (C := "VotedTriple") (T := F_T) (N := 11) hx hb hw in_T hown hK hP 0 rfl rfl 10 (by decide) (hw _ k_204) (fun _ h9 => h9) rfl d_T_takeWord_5 ?_
  replace hPc := hP.sub (ws' := [(n9, .inr (4, [.ref nw9, .int (nI kN)])), (nw9, .inl (cN, 64, .inl wN))]) [1, 2] rfl
  replace hKc := hK.sub (tys' := [(cN, .int)]) [0] rfl
  refine vp_callSi (va_runV (C := "VotedTriple$WordsIn") (As := [.int (uT 10)]) (rest := []) ⟨hx, hb, hml, hown, hw⟩ (c_N_wordAt l dC dI n9 nw9 kN cN wN (uT 10) hkN hwN) (cwV 1 hw (gdV (k_545) (k_620) (k_543) (k_544) (k_6)) rfl rfl rfl (by decide +kernel) ⟨Nat.le_of_ble_eq_true rfl, Nat.le_of_ble_eq_true rfl⟩) ⟨fun a U g mk q => ⟨q.1, q.2.1, va_K.moved (u := U) (U := U.calling g mk a) (Vm.Alike.refl U.vm) q.2.2⟩, va_recv hK hP rfl (q0 := 1) rfl, fun U hU hW => ⟨rfl, by rw [hU]; exact hPc, va_K.moved hW.alike hKc⟩⟩ rfl rfl hl.1 rfl (lv_room (Nat.le_of_ble_eq_true rfl)) d_T_takeWord_8 ⟨Nat.le_of_ble_eq_true rfl, Nat.le_of_ble_eq_true rfl⟩).run (fun r1 hr2 => ?_)
  obtain ⟨hr2, hr2E⟩ := hr2
  refine lv_istore_n hx hb d_T_takeWord_11 rfl hl (by decide) rfl (fun ls hl => ?_)
  replace hl : lv_has ls 2 [(1, .int r1), (0, .ref h0)] := hl
  refine lv_aload_n hx hb d_T_takeWord_12 rfl (lv_at hl 1 rfl) ?_
  refine va_get (D := (dC, dI)) (ci := 0) (v := .int (uT 10)) (C := "VotedTriple") (T := F_T) (N := 11) hx hb hw in_T hown hK hP 0 rfl rfl 10 (by decide) (hw _ k_204) (fun _ h9 => h9) rfl d_T_takeWord_13 ?_
  refine lv_aload_n hx hb d_T_takeWord_16 rfl (lv_at hl 1 rfl) ?_
  refine va_get (D := (dC, dI)) (ci := 0) (v := .ref n9) (C := "VotedTriple") (T := F_T) (N := 11) hx hb hw in_T hown hK hP 0 rfl rfl 3 (by decide) (hw _ k_197) (fun _ h9 => h9) rfl d_T_takeWord_17 ?_
  refine va_get (D := (dC, dI)) (ci := 4) (v := .int (nI kN)) (C := "VotedTriple$WordsIn") (T := F_N) (N := 2) hx hb hw in_N hown hK hP 1 rfl rfl 1 (by decide) (hw _ k_127) (fun _ h9 => h9) rfl d_T_takeWord_20 ?_
  refine lv_icmp_ge (tgt := 36) hx hb d_T_takeWord_23 rfl (fun hc3 => ?_) (fun hc3 => ?_)
  · --  (nI kN) ≤ (uT 10)
    refine lv_iload_n hx hb d_T_takeWord_36 rfl (lv_at hl 0 rfl) ?_
    have hP9 := hP.sub (ws' := [(h0, .inr (0, oT (upc uT 10 (uT 10)) p9 a9 e9 n9 o9)), (n9, .inr (4, [.ref nw9, .int (nI kN)])), (nw9, .inl (cN, 64, .inl wN))]) [0, 1, 2] rfl
    have hD9 := hD.sub (ws' := [(h0, .inr (0, oT (upc uT 10 (uT 10)) p9 a9 e9 n9 o9)), (n9, .inr (4, [.ref nw9, .int (nI kN)])), (nw9, .inl (cN, 64, .inl wN))]) [0, 1, 2] (by decide) rfl
    have hK9 := hK.sub (tys' := [(cN, .int)]) [0] rfl
    refine W.widen (k := 0) (n := 0) (Nat.le_of_ble_eq_true rfl) (Nat.le_of_ble_eq_true rfl) ?_
    exact W.iret (v := r1) hx hb hr (fun t ht hW => ⟨⟨_, (uT 10), rfl, ⟨hr2, (by rw [← hSP, s_T_takeWord]; try (rw [← hr2E, bnd_eq]); try (rw [if_pos hc3]); all_goals rfl)⟩, by rw [ht]; exact hP9, va_K.moved hW.alike hK9, hD9⟩, hS.F ht⟩) hS.2.2 d_T_takeWord_37
  · --  ¬ (nI kN) ≤ (uT 10)
    refine lv_aload_n hx hb d_T_takeWord_26 rfl (lv_at hl 1 rfl) ?_
    refine lv_dup hx hb d_T_takeWord_27 rfl ?_
    refine va_get (D := (dC, dI)) (ci := 0) (v := .int (uT 10)) (C := "VotedTriple") (T := F_T) (N := 11) hx hb hw in_T hown hK hP 0 rfl rfl 10 (by decide) (hw _ k_204) (fun _ h9 => h9) rfl d_T_takeWord_28 ?_
    refine lv_iconst (v := 1) hx hb d_T_takeWord_31 (by decide) ?_
    refine lv_iadd hx hb d_T_takeWord_32 ?_
    refine va_put (D := (dC, dI)) (ci := 0) (v := .int ((uT 10) + (1 : Int32))) (ty := .int) (C := "VotedTriple") (T := F_T) (N := 11) hx hb hw in_T ft_T tyok_T nm_T hown hK hP hD hS 0 rfl rfl 10 (by decide) (hw _ k_204) (fun _ h9 => h9) rfl (by decide +kernel) rfl rfl (Nat.le_of_ble_eq_true rfl) d_T_takeWord_33 (fun H locs hP hD hS => ?_)
    replace hP : va_P (dC, dI) classes [(h0, .inr (0, [.ref p9, .ref a9, .ref e9, .ref n9, .ref o9, .int (uT 5), .int (uT 6), .int (uT 7), .int (uT 8), .int (uT 9), .int ((uT 10) + (1 : Int32))])), (n9, .inr (4, [.ref nw9, .int (nI kN)])), (nw9, .inl (cN, 64, .inl wN))] H := hP
    replace hD : va_D A [(h0, .inr (0, [.ref p9, .ref a9, .ref e9, .ref n9, .ref o9, .int (uT 5), .int (uT 6), .int (uT 7), .int (uT 8), .int (uT 9), .int ((uT 10) + (1 : Int32))])), (n9, .inr (4, [.ref nw9, .int (nI kN)])), (nw9, .inl (cN, 64, .inl wN))] := hD
    refine lv_iload_n hx hb d_T_takeWord_36 rfl (lv_at hl 0 rfl) ?_
    have hP9 := hP.sub (ws' := [(h0, .inr (0, oT (upc uT 10 ((uT 10) + (1 : Int32))) p9 a9 e9 n9 o9)), (n9, .inr (4, [.ref nw9, .int (nI kN)])), (nw9, .inl (cN, 64, .inl wN))]) [0, 1, 2] rfl
    have hD9 := hD.sub (ws' := [(h0, .inr (0, oT (upc uT 10 ((uT 10) + (1 : Int32))) p9 a9 e9 n9 o9)), (n9, .inr (4, [.ref nw9, .int (nI kN)])), (nw9, .inl (cN, 64, .inl wN))]) [0, 1, 2] (by decide) rfl
    have hK9 := hK.sub (tys' := [(cN, .int)]) [0] rfl
    refine W.widen (k := 0) (n := 0) (Nat.le_of_ble_eq_true rfl) (Nat.le_of_ble_eq_true rfl) ?_
    exact W.iret (v := r1) hx hb hr (fun t ht hW => ⟨⟨_, ((uT 10) + (1 : Int32)), rfl, ⟨hr2, (by rw [← hSP, s_T_takeWord]; try (rw [← hr2E, bnd_eq]); try (rw [if_neg hc3]); all_goals rfl)⟩, by rw [ht]; exact hP9, va_K.moved hW.alike hK9, hD9⟩, hS.F ht⟩) hS.2.2 d_T_takeWord_37
