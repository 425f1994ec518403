set_option maxHeartbeats 4000000 in
set_option maxRecDepth 100000 in
theorem c_T_doWhatIsAgreed0 (l : Launch) (dC : Nat → ClassId) (dI : Nat → Nat → Nat) (h0 : Nat) (p9 : Nat) (a9 : Nat) (e9 : Nat) (n9 : Nat) (o9 : Nat) (ca : ClassId) (da : Nat → Nat) (ra : Nat → Nat) (ka : Nat → Nat) (cr : Nat → ClassId) (nw9 : Nat) (cN : ClassId) (ok9 : Nat) (cO : ClassId) (uT : Nat → Int32) (F : Nat → Nat → Int32) (g : Nat → Nat → Int32) (kN : Nat) (wN : Nat → Int32) (ko : Nat) (kp : Nat → Int32) (hF : f3 F) (hg : g3 g) (hkN : kN ≤ 64) (hwN : wdI 64 wN) (hk1 : ko + 1 < 2 ^ 31) (sz : Nat) : Met l y_T_doWhatIsAgreed (tbw y_T_doWhatIsAgreed b_T_doWhatIsAgreed 4 none) ({ frames := 2, cells := 0, slots := 0, locals := 42 }) (va_Pc [.ref h0, .ref (da 0)] (fun U => U.heap.size = sz ∧ va_P (dC, dI) classes [(h0, .inr (0, oT uT p9 a9 e9 n9 o9)), (a9, .inl (ca, 3, .inr (.inr (.inr (.inr (mo da)))))), (da 0, .inr (2, oD (F 0) (ra 0) (ka 0))), (ra 0, .inl (cr 0, 8, .inl (g 0))), (da 1, .inr (2, oD (F 1) (ra 1) (ka 1))), (ra 1, .inl (cr 1, 8, .inl (g 1))), (da 2, .inr (2, oD (F 2) (ra 2) (ka 2))), (ra 2, .inl (cr 2, 8, .inl (g 2))), (n9, .inr (4, [.ref nw9, .int (nI kN)])), (nw9, .inl (cN, 64, .inl wN)), (o9, .inr (5, [.ref ok9, .int (nI ko)])), (ok9, .inl (cO, 300, .inl kp))] U.heap ∧ va_K (dC, dI) classes [(ca, .object "VotedTriple$VotedModule"), (cr 0, .int), (cr 1, .int), (cr 2, .int), (cN, .int), (cO, .int)] U ∧ va_D (fun _ => True) [(h0, .inr (0, oT uT p9 a9 e9 n9 o9)), (a9, .inl (ca, 3, .inr (.inr (.inr (.inr (mo da)))))), (da 0, .inr (2, oD (F 0) (ra 0) (ka 0))), (ra 0, .inl (cr 0, 8, .inl (g 0))), (da 1, .inr (2, oD (F 1) (ra 1) (ka 1))), (ra 1, .inl (cr 1, 8, .inl (g 1))), (da 2, .inr (2, oD (F 2) (ra 2) (ka 2))), (ra 2, .inl (cr 2, 8, .inl (g 2))), (n9, .inr (4, [.ref nw9, .int (nI kN)])), (nw9, .inl (cN, 64, .inl wN)), (o9, .inr (5, [.ref ok9, .int (nI ko)])), (ok9, .inl (cO, 300, .inl kp))])) (va_Qv (fun (u9 : (Nat → Nat → Int32) × Nat × (Nat → Int32) × Int32) => match u9 with | (g2, ko2, kp2, y10) => (g3 g2 ∧ ko2 ≤ ko + 1) ∧ (g2, ko2, kp2, y10) = s_T_doWhatIsAgreed0 uT F g kN wN ko kp) (fun (u9 : (Nat → Nat → Int32) × Nat × (Nat → Int32) × Int32) t => match u9 with | (g2, ko2, kp2, y10) => va_P (dC, dI) classes [(h0, .inr (0, oT (upc uT 10 y10) p9 a9 e9 n9 o9)), (a9, .inl (ca, 3, .inr (.inr (.inr (.inr (mo da)))))), (da 0, .inr (2, oD (F 0) (ra 0) (ka 0))), (ra 0, .inl (cr 0, 8, .inl (g2 0))), (da 1, .inr (2, oD (F 1) (ra 1) (ka 1))), (ra 1, .inl (cr 1, 8, .inl (g2 1))), (da 2, .inr (2, oD (F 2) (ra 2) (ka 2))), (ra 2, .inl (cr 2, 8, .inl (g2 2))), (n9, .inr (4, [.ref nw9, .int (nI kN)])), (nw9, .inl (cN, 64, .inl wN)), (o9, .inr (5, [.ref ok9, .int (nI ko2)])), (ok9, .inl (cO, 300, .inl kp2))] t.heap ∧ va_K (dC, dI) classes [(ca, .object "VotedTriple$VotedModule"), (cr 0, .int), (cr 1, .int), (cr 2, .int), (cN, .int), (cO, .int)] t ∧ va_D (va_A [(h0, .inr (0, oT uT p9 a9 e9 n9 o9)), (a9, .inl (ca, 3, .inr (.inr (.inr (.inr (mo da)))))), (da 0, .inr (2, oD (F 0) (ra 0) (ka 0))), (ra 0, .inl (cr 0, 8, .inl (g 0))), (da 1, .inr (2, oD (F 1) (ra 1) (ka 1))), (ra 1, .inl (cr 1, 8, .inl (g 1))), (da 2, .inr (2, oD (F 2) (ra 2) (ka 2))), (ra 2, .inl (cr 2, 8, .inl (g 2))), (n9, .inr (4, [.ref nw9, .int (nI kN)])), (nw9, .inl (cN, 64, .inl wN)), (o9, .inr (5, [.ref ok9, .int (nI ko)])), (ok9, .inl (cO, 300, .inl kp))] sz) [(h0, .inr (0, oT (upc uT 10 y10) p9 a9 e9 n9 o9)), (a9, .inl (ca, 3, .inr (.inr (.inr (.inr (mo da)))))), (da 0, .inr (2, oD (F 0) (ra 0) (ka 0))), (ra 0, .inl (cr 0, 8, .inl (g2 0))), (da 1, .inr (2, oD (F 1) (ra 1) (ka 1))), (ra 1, .inl (cr 1, 8, .inl (g2 1))), (da 2, .inr (2, oD (F 2) (ra 2) (ka 2))), (ra 2, .inl (cr 2, 8, .inl (g2 2))), (n9, .inr (4, [.ref nw9, .int (nI kN)])), (nw9, .inl (cN, 64, .inl wN)), (o9, .inr (5, [.ref ok9, .int (nI ko2)])), (ok9, .inl (cO, 300, .inl kp2))]) (va_A [(h0, .inr (0, oT uT p9 a9 e9 n9 o9)), (a9, .inl (ca, 3, .inr (.inr (.inr (.inr (mo da)))))), (da 0, .inr (2, oD (F 0) (ra 0) (ka 0))), (ra 0, .inl (cr 0, 8, .inl (g 0))), (da 1, .inr (2, oD (F 1) (ra 1) (ka 1))), (ra 1, .inl (cr 1, 8, .inl (g 1))), (da 2, .inr (2, oD (F 2) (ra 2) (ka 2))), (ra 2, .inl (cr 2, 8, .inl (g 2))), (n9, .inr (4, [.ref nw9, .int (nI kN)])), (nw9, .inl (cN, 64, .inl wN)), (o9, .inr (5, [.ref ok9, .int (nI ko)])), (ok9, .inl (cO, 300, .inl kp))] sz)) 0 0 (va_A [(h0, .inr (0, oT uT p9 a9 e9 n9 o9)), (a9, .inl (ca, 3, .inr (.inr (.inr (.inr (mo da)))))), (da 0, .inr (2, oD (F 0) (ra 0) (ka 0))), (ra 0, .inl (cr 0, 8, .inl (g 0))), (da 1, .inr (2, oD (F 1) (ra 1) (ka 1))), (ra 1, .inl (cr 1, 8, .inl (g 1))), (da 2, .inr (2, oD (F 2) (ra 2) (ka 2))), (ra 2, .inl (cr 2, 8, .inl (g 2))), (n9, .inr (4, [.ref nw9, .int (nI kN)])), (nw9, .inl (cN, 64, .inl wN)), (o9, .inr (5, [.ref ok9, .int (nI ko)])), (ok9, .inl (cO, 300, .inl kp))] sz) := by
  refine Met.ofW (cc := b_T_doWhatIsAgreed) (maxL := 4) (ret := none) (by decide) rfl ?_
  intro p e s m args below meth c s₁ B hml hv
  obtain ⟨rfl, hsz, hP, hK, hD0⟩ := hv
  have hx := B.exec
  have hb := B.bytes
  have hr := B.returns
  have hts := atoms_spec (ws := (tbw y_T_doWhatIsAgreed b_T_doWhatIsAgreed 4 none)) B.pre
  have hw : ∀ z9 ∈ tb, z9.before ([.ref h0, .ref (da 0)] : List Value).toArray s = true := fun z9 h => hts z9 (List.mem_cons_of_mem _ h)
  have hown : s.vm.findClass "VotedTriple" = some m.cls := findClass_of_methodNamed B.named
  have hlocks := B.notSynchronized
  subst hsz
  replace hD := hD0.self (sz := s.heap.size)
  generalize hAe : va_A [(h0, .inr (0, oT uT p9 a9 e9 n9 o9)), (a9, .inl (ca, 3, .inr (.inr (.inr (.inr (mo da)))))), (da 0, .inr (2, oD (F 0) (ra 0) (ka 0))), (ra 0, .inl (cr 0, 8, .inl (g 0))), (da 1, .inr (2, oD (F 1) (ra 1) (ka 1))), (ra 1, .inl (cr 1, 8, .inl (g 1))), (da 2, .inr (2, oD (F 2) (ra 2) (ka 2))), (ra 2, .inl (cr 2, 8, .inl (g 2))), (n9, .inr (4, [.ref nw9, .int (nI kN)])), (nw9, .inl (cN, 64, .inl wN)), (o9, .inr (5, [.ref ok9, .int (nI ko)])), (ok9, .inl (cO, 300, .inl kp))] s.heap.size = A at hD ⊢
  have hA : ∀ q : Nat, s.heap.size ≤ q → A q := fun q h => by rw [← hAe]; exact Or.inr h
  have hS : va_S A s.heap s.heap [] := va_S.rf
  replace hl := lv_entry ([.ref h0, .ref (da 0)]) (n := 4) (Nat.le_of_ble_eq_true rfl)
  rw [lg_entry_eq]
  generalize (lg_sl ([.ref h0, .ref (da 0)]) ++ List.replicate (4 - (lg_sl ([.ref h0, .ref (da 0)])).length) Slot.unset).toArray = ls at hl ⊢
  replace hl : lv_has ls 4 [(0, .ref h0), (1, .ref (da 0))] := hl
  generalize hSP : s_T_doWhatIsAgreed0 uT F g kN wN ko kp = SP
  have cut39_3 : ∀ (y10 : Int32) (g : Nat → Nat → Int32) (ko2 : Nat) (kp2 : Nat → Int32) (w2 : Int32) (ls : Array Slot) (H : Heap) (locs : List Loc), g3 g → is16 w2 → ko2 ≤ ko + 1 → SP = s_T_doWhatIsAgreed0_cut39_3 uT y10 g ko2 kp2 w2 →  lv_has ls 4 [(0, .ref h0), (1, .ref (da 0)), (2, .int w2), (3, .int 3)] → va_P (dC, dI) classes [(h0, .inr (0, oT (upc uT 10 y10) p9 a9 e9 n9 o9)), (a9, .inl (ca, 3, .inr (.inr (.inr (.inr (mo da)))))), (da 0, .inr (2, oD (F 0) (ra 0) (ka 0))), (ra 0, .inl (cr 0, 8, .inl (g 0))), (da 1, .inr (2, oD (F 1) (ra 1) (ka 1))), (ra 1, .inl (cr 1, 8, .inl (g 1))), (da 2, .inr (2, oD (F 2) (ra 2) (ka 2))), (ra 2, .inl (cr 2, 8, .inl (g 2))), (n9, .inr (4, [.ref nw9, .int (nI kN)])), (nw9, .inl (cN, 64, .inl wN)), (o9, .inr (5, [.ref ok9, .int (nI ko2)])), (ok9, .inl (cO, 300, .inl kp2))] H → va_D A [(h0, .inr (0, oT (upc uT 10 y10) p9 a9 e9 n9 o9)), (a9, .inl (ca, 3, .inr (.inr (.inr (.inr (mo da)))))), (da 0, .inr (2, oD (F 0) (ra 0) (ka 0))), (ra 0, .inl (cr 0, 8, .inl (g 0))), (da 1, .inr (2, oD (F 1) (ra 1) (ka 1))), (ra 1, .inl (cr 1, 8, .inl (g 1))), (da 2, .inr (2, oD (F 2) (ra 2) (ka 2))), (ra 2, .inl (cr 2, 8, .inl (g 2))), (n9, .inr (4, [.ref nw9, .int (nI kN)])), (nw9, .inl (cN, 64, .inl wN)), (o9, .inr (5, [.ref ok9, .int (nI ko2)])), (ok9, .inl (cO, 300, .inl kp2))] → va_S A s.heap H locs → W p l e (headSpec (tbw y_T_doWhatIsAgreed b_T_doWhatIsAgreed 4 none) ({ frames := 2, cells := 0, slots := 0, locals := 42 })).room s m ([.ref h0, .ref (da 0)] : List Value).toArray below meth c H locs 0 0 (MQ below (va_Qv (fun (u9 : (Nat → Nat → Int32) × Nat × (Nat → Int32) × Int32) => match u9 with | (g2, ko2, kp2, y10) => (g3 g2 ∧ ko2 ≤ ko + 1) ∧ (g2, ko2, kp2, y10) = SP) (fun (u9 : (Nat → Nat → Int32) × Nat × (Nat → Int32) × Int32) t => match u9 with | (g2, ko2, kp2, y10) => va_P (dC, dI) classes [(h0, .inr (0, oT (upc uT 10 y10) p9 a9 e9 n9 o9)), (a9, .inl (ca, 3, .inr (.inr (.inr (.inr (mo da)))))), (da 0, .inr (2, oD (F 0) (ra 0) (ka 0))), (ra 0, .inl (cr 0, 8, .inl (g2 0))), (da 1, .inr (2, oD (F 1) (ra 1) (ka 1))), (ra 1, .inl (cr 1, 8, .inl (g2 1))), (da 2, .inr (2, oD (F 2) (ra 2) (ka 2))), (ra 2, .inl (cr 2, 8, .inl (g2 2))), (n9, .inr (4, [.ref nw9, .int (nI kN)])), (nw9, .inl (cN, 64, .inl wN)), (o9, .inr (5, [.ref ok9, .int (nI ko2)])), (ok9, .inl (cO, 300, .inl kp2))] t.heap ∧ va_K (dC, dI) classes [(ca, .object "VotedTriple$VotedModule"), (cr 0, .int), (cr 1, .int), (cr 2, .int), (cN, .int), (cO, .int)] t ∧ va_D A [(h0, .inr (0, oT (upc uT 10 y10) p9 a9 e9 n9 o9)), (a9, .inl (ca, 3, .inr (.inr (.inr (.inr (mo da)))))), (da 0, .inr (2, oD (F 0) (ra 0) (ka 0))), (ra 0, .inl (cr 0, 8, .inl (g2 0))), (da 1, .inr (2, oD (F 1) (ra 1) (ka 1))), (ra 1, .inl (cr 1, 8, .inl (g2 1))), (da 2, .inr (2, oD (F 2) (ra 2) (ka 2))), (ra 2, .inl (cr 2, 8, .inl (g2 2))), (n9, .inr (4, [.ref nw9, .int (nI kN)])), (nw9, .inl (cN, 64, .inl wN)), (o9, .inr (5, [.ref ok9, .int (nI ko2)])), (ok9, .inl (cO, 300, .inl kp2))]) A) ([.ref h0, .ref (da 0)] : List Value).toArray s 0 0 A) (F0 m 39 ls []) := by
    intro y10 g ko2 kp2 w2 ls H locs hg h29 h39 hSq0 hl hP hD hS
    refine lv_iload_n hx hb d_T_doWhatIsAgreed_39 rfl (lv_at hl 3 rfl) ?_
    refine lv_iconst (v := 3) hx hb d_T_doWhatIsAgreed_40 (by decide) ?_
    refine lv_icmp_ge (tgt := 72) hx hb d_T_doWhatIsAgreed_41 rfl (fun hc1 => ?_) (fun hc1 => by first | exact absurd (by decide) hc1 | exact absurd hc1 (by decide))
    have hP9 := hP.sub (ws' := [(h0, .inr (0, oT (upc uT 10 (upc uT 10 y10 10)) p9 a9 e9 n9 o9)), (a9, .inl (ca, 3, .inr (.inr (.inr (.inr (mo da)))))), (da 0, .inr (2, oD (F 0) (ra 0) (ka 0))), (ra 0, .inl (cr 0, 8, .inl (g 0))), (da 1, .inr (2, oD (F 1) (ra 1) (ka 1))), (ra 1, .inl (cr 1, 8, .inl (g 1))), (da 2, .inr (2, oD (F 2) (ra 2) (ka 2))), (ra 2, .inl (cr 2, 8, .inl (g 2))), (n9, .inr (4, [.ref nw9, .int (nI kN)])), (nw9, .inl (cN, 64, .inl wN)), (o9, .inr (5, [.ref ok9, .int (nI ko2)])), (ok9, .inl (cO, 300, .inl kp2))]) [0, 1, 2, 3, 4, 5, 6, 7, 8, 9, 10, 11] rfl
    have hD9 := hD.sub (ws' := [(h0, .inr (0, oT (upc uT 10 (upc uT 10 y10 10)) p9 a9 e9 n9 o9)), (a9, .inl (ca, 3, .inr (.inr (.inr (.inr (mo da)))))), (da 0, .inr (2, oD (F 0) (ra 0) (ka 0))), (ra 0, .inl (cr 0, 8, .inl (g 0))), (da 1, .inr (2, oD (F 1) (ra 1) (ka 1))), (ra 1, .inl (cr 1, 8, .inl (g 1))), (da 2, .inr (2, oD (F 2) (ra 2) (ka 2))), (ra 2, .inl (cr 2, 8, .inl (g 2))), (n9, .inr (4, [.ref nw9, .int (nI kN)])), (nw9, .inl (cN, 64, .inl wN)), (o9, .inr (5, [.ref ok9, .int (nI ko2)])), (ok9, .inl (cO, 300, .inl kp2))]) [0, 1, 2, 3, 4, 5, 6, 7, 8, 9, 10, 11] (by decide) rfl
    have hK9 := hK.sub (tys' := [(ca, .object "VotedTriple$VotedModule"), (cr 0, .int), (cr 1, .int), (cr 2, .int), (cN, .int), (cO, .int)]) [0, 1, 2, 3, 4, 5] rfl
    refine W.widen (k := 0) (n := 0) (Nat.le_of_ble_eq_true rfl) (Nat.le_of_ble_eq_true rfl) ?_
    exact W.vret hx hb hr (fun t ht hW => ⟨⟨(g, ko2, kp2, upc uT 10 y10 10), rfl, ⟨⟨hg, h39⟩, (by rw [hSq0, s_T_doWhatIsAgreed0_cut39_3]; all_goals rfl)⟩, by rw [ht]; exact hP9, va_K.moved hW.alike hK9, hD9⟩, hS.F ht⟩) hS.2.2 d_T_doWhatIsAgreed_72
  have cut39_2 : ∀ (y10 : Int32) (g : Nat → Nat → Int32) (ko2 : Nat) (kp2 : Nat → Int32) (w2 : Int32) (ls : Array Slot) (H : Heap) (locs : List Loc), g3 g → is16 w2 → ko2 ≤ ko + 1 → SP = s_T_doWhatIsAgreed0_cut39_2 uT F y10 g ko2 kp2 w2 →  lv_has ls 4 [(0, .ref h0), (1, .ref (da 0)), (2, .int w2), (3, .int 2)] → va_P (dC, dI) classes [(h0, .inr (0, oT (upc uT 10 y10) p9 a9 e9 n9 o9)), (a9, .inl (ca, 3, .inr (.inr (.inr (.inr (mo da)))))), (da 0, .inr (2, oD (F 0) (ra 0) (ka 0))), (ra 0, .inl (cr 0, 8, .inl (g 0))), (da 1, .inr (2, oD (F 1) (ra 1) (ka 1))), (ra 1, .inl (cr 1, 8, .inl (g 1))), (da 2, .inr (2, oD (F 2) (ra 2) (ka 2))), (ra 2, .inl (cr 2, 8, .inl (g 2))), (n9, .inr (4, [.ref nw9, .int (nI kN)])), (nw9, .inl (cN, 64, .inl wN)), (o9, .inr (5, [.ref ok9, .int (nI ko2)])), (ok9, .inl (cO, 300, .inl kp2))] H → va_D A [(h0, .inr (0, oT (upc uT 10 y10) p9 a9 e9 n9 o9)), (a9, .inl (ca, 3, .inr (.inr (.inr (.inr (mo da)))))), (da 0, .inr (2, oD (F 0) (ra 0) (ka 0))), (ra 0, .inl (cr 0, 8, .inl (g 0))), (da 1, .inr (2, oD (F 1) (ra 1) (ka 1))), (ra 1, .inl (cr 1, 8, .inl (g 1))), (da 2, .inr (2, oD (F 2) (ra 2) (ka 2))), (ra 2, .inl (cr 2, 8, .inl (g 2))), (n9, .inr (4, [.ref nw9, .int (nI kN)])), (nw9, .inl (cN, 64, .inl wN)), (o9, .inr (5, [.ref ok9, .int (nI ko2)])), (ok9, .inl (cO, 300, .inl kp2))] → va_S A s.heap H locs → W p l e (headSpec (tbw y_T_doWhatIsAgreed b_T_doWhatIsAgreed 4 none) ({ frames := 2, cells := 0, slots := 0, locals := 42 })).room s m ([.ref h0, .ref (da 0)] : List Value).toArray below meth c H locs 0 0 (MQ below (va_Qv (fun (u9 : (Nat → Nat → Int32) × Nat × (Nat → Int32) × Int32) => match u9 with | (g2, ko2, kp2, y10) => (g3 g2 ∧ ko2 ≤ ko + 1) ∧ (g2, ko2, kp2, y10) = SP) (fun (u9 : (Nat → Nat → Int32) × Nat × (Nat → Int32) × Int32) t => match u9 with | (g2, ko2, kp2, y10) => va_P (dC, dI) classes [(h0, .inr (0, oT (upc uT 10 y10) p9 a9 e9 n9 o9)), (a9, .inl (ca, 3, .inr (.inr (.inr (.inr (mo da)))))), (da 0, .inr (2, oD (F 0) (ra 0) (ka 0))), (ra 0, .inl (cr 0, 8, .inl (g2 0))), (da 1, .inr (2, oD (F 1) (ra 1) (ka 1))), (ra 1, .inl (cr 1, 8, .inl (g2 1))), (da 2, .inr (2, oD (F 2) (ra 2) (ka 2))), (ra 2, .inl (cr 2, 8, .inl (g2 2))), (n9, .inr (4, [.ref nw9, .int (nI kN)])), (nw9, .inl (cN, 64, .inl wN)), (o9, .inr (5, [.ref ok9, .int (nI ko2)])), (ok9, .inl (cO, 300, .inl kp2))] t.heap ∧ va_K (dC, dI) classes [(ca, .object "VotedTriple$VotedModule"), (cr 0, .int), (cr 1, .int), (cr 2, .int), (cN, .int), (cO, .int)] t ∧ va_D A [(h0, .inr (0, oT (upc uT 10 y10) p9 a9 e9 n9 o9)), (a9, .inl (ca, 3, .inr (.inr (.inr (.inr (mo da)))))), (da 0, .inr (2, oD (F 0) (ra 0) (ka 0))), (ra 0, .inl (cr 0, 8, .inl (g2 0))), (da 1, .inr (2, oD (F 1) (ra 1) (ka 1))), (ra 1, .inl (cr 1, 8, .inl (g2 1))), (da 2, .inr (2, oD (F 2) (ra 2) (ka 2))), (ra 2, .inl (cr 2, 8, .inl (g2 2))), (n9, .inr (4, [.ref nw9, .int (nI kN)])), (nw9, .inl (cN, 64, .inl wN)), (o9, .inr (5, [.ref ok9, .int (nI ko2)])), (ok9, .inl (cO, 300, .inl kp2))]) A) ([.ref h0, .ref (da 0)] : List Value).toArray s 0 0 A) (F0 m 39 ls []) := by
    intro y10 g ko2 kp2 w2 ls H locs hg h29 h39 hSq0 hl hP hD hS
    refine lv_iload_n hx hb d_T_doWhatIsAgreed_39 rfl (lv_at hl 3 rfl) ?_
    refine lv_iconst (v := 3) hx hb d_T_doWhatIsAgreed_40 (by decide) ?_
    refine lv_icmp_ge (tgt := 72) hx hb d_T_doWhatIsAgreed_41 rfl (fun hc2 => by first | exact absurd hc2 (by decide) | exact absurd (by decide) hc2) (fun hc2 => ?_)
    refine lv_aload_n hx hb d_T_doWhatIsAgreed_44 rfl (lv_at hl 0 rfl) ?_
    refine va_get (D := (dC, dI)) (ci := 0) (v := .ref a9) (C := "VotedTriple") (T := F_T) (N := 11) hx hb hw in_T hown hK hP 0 rfl rfl 1 (by decide) (hw _ k_195) (fun _ h9 => h9) rfl d_T_doWhatIsAgreed_45 ?_
    refine lv_iload_n hx hb d_T_doWhatIsAgreed_48 rfl (lv_at hl 3 rfl) ?_
    refine va_aldq hx hb hK hP 1 0 rfl rfl (by unfold vp_in; decide) d_T_doWhatIsAgreed_49 ?_
    refine W.eq (g2 := F0 m 50 ls [.ref (da 2)]) rfl ?_
    refine va_get (D := (dC, dI)) (ci := 2) (v := .int (F 2 8)) (C := "VotedTriple$VotedModule") (T := F_D) (N := 19) hx hb hw in_D hown hK hP 6 rfl rfl 8 (by decide) (hw _ k_143) (fun _ h9 => h9) rfl d_T_doWhatIsAgreed_50 ?_
    refine lv_if_ne (tgt := 66) hx hb d_T_doWhatIsAgreed_53 rfl (fun hc3 => ?_) (fun hc3 => ?_)
    · --  ¬ (F 2 8) = 0
      refine lv_iinc (k := 3) (v := 3) hx hb d_T_doWhatIsAgreed_66 hl rfl rfl (by decide) rfl (fun ls hl => ?_)
      replace hl : lv_has ls 4 [(3, .int 3), (0, .ref h0), (1, .ref (da 0)), (2, .int w2)] := hl
      refine lv_goto (tgt := 39) hx hb d_T_doWhatIsAgreed_69 rfl ?_
      have hSq : SP = s_T_doWhatIsAgreed0_cut39_3 uT (upc uT 10 y10 10) g ko2 kp2 w2 := by rw [hSq0, s_T_doWhatIsAgreed0_cut39_2]; try (rw [if_neg hc3]); all_goals rfl
      replace hl := lv_sub hl (l' := [(0, .ref h0), (1, .ref (da 0)), (2, .int w2), (3, .int 3)]) [1, 2, 3, 0] rfl
      replace hP := hP.sub (ws' := [(h0, .inr (0, oT (upc uT 10 (upc uT 10 y10 10)) p9 a9 e9 n9 o9)), (a9, .inl (ca, 3, .inr (.inr (.inr (.inr (mo da)))))), (da 0, .inr (2, oD (F 0) (ra 0) (ka 0))), (ra 0, .inl (cr 0, 8, .inl (g 0))), (da 1, .inr (2, oD (F 1) (ra 1) (ka 1))), (ra 1, .inl (cr 1, 8, .inl (g 1))), (da 2, .inr (2, oD (F 2) (ra 2) (ka 2))), (ra 2, .inl (cr 2, 8, .inl (g 2))), (n9, .inr (4, [.ref nw9, .int (nI kN)])), (nw9, .inl (cN, 64, .inl wN)), (o9, .inr (5, [.ref ok9, .int (nI ko2)])), (ok9, .inl (cO, 300, .inl kp2))]) [0, 1, 2, 3, 4, 5, 6, 7, 8, 9, 10, 11] rfl
      replace hD := hD.sub (ws' := [(h0, .inr (0, oT (upc uT 10 (upc uT 10 y10 10)) p9 a9 e9 n9 o9)), (a9, .inl (ca, 3, .inr (.inr (.inr (.inr (mo da)))))), (da 0, .inr (2, oD (F 0) (ra 0) (ka 0))), (ra 0, .inl (cr 0, 8, .inl (g 0))), (da 1, .inr (2, oD (F 1) (ra 1) (ka 1))), (ra 1, .inl (cr 1, 8, .inl (g 1))), (da 2, .inr (2, oD (F 2) (ra 2) (ka 2))), (ra 2, .inl (cr 2, 8, .inl (g 2))), (n9, .inr (4, [.ref nw9, .int (nI kN)])), (nw9, .inl (cN, 64, .inl wN)), (o9, .inr (5, [.ref ok9, .int (nI ko2)])), (ok9, .inl (cO, 300, .inl kp2))]) [0, 1, 2, 3, 4, 5, 6, 7, 8, 9, 10, 11] (by decide) rfl
      exact cut39_3 (upc uT 10 y10 10) g ko2 kp2 w2 _ _ _ hg h29 h39 hSq hl hP hD hS
    · --  (F 2 8) = 0
      refine lv_aload_n hx hb d_T_doWhatIsAgreed_56 rfl (lv_at hl 0 rfl) ?_
      refine va_get (D := (dC, dI)) (ci := 0) (v := .ref a9) (C := "VotedTriple") (T := F_T) (N := 11) hx hb hw in_T hown hK hP 0 rfl rfl 1 (by decide) (hw _ k_195) (fun _ h9 => h9) rfl d_T_doWhatIsAgreed_57 ?_
      refine lv_iload_n hx hb d_T_doWhatIsAgreed_60 rfl (lv_at hl 3 rfl) ?_
      refine va_aldq hx hb hK hP 1 0 rfl rfl (by unfold vp_in; decide) d_T_doWhatIsAgreed_61 ?_
      refine W.eq (g2 := F0 m 62 ls [.ref (da 2)]) rfl ?_
      refine lv_iload_n hx hb d_T_doWhatIsAgreed_62 rfl (lv_at hl 2 rfl) ?_
      replace hPc := hP.sub (ws' := [(da 2, .inr (2, oD (F 2) (ra 2) (ka 2))), (ra 2, .inl (cr 2, 8, .inl (g 2)))]) [6, 7] rfl
      replace hKc := hK.sub (tys' := [(cr 2, .int)]) [3] rfl
      replace hDc := hD.sub (ws' := [(da 2, .inr (2, oD (F 2) (ra 2) (ka 2))), (ra 2, .inl (cr 2, 8, .inl (g 2)))]) [6, 7] (by decide) rfl
      replace hFc := va_free (wc := [(da 2, .inr (2, oD (F 2) (ra 2) (ka 2))), (ra 2, .inl (cr 2, 8, .inl (g 2)))]) hD hS hA [6, 7] rfl
      refine va_callv (va_runU (C := "VotedTriple$VotedModule") (As := [.int w2]) (rest := []) ⟨hx, hb, hml, hown, hw⟩ (c_C_receive_D l dC dI (da 2) (ra 2) (ka 2) (F 2) (cr 2) (g 2) w2 hF.2.2.2.1 h29 hg.2.2 H.size) (va_cwU (C := "VotedTriple$VotedModule") (owner := "VotedTriple$Processor") (x := ⟨"VotedTriple$VotedModule", "receive", "(I)V"⟩) (y := y_C_receive) 1 hw (gd_l (List.forall_mem_cons.mpr ⟨k_622, List.forall_mem_cons.mpr ⟨k_623, List.forall_mem_cons.mpr ⟨k_624, List.forall_mem_cons.mpr ⟨k_550, List.forall_mem_cons.mpr ⟨k_3, fun _ h => absurd h List.not_mem_nil⟩⟩⟩⟩⟩) (gd (k_551))) rfl rfl rfl rfl (by decide +kernel) ⟨Nat.le_of_ble_eq_true rfl, Nat.le_of_ble_eq_true rfl⟩) ⟨fun a U g mk q => by obtain ⟨q0, q1, qP, qK, qD⟩ := q; exact ⟨q0, q1, qP, va_K.moved (u := U) (U := U.calling g mk a) (Vm.Alike.refl U.vm) qK, qD⟩, va_recv hK hP rfl (q0 := 6) rfl, fun U hU hW => ⟨rfl, by rw [hU], by rw [hU]; exact hPc, va_K.moved hW.alike hKc, hDc.weaken (fun _ _ _ _ => trivial)⟩⟩ rfl rfl hl.1 rfl (lv_room (Nat.le_of_ble_eq_true rfl)) d_T_doWhatIsAgreed_63 ⟨Nat.le_of_ble_eq_true rfl, Nat.le_of_ble_eq_true rfl⟩) hS (fun q _ h => hFc q h) hFc (fun u9 t H1 locs ht hvm hr5 hB hz1 hk1 hS => ?_)
      obtain ⟨g6, rfl⟩ : ∃ z, z = u9 := ⟨_, rfl⟩
      obtain ⟨hP1, hK1, hD1⟩ := hB
      rw [ht] at hP1
      replace hK1 := va_K.moved hvm.symm hK1
      try dsimp only at hr5 hP1 hK1 hD1
      obtain ⟨hr5, hr5E⟩ := hr5
      obtain ⟨hPz, hDz⟩ := va_join (wr := [(h0, .inr (0, oT (upc uT 10 y10) p9 a9 e9 n9 o9)), (a9, .inl (ca, 3, .inr (.inr (.inr (.inr (mo da)))))), (da 0, .inr (2, oD (F 0) (ra 0) (ka 0))), (ra 0, .inl (cr 0, 8, .inl (g 0))), (da 1, .inr (2, oD (F 1) (ra 1) (ka 1))), (ra 1, .inl (cr 1, 8, .inl (g 1))), (n9, .inr (4, [.ref nw9, .int (nI kN)])), (nw9, .inl (cN, 64, .inl wN)), (o9, .inr (5, [.ref ok9, .int (nI ko2)])), (ok9, .inl (cO, 300, .inl kp2))]) (w1 := [(da 2, .inr (2, oD (F 2) (ra 2) (ka 2))), (ra 2, .inl (cr 2, 8, .inl g6))]) hP hD [6, 7] [0, 1, 2, 3, 4, 5, 8, 9, 10, 11] rfl rfl (by decide) (by decide) hk1 hFc hP1 hD1
      clear hP hD hPc hDc hP1 hD1 hFc
      have hP := hPz
      have hD := hDz
      clear hPz hDz
      replace hK := (hK.sub (tys' := [(ca, .object "VotedTriple$VotedModule"), (cr 0, .int), (cr 1, .int), (cN, .int), (cO, .int)]) [0, 1, 2, 4, 5] rfl).app hK1
      clear hK1 hKc
      generalize H1 = H at hP hS ⊢
      replace hP : va_P (dC, dI) classes [(h0, .inr (0, oT (upc uT 10 y10) p9 a9 e9 n9 o9)), (a9, .inl (ca, 3, .inr (.inr (.inr (.inr (mo da)))))), (da 0, .inr (2, oD (F 0) (ra 0) (ka 0))), (ra 0, .inl (cr 0, 8, .inl (g 0))), (da 1, .inr (2, oD (F 1) (ra 1) (ka 1))), (ra 1, .inl (cr 1, 8, .inl (g 1))), (n9, .inr (4, [.ref nw9, .int (nI kN)])), (nw9, .inl (cN, 64, .inl wN)), (o9, .inr (5, [.ref ok9, .int (nI ko2)])), (ok9, .inl (cO, 300, .inl kp2)), (da 2, .inr (2, oD (F 2) (ra 2) (ka 2))), (ra 2, .inl (cr 2, 8, .inl g6))] H := hP
      replace hD : va_D A [(h0, .inr (0, oT (upc uT 10 y10) p9 a9 e9 n9 o9)), (a9, .inl (ca, 3, .inr (.inr (.inr (.inr (mo da)))))), (da 0, .inr (2, oD (F 0) (ra 0) (ka 0))), (ra 0, .inl (cr 0, 8, .inl (g 0))), (da 1, .inr (2, oD (F 1) (ra 1) (ka 1))), (ra 1, .inl (cr 1, 8, .inl (g 1))), (n9, .inr (4, [.ref nw9, .int (nI kN)])), (nw9, .inl (cN, 64, .inl wN)), (o9, .inr (5, [.ref ok9, .int (nI ko2)])), (ok9, .inl (cO, 300, .inl kp2)), (da 2, .inr (2, oD (F 2) (ra 2) (ka 2))), (ra 2, .inl (cr 2, 8, .inl g6))] := hD
      replace hK : va_K (dC, dI) classes [(ca, .object "VotedTriple$VotedModule"), (cr 0, .int), (cr 1, .int), (cN, .int), (cO, .int), (cr 2, .int)] s := hK
      refine W.widen (k := 0) (n := 0) (Nat.le_of_ble_eq_true rfl) (Nat.le_of_ble_eq_true rfl) ?_
      refine lv_iinc (k := 3) (v := 3) hx hb d_T_doWhatIsAgreed_66 hl rfl rfl (by decide) rfl (fun ls hl => ?_)
      replace hl : lv_has ls 4 [(3, .int 3), (0, .ref h0), (1, .ref (da 0)), (2, .int w2)] := hl
      refine lv_goto (tgt := 39) hx hb d_T_doWhatIsAgreed_69 rfl ?_
      have hSq : SP = s_T_doWhatIsAgreed0_cut39_3 uT (upc uT 10 y10 10) (tri (g 0) (g 1) g6) ko2 kp2 w2 := by rw [hSq0, s_T_doWhatIsAgreed0_cut39_2]; try (rw [if_pos hc3]); try (rw [← hr5E, bnd_eq]); all_goals rfl
      replace hl := lv_sub hl (l' := [(0, .ref h0), (1, .ref (da 0)), (2, .int w2), (3, .int 3)]) [1, 2, 3, 0] rfl
      replace hP := hP.sub (ws' := [(h0, .inr (0, oT (upc uT 10 (upc uT 10 y10 10)) p9 a9 e9 n9 o9)), (a9, .inl (ca, 3, .inr (.inr (.inr (.inr (mo da)))))), (da 0, .inr (2, oD (F 0) (ra 0) (ka 0))), (ra 0, .inl (cr 0, 8, .inl (tri (g 0) (g 1) g6 0))), (da 1, .inr (2, oD (F 1) (ra 1) (ka 1))), (ra 1, .inl (cr 1, 8, .inl (tri (g 0) (g 1) g6 1))), (da 2, .inr (2, oD (F 2) (ra 2) (ka 2))), (ra 2, .inl (cr 2, 8, .inl (tri (g 0) (g 1) g6 2))), (n9, .inr (4, [.ref nw9, .int (nI kN)])), (nw9, .inl (cN, 64, .inl wN)), (o9, .inr (5, [.ref ok9, .int (nI ko2)])), (ok9, .inl (cO, 300, .inl kp2))]) [0, 1, 2, 3, 4, 5, 10, 11, 6, 7, 8, 9] rfl
      replace hD := hD.sub (ws' := [(h0, .inr (0, oT (upc uT 10 (upc uT 10 y10 10)) p9 a9 e9 n9 o9)), (a9, .inl (ca, 3, .inr (.inr (.inr (.inr (mo da)))))), (da 0, .inr (2, oD (F 0) (ra 0) (ka 0))), (ra 0, .inl (cr 0, 8, .inl (tri (g 0) (g 1) g6 0))), (da 1, .inr (2, oD (F 1) (ra 1) (ka 1))), (ra 1, .inl (cr 1, 8, .inl (tri (g 0) (g 1) g6 1))), (da 2, .inr (2, oD (F 2) (ra 2) (ka 2))), (ra 2, .inl (cr 2, 8, .inl (tri (g 0) (g 1) g6 2))), (n9, .inr (4, [.ref nw9, .int (nI kN)])), (nw9, .inl (cN, 64, .inl wN)), (o9, .inr (5, [.ref ok9, .int (nI ko2)])), (ok9, .inl (cO, 300, .inl kp2))]) [0, 1, 2, 3, 4, 5, 10, 11, 6, 7, 8, 9] (by decide) rfl
      exact cut39_3 (upc uT 10 y10 10) (tri (g 0) (g 1) g6) ko2 kp2 w2 _ _ _ (⟨hg.1, hg.2.1, hr5⟩) h29 h39 hSq hl hP hD hS
  have cut39_1 : ∀ (y10 : Int32) (g : Nat → Nat → Int32) (ko2 : Nat) (kp2 : Nat → Int32) (w2 : Int32) (ls : Array Slot) (H : Heap) (locs : List Loc), g3 g → is16 w2 → ko2 ≤ ko + 1 → SP = s_T_doWhatIsAgreed0_cut39_1 uT F y10 g ko2 kp2 w2 →  lv_has ls 4 [(0, .ref h0), (1, .ref (da 0)), (2, .int w2), (3, .int 1)] → va_P (dC, dI) classes [(h0, .inr (0, oT (upc uT 10 y10) p9 a9 e9 n9 o9)), (a9, .inl (ca, 3, .inr (.inr (.inr (.inr (mo da)))))), (da 0, .inr (2, oD (F 0) (ra 0) (ka 0))), (ra 0, .inl (cr 0, 8, .inl (g 0))), (da 1, .inr (2, oD (F 1) (ra 1) (ka 1))), (ra 1, .inl (cr 1, 8, .inl (g 1))), (da 2, .inr (2, oD (F 2) (ra 2) (ka 2))), (ra 2, .inl (cr 2, 8, .inl (g 2))), (n9, .inr (4, [.ref nw9, .int (nI kN)])), (nw9, .inl (cN, 64, .inl wN)), (o9, .inr (5, [.ref ok9, .int (nI ko2)])), (ok9, .inl (cO, 300, .inl kp2))] H → va_D A [(h0, .inr (0, oT (upc uT 10 y10) p9 a9 e9 n9 o9)), (a9, .inl (ca, 3, .inr (.inr (.inr (.inr (mo da)))))), (da 0, .inr (2, oD (F 0) (ra 0) (ka 0))), (ra 0, .inl (cr 0, 8, .inl (g 0))), (da 1, .inr (2, oD (F 1) (ra 1) (ka 1))), (ra 1, .inl (cr 1, 8, .inl (g 1))), (da 2, .inr (2, oD (F 2) (ra 2) (ka 2))), (ra 2, .inl (cr 2, 8, .inl (g 2))), (n9, .inr (4, [.ref nw9, .int (nI kN)])), (nw9, .inl (cN, 64, .inl wN)), (o9, .inr (5, [.ref ok9, .int (nI ko2)])), (ok9, .inl (cO, 300, .inl kp2))] → va_S A s.heap H locs → W p l e (headSpec (tbw y_T_doWhatIsAgreed b_T_doWhatIsAgreed 4 none) ({ frames := 2, cells := 0, slots := 0, locals := 42 })).room s m ([.ref h0, .ref (da 0)] : List Value).toArray below meth c H locs 0 0 (MQ below (va_Qv (fun (u9 : (Nat → Nat → Int32) × Nat × (Nat → Int32) × Int32) => match u9 with | (g2, ko2, kp2, y10) => (g3 g2 ∧ ko2 ≤ ko + 1) ∧ (g2, ko2, kp2, y10) = SP) (fun (u9 : (Nat → Nat → Int32) × Nat × (Nat → Int32) × Int32) t => match u9 with | (g2, ko2, kp2, y10) => va_P (dC, dI) classes [(h0, .inr (0, oT (upc uT 10 y10) p9 a9 e9 n9 o9)), (a9, .inl (ca, 3, .inr (.inr (.inr (.inr (mo da)))))), (da 0, .inr (2, oD (F 0) (ra 0) (ka 0))), (ra 0, .inl (cr 0, 8, .inl (g2 0))), (da 1, .inr (2, oD (F 1) (ra 1) (ka 1))), (ra 1, .inl (cr 1, 8, .inl (g2 1))), (da 2, .inr (2, oD (F 2) (ra 2) (ka 2))), (ra 2, .inl (cr 2, 8, .inl (g2 2))), (n9, .inr (4, [.ref nw9, .int (nI kN)])), (nw9, .inl (cN, 64, .inl wN)), (o9, .inr (5, [.ref ok9, .int (nI ko2)])), (ok9, .inl (cO, 300, .inl kp2))] t.heap ∧ va_K (dC, dI) classes [(ca, .object "VotedTriple$VotedModule"), (cr 0, .int), (cr 1, .int), (cr 2, .int), (cN, .int), (cO, .int)] t ∧ va_D A [(h0, .inr (0, oT (upc uT 10 y10) p9 a9 e9 n9 o9)), (a9, .inl (ca, 3, .inr (.inr (.inr (.inr (mo da)))))), (da 0, .inr (2, oD (F 0) (ra 0) (ka 0))), (ra 0, .inl (cr 0, 8, .inl (g2 0))), (da 1, .inr (2, oD (F 1) (ra 1) (ka 1))), (ra 1, .inl (cr 1, 8, .inl (g2 1))), (da 2, .inr (2, oD (F 2) (ra 2) (ka 2))), (ra 2, .inl (cr 2, 8, .inl (g2 2))), (n9, .inr (4, [.ref nw9, .int (nI kN)])), (nw9, .inl (cN, 64, .inl wN)), (o9, .inr (5, [.ref ok9, .int (nI ko2)])), (ok9, .inl (cO, 300, .inl kp2))]) A) ([.ref h0, .ref (da 0)] : List Value).toArray s 0 0 A) (F0 m 39 ls []) := by
    intro y10 g ko2 kp2 w2 ls H locs hg h29 h39 hSq0 hl hP hD hS
    clear cut39_3
    refine lv_iload_n hx hb d_T_doWhatIsAgreed_39 rfl (lv_at hl 3 rfl) ?_
    refine lv_iconst (v := 3) hx hb d_T_doWhatIsAgreed_40 (by decide) ?_
    refine lv_icmp_ge (tgt := 72) hx hb d_T_doWhatIsAgreed_41 rfl (fun hc7 => by first | exact absurd hc7 (by decide) | exact absurd (by decide) hc7) (fun hc7 => ?_)
    refine lv_aload_n hx hb d_T_doWhatIsAgreed_44 rfl (lv_at hl 0 rfl) ?_
    refine va_get (D := (dC, dI)) (ci := 0) (v := .ref a9) (C := "VotedTriple") (T := F_T) (N := 11) hx hb hw in_T hown hK hP 0 rfl rfl 1 (by decide) (hw _ k_195) (fun _ h9 => h9) rfl d_T_doWhatIsAgreed_45 ?_
    refine lv_iload_n hx hb d_T_doWhatIsAgreed_48 rfl (lv_at hl 3 rfl) ?_
    refine va_aldq hx hb hK hP 1 0 rfl rfl (by unfold vp_in; decide) d_T_doWhatIsAgreed_49 ?_
    refine W.eq (g2 := F0 m 50 ls [.ref (da 1)]) rfl ?_
    refine va_get (D := (dC, dI)) (ci := 2) (v := .int (F 1 8)) (C := "VotedTriple$VotedModule") (T := F_D) (N := 19) hx hb hw in_D hown hK hP 4 rfl rfl 8 (by decide) (hw _ k_143) (fun _ h9 => h9) rfl d_T_doWhatIsAgreed_50 ?_
    refine lv_if_ne (tgt := 66) hx hb d_T_doWhatIsAgreed_53 rfl (fun hc8 => ?_) (fun hc8 => ?_)
    · --  ¬ (F 1 8) = 0
      refine lv_iinc (k := 3) (v := 2) hx hb d_T_doWhatIsAgreed_66 hl rfl rfl (by decide) rfl (fun ls hl => ?_)
      replace hl : lv_has ls 4 [(3, .int 2), (0, .ref h0), (1, .ref (da 0)), (2, .int w2)] := hl
      refine lv_goto (tgt := 39) hx hb d_T_doWhatIsAgreed_69 rfl ?_
      have hSq : SP = s_T_doWhatIsAgreed0_cut39_2 uT F (upc uT 10 y10 10) g ko2 kp2 w2 := by rw [hSq0, s_T_doWhatIsAgreed0_cut39_1]; try (rw [if_neg hc8]); all_goals rfl
      replace hl := lv_sub hl (l' := [(0, .ref h0), (1, .ref (da 0)), (2, .int w2), (3, .int 2)]) [1, 2, 3, 0] rfl
      replace hP := hP.sub (ws' := [(h0, .inr (0, oT (upc uT 10 (upc uT 10 y10 10)) p9 a9 e9 n9 o9)), (a9, .inl (ca, 3, .inr (.inr (.inr (.inr (mo da)))))), (da 0, .inr (2, oD (F 0) (ra 0) (ka 0))), (ra 0, .inl (cr 0, 8, .inl (g 0))), (da 1, .inr (2, oD (F 1) (ra 1) (ka 1))), (ra 1, .inl (cr 1, 8, .inl (g 1))), (da 2, .inr (2, oD (F 2) (ra 2) (ka 2))), (ra 2, .inl (cr 2, 8, .inl (g 2))), (n9, .inr (4, [.ref nw9, .int (nI kN)])), (nw9, .inl (cN, 64, .inl wN)), (o9, .inr (5, [.ref ok9, .int (nI ko2)])), (ok9, .inl (cO, 300, .inl kp2))]) [0, 1, 2, 3, 4, 5, 6, 7, 8, 9, 10, 11] rfl
      replace hD := hD.sub (ws' := [(h0, .inr (0, oT (upc uT 10 (upc uT 10 y10 10)) p9 a9 e9 n9 o9)), (a9, .inl (ca, 3, .inr (.inr (.inr (.inr (mo da)))))), (da 0, .inr (2, oD (F 0) (ra 0) (ka 0))), (ra 0, .inl (cr 0, 8, .inl (g 0))), (da 1, .inr (2, oD (F 1) (ra 1) (ka 1))), (ra 1, .inl (cr 1, 8, .inl (g 1))), (da 2, .inr (2, oD (F 2) (ra 2) (ka 2))), (ra 2, .inl (cr 2, 8, .inl (g 2))), (n9, .inr (4, [.ref nw9, .int (nI kN)])), (nw9, .inl (cN, 64, .inl wN)), (o9, .inr (5, [.ref ok9, .int (nI ko2)])), (ok9, .inl (cO, 300, .inl kp2))]) [0, 1, 2, 3, 4, 5, 6, 7, 8, 9, 10, 11] (by decide) rfl
      exact cut39_2 (upc uT 10 y10 10) g ko2 kp2 w2 _ _ _ hg h29 h39 hSq hl hP hD hS
    · --  (F 1 8) = 0
      refine lv_aload_n hx hb d_T_doWhatIsAgreed_56 rfl (lv_at hl 0 rfl) ?_
      refine va_get (D := (dC, dI)) (ci := 0) (v := .ref a9) (C := "VotedTriple") (T := F_T) (N := 11) hx hb hw in_T hown hK hP 0 rfl rfl 1 (by decide) (hw _ k_195) (fun _ h9 => h9) rfl d_T_doWhatIsAgreed_57 ?_
      refine lv_iload_n hx hb d_T_doWhatIsAgreed_60 rfl (lv_at hl 3 rfl) ?_
      refine va_aldq hx hb hK hP 1 0 rfl rfl (by unfold vp_in; decide) d_T_doWhatIsAgreed_61 ?_
      refine W.eq (g2 := F0 m 62 ls [.ref (da 1)]) rfl ?_
      refine lv_iload_n hx hb d_T_doWhatIsAgreed_62 rfl (lv_at hl 2 rfl) ?_
      replace hPc := hP.sub (ws' := [(da 1, .inr (2, oD (F 1) (ra 1) (ka 1))), (ra 1, .inl (cr 1, 8, .inl (g 1)))]) [4, 5] rfl
      replace hKc := hK.sub (tys' := [(cr 1, .int)]) [2] rfl
      replace hDc := hD.sub (ws' := [(da 1, .inr (2, oD (F 1) (ra 1) (ka 1))), (ra 1, .inl (cr 1, 8, .inl (g 1)))]) [4, 5] (by decide) rfl
      replace hFc := va_free (wc := [(da 1, .inr (2, oD (F 1) (ra 1) (ka 1))), (ra 1, .inl (cr 1, 8, .inl (g 1)))]) hD hS hA [4, 5] rfl
      refine va_callv (va_runU (C := "VotedTriple$VotedModule") (As := [.int w2]) (rest := []) ⟨hx, hb, hml, hown, hw⟩ (c_C_receive_D l dC dI (da 1) (ra 1) (ka 1) (F 1) (cr 1) (g 1) w2 hF.2.1.2.1 h29 hg.2.1 H.size) (va_cwU (C := "VotedTriple$VotedModule") (owner := "VotedTriple$Processor") (x := ⟨"VotedTriple$VotedModule", "receive", "(I)V"⟩) (y := y_C_receive) 1 hw (gd_l (List.forall_mem_cons.mpr ⟨k_622, List.forall_mem_cons.mpr ⟨k_623, List.forall_mem_cons.mpr ⟨k_624, List.forall_mem_cons.mpr ⟨k_550, List.forall_mem_cons.mpr ⟨k_3, fun _ h => absurd h List.not_mem_nil⟩⟩⟩⟩⟩) (gd (k_551))) rfl rfl rfl rfl (by decide +kernel) ⟨Nat.le_of_ble_eq_true rfl, Nat.le_of_ble_eq_true rfl⟩) ⟨fun a U g mk q => by obtain ⟨q0, q1, qP, qK, qD⟩ := q; exact ⟨q0, q1, qP, va_K.moved (u := U) (U := U.calling g mk a) (Vm.Alike.refl U.vm) qK, qD⟩, va_recv hK hP rfl (q0 := 4) rfl, fun U hU hW => ⟨rfl, by rw [hU], by rw [hU]; exact hPc, va_K.moved hW.alike hKc, hDc.weaken (fun _ _ _ _ => trivial)⟩⟩ rfl rfl hl.1 rfl (lv_room (Nat.le_of_ble_eq_true rfl)) d_T_doWhatIsAgreed_63 ⟨Nat.le_of_ble_eq_true rfl, Nat.le_of_ble_eq_true rfl⟩) hS (fun q _ h => hFc q h) hFc (fun u9 t H1 locs ht hvm hr10 hB hz1 hk1 hS => ?_)
      obtain ⟨g11, rfl⟩ : ∃ z, z = u9 := ⟨_, rfl⟩
      obtain ⟨hP1, hK1, hD1⟩ := hB
      rw [ht] at hP1
      replace hK1 := va_K.moved hvm.symm hK1
      try dsimp only at hr10 hP1 hK1 hD1
      obtain ⟨hr10, hr10E⟩ := hr10
      obtain ⟨hPz, hDz⟩ := va_join (wr := [(h0, .inr (0, oT (upc uT 10 y10) p9 a9 e9 n9 o9)), (a9, .inl (ca, 3, .inr (.inr (.inr (.inr (mo da)))))), (da 0, .inr (2, oD (F 0) (ra 0) (ka 0))), (ra 0, .inl (cr 0, 8, .inl (g 0))), (da 2, .inr (2, oD (F 2) (ra 2) (ka 2))), (ra 2, .inl (cr 2, 8, .inl (g 2))), (n9, .inr (4, [.ref nw9, .int (nI kN)])), (nw9, .inl (cN, 64, .inl wN)), (o9, .inr (5, [.ref ok9, .int (nI ko2)])), (ok9, .inl (cO, 300, .inl kp2))]) (w1 := [(da 1, .inr (2, oD (F 1) (ra 1) (ka 1))), (ra 1, .inl (cr 1, 8, .inl g11))]) hP hD [4, 5] [0, 1, 2, 3, 6, 7, 8, 9, 10, 11] rfl rfl (by decide) (by decide) hk1 hFc hP1 hD1
      clear hP hD hPc hDc hP1 hD1 hFc
      have hP := hPz
      have hD := hDz
      clear hPz hDz
      replace hK := (hK.sub (tys' := [(ca, .object "VotedTriple$VotedModule"), (cr 0, .int), (cr 2, .int), (cN, .int), (cO, .int)]) [0, 1, 3, 4, 5] rfl).app hK1
      clear hK1 hKc
      generalize H1 = H at hP hS ⊢
      replace hP : va_P (dC, dI) classes [(h0, .inr (0, oT (upc uT 10 y10) p9 a9 e9 n9 o9)), (a9, .inl (ca, 3, .inr (.inr (.inr (.inr (mo da)))))), (da 0, .inr (2, oD (F 0) (ra 0) (ka 0))), (ra 0, .inl (cr 0, 8, .inl (g 0))), (da 2, .inr (2, oD (F 2) (ra 2) (ka 2))), (ra 2, .inl (cr 2, 8, .inl (g 2))), (n9, .inr (4, [.ref nw9, .int (nI kN)])), (nw9, .inl (cN, 64, .inl wN)), (o9, .inr (5, [.ref ok9, .int (nI ko2)])), (ok9, .inl (cO, 300, .inl kp2)), (da 1, .inr (2, oD (F 1) (ra 1) (ka 1))), (ra 1, .inl (cr 1, 8, .inl g11))] H := hP
      replace hD : va_D A [(h0, .inr (0, oT (upc uT 10 y10) p9 a9 e9 n9 o9)), (a9, .inl (ca, 3, .inr (.inr (.inr (.inr (mo da)))))), (da 0, .inr (2, oD (F 0) (ra 0) (ka 0))), (ra 0, .inl (cr 0, 8, .inl (g 0))), (da 2, .inr (2, oD (F 2) (ra 2) (ka 2))), (ra 2, .inl (cr 2, 8, .inl (g 2))), (n9, .inr (4, [.ref nw9, .int (nI kN)])), (nw9, .inl (cN, 64, .inl wN)), (o9, .inr (5, [.ref ok9, .int (nI ko2)])), (ok9, .inl (cO, 300, .inl kp2)), (da 1, .inr (2, oD (F 1) (ra 1) (ka 1))), (ra 1, .inl (cr 1, 8, .inl g11))] := hD
      replace hK : va_K (dC, dI) classes [(ca, .object "VotedTriple$VotedModule"), (cr 0, .int), (cr 2, .int), (cN, .int), (cO, .int), (cr 1, .int)] s := hK
      refine W.widen (k := 0) (n := 0) (Nat.le_of_ble_eq_true rfl) (Nat.le_of_ble_eq_true rfl) ?_
      refine lv_iinc (k := 3) (v := 2) hx hb d_T_doWhatIsAgreed_66 hl rfl rfl (by decide) rfl (fun ls hl => ?_)
      replace hl : lv_has ls 4 [(3, .int 2), (0, .ref h0), (1, .ref (da 0)), (2, .int w2)] := hl
      refine lv_goto (tgt := 39) hx hb d_T_doWhatIsAgreed_69 rfl ?_
      have hSq : SP = s_T_doWhatIsAgreed0_cut39_2 uT F (upc uT 10 y10 10) (tri (g 0) g11 (g 2)) ko2 kp2 w2 := by rw [hSq0, s_T_doWhatIsAgreed0_cut39_1]; try (rw [if_pos hc8]); try (rw [← hr10E, bnd_eq]); all_goals rfl
      replace hl := lv_sub hl (l' := [(0, .ref h0), (1, .ref (da 0)), (2, .int w2), (3, .int 2)]) [1, 2, 3, 0] rfl
      replace hP := hP.sub (ws' := [(h0, .inr (0, oT (upc uT 10 (upc uT 10 y10 10)) p9 a9 e9 n9 o9)), (a9, .inl (ca, 3, .inr (.inr (.inr (.inr (mo da)))))), (da 0, .inr (2, oD (F 0) (ra 0) (ka 0))), (ra 0, .inl (cr 0, 8, .inl (tri (g 0) g11 (g 2) 0))), (da 1, .inr (2, oD (F 1) (ra 1) (ka 1))), (ra 1, .inl (cr 1, 8, .inl (tri (g 0) g11 (g 2) 1))), (da 2, .inr (2, oD (F 2) (ra 2) (ka 2))), (ra 2, .inl (cr 2, 8, .inl (tri (g 0) g11 (g 2) 2))), (n9, .inr (4, [.ref nw9, .int (nI kN)])), (nw9, .inl (cN, 64, .inl wN)), (o9, .inr (5, [.ref ok9, .int (nI ko2)])), (ok9, .inl (cO, 300, .inl kp2))]) [0, 1, 2, 3, 10, 11, 4, 5, 6, 7, 8, 9] rfl
      replace hD := hD.sub (ws' := [(h0, .inr (0, oT (upc uT 10 (upc uT 10 y10 10)) p9 a9 e9 n9 o9)), (a9, .inl (ca, 3, .inr (.inr (.inr (.inr (mo da)))))), (da 0, .inr (2, oD (F 0) (ra 0) (ka 0))), (ra 0, .inl (cr 0, 8, .inl (tri (g 0) g11 (g 2) 0))), (da 1, .inr (2, oD (F 1) (ra 1) (ka 1))), (ra 1, .inl (cr 1, 8, .inl (tri (g 0) g11 (g 2) 1))), (da 2, .inr (2, oD (F 2) (ra 2) (ka 2))), (ra 2, .inl (cr 2, 8, .inl (tri (g 0) g11 (g 2) 2))), (n9, .inr (4, [.ref nw9, .int (nI kN)])), (nw9, .inl (cN, 64, .inl wN)), (o9, .inr (5, [.ref ok9, .int (nI ko2)])), (ok9, .inl (cO, 300, .inl kp2))]) [0, 1, 2, 3, 10, 11, 4, 5, 6, 7, 8, 9] (by decide) rfl
      exact cut39_2 (upc uT 10 y10 10) (tri (g 0) g11 (g 2)) ko2 kp2 w2 _ _ _ (⟨hg.1, hr10, hg.2.2⟩) h29 h39 hSq hl hP hD hS
  have cut39_0 : ∀ (y10 : Int32) (g : Nat → Nat → Int32) (ko2 : Nat) (kp2 : Nat → Int32) (w2 : Int32) (ls : Array Slot) (H : Heap) (locs : List Loc), g3 g → is16 w2 → ko2 ≤ ko + 1 → SP = s_T_doWhatIsAgreed0_cut39_0 uT F y10 g ko2 kp2 w2 →  lv_has ls 4 [(0, .ref h0), (1, .ref (da 0)), (2, .int w2), (3, .int 0)] → va_P (dC, dI) classes [(h0, .inr (0, oT (upc uT 10 y10) p9 a9 e9 n9 o9)), (a9, .inl (ca, 3, .inr (.inr (.inr (.inr (mo da)))))), (da 0, .inr (2, oD (F 0) (ra 0) (ka 0))), (ra 0, .inl (cr 0, 8, .inl (g 0))), (da 1, .inr (2, oD (F 1) (ra 1) (ka 1))), (ra 1, .inl (cr 1, 8, .inl (g 1))), (da 2, .inr (2, oD (F 2) (ra 2) (ka 2))), (ra 2, .inl (cr 2, 8, .inl (g 2))), (n9, .inr (4, [.ref nw9, .int (nI kN)])), (nw9, .inl (cN, 64, .inl wN)), (o9, .inr (5, [.ref ok9, .int (nI ko2)])), (ok9, .inl (cO, 300, .inl kp2))] H → va_D A [(h0, .inr (0, oT (upc uT 10 y10) p9 a9 e9 n9 o9)), (a9, .inl (ca, 3, .inr (.inr (.inr (.inr (mo da)))))), (da 0, .inr (2, oD (F 0) (ra 0) (ka 0))), (ra 0, .inl (cr 0, 8, .inl (g 0))), (da 1, .inr (2, oD (F 1) (ra 1) (ka 1))), (ra 1, .inl (cr 1, 8, .inl (g 1))), (da 2, .inr (2, oD (F 2) (ra 2) (ka 2))), (ra 2, .inl (cr 2, 8, .inl (g 2))), (n9, .inr (4, [.ref nw9, .int (nI kN)])), (nw9, .inl (cN, 64, .inl wN)), (o9, .inr (5, [.ref ok9, .int (nI ko2)])), (ok9, .inl (cO, 300, .inl kp2))] → va_S A s.heap H locs → W p l e (headSpec (tbw y_T_doWhatIsAgreed b_T_doWhatIsAgreed 4 none) ({ frames := 2, cells := 0, slots := 0, locals := 42 })).room s m ([.ref h0, .ref (da 0)] : List Value).toArray below meth c H locs 0 0 (MQ below (va_Qv (fun (u9 : (Nat → Nat → Int32) × Nat × (Nat → Int32) × Int32) => match u9 with | (g2, ko2, kp2, y10) => (g3 g2 ∧ ko2 ≤ ko + 1) ∧ (g2, ko2, kp2, y10) = SP) (fun (u9 : (Nat → Nat → Int32) × Nat × (Nat → Int32) × Int32) t => match u9 with | (g2, ko2, kp2, y10) => va_P (dC, dI) classes [(h0, .inr (0, oT (upc uT 10 y10) p9 a9 e9 n9 o9)), (a9, .inl (ca, 3, .inr (.inr (.inr (.inr (mo da)))))), (da 0, .inr (2, oD (F 0) (ra 0) (ka 0))), (ra 0, .inl (cr 0, 8, .inl (g2 0))), (da 1, .inr (2, oD (F 1) (ra 1) (ka 1))), (ra 1, .inl (cr 1, 8, .inl (g2 1))), (da 2, .inr (2, oD (F 2) (ra 2) (ka 2))), (ra 2, .inl (cr 2, 8, .inl (g2 2))), (n9, .inr (4, [.ref nw9, .int (nI kN)])), (nw9, .inl (cN, 64, .inl wN)), (o9, .inr (5, [.ref ok9, .int (nI ko2)])), (ok9, .inl (cO, 300, .inl kp2))] t.heap ∧ va_K (dC, dI) classes [(ca, .object "VotedTriple$VotedModule"), (cr 0, .int), (cr 1, .int), (cr 2, .int), (cN, .int), (cO, .int)] t ∧ va_D A [(h0, .inr (0, oT (upc uT 10 y10) p9 a9 e9 n9 o9)), (a9, .inl (ca, 3, .inr (.inr (.inr (.inr (mo da)))))), (da 0, .inr (2, oD (F 0) (ra 0) (ka 0))), (ra 0, .inl (cr 0, 8, .inl (g2 0))), (da 1, .inr (2, oD (F 1) (ra 1) (ka 1))), (ra 1, .inl (cr 1, 8, .inl (g2 1))), (da 2, .inr (2, oD (F 2) (ra 2) (ka 2))), (ra 2, .inl (cr 2, 8, .inl (g2 2))), (n9, .inr (4, [.ref nw9, .int (nI kN)])), (nw9, .inl (cN, 64, .inl wN)), (o9, .inr (5, [.ref ok9, .int (nI ko2)])), (ok9, .inl (cO, 300, .inl kp2))]) A) ([.ref h0, .ref (da 0)] : List Value).toArray s 0 0 A) (F0 m 39 ls []) := by
    intro y10 g ko2 kp2 w2 ls H locs hg h29 h39 hSq0 hl hP hD hS
    clear cut39_3 cut39_2
    refine lv_iload_n hx hb d_T_doWhatIsAgreed_39 rfl (lv_at hl 3 rfl) ?_
    refine lv_iconst (v := 3) hx hb d_T_doWhatIsAgreed_40 (by decide) ?_
    refine lv_icmp_ge (tgt := 72) hx hb d_T_doWhatIsAgreed_41 rfl (fun hc12 => by first | exact absurd hc12 (by decide) | exact absurd (by decide) hc12) (fun hc12 => ?_)
    refine lv_aload_n hx hb d_T_doWhatIsAgreed_44 rfl (lv_at hl 0 rfl) ?_
    refine va_get (D := (dC, dI)) (ci := 0) (v := .ref a9) (C := "VotedTriple") (T := F_T) (N := 11) hx hb hw in_T hown hK hP 0 rfl rfl 1 (by decide) (hw _ k_195) (fun _ h9 => h9) rfl d_T_doWhatIsAgreed_45 ?_
    refine lv_iload_n hx hb d_T_doWhatIsAgreed_48 rfl (lv_at hl 3 rfl) ?_
    refine va_aldq hx hb hK hP 1 0 rfl rfl (by unfold vp_in; decide) d_T_doWhatIsAgreed_49 ?_
    refine W.eq (g2 := F0 m 50 ls [.ref (da 0)]) rfl ?_
    refine va_get (D := (dC, dI)) (ci := 2) (v := .int (F 0 8)) (C := "VotedTriple$VotedModule") (T := F_D) (N := 19) hx hb hw in_D hown hK hP 2 rfl rfl 8 (by decide) (hw _ k_143) (fun _ h9 => h9) rfl d_T_doWhatIsAgreed_50 ?_
    refine lv_if_ne (tgt := 66) hx hb d_T_doWhatIsAgreed_53 rfl (fun hc13 => ?_) (fun hc13 => ?_)
    · --  ¬ (F 0 8) = 0
      refine lv_iinc (k := 3) (v := 1) hx hb d_T_doWhatIsAgreed_66 hl rfl rfl (by decide) rfl (fun ls hl => ?_)
      replace hl : lv_has ls 4 [(3, .int 1), (0, .ref h0), (1, .ref (da 0)), (2, .int w2)] := hl
      refine lv_goto (tgt := 39) hx hb d_T_doWhatIsAgreed_69 rfl ?_
      have hSq : SP = s_T_doWhatIsAgreed0_cut39_1 uT F (upc uT 10 y10 10) g ko2 kp2 w2 := by rw [hSq0, s_T_doWhatIsAgreed0_cut39_0]; try (rw [if_neg hc13]); all_goals rfl
      replace hl := lv_sub hl (l' := [(0, .ref h0), (1, .ref (da 0)), (2, .int w2), (3, .int 1)]) [1, 2, 3, 0] rfl
      replace hP := hP.sub (ws' := [(h0, .inr (0, oT (upc uT 10 (upc uT 10 y10 10)) p9 a9 e9 n9 o9)), (a9, .inl (ca, 3, .inr (.inr (.inr (.inr (mo da)))))), (da 0, .inr (2, oD (F 0) (ra 0) (ka 0))), (ra 0, .inl (cr 0, 8, .inl (g 0))), (da 1, .inr (2, oD (F 1) (ra 1) (ka 1))), (ra 1, .inl (cr 1, 8, .inl (g 1))), (da 2, .inr (2, oD (F 2) (ra 2) (ka 2))), (ra 2, .inl (cr 2, 8, .inl (g 2))), (n9, .inr (4, [.ref nw9, .int (nI kN)])), (nw9, .inl (cN, 64, .inl wN)), (o9, .inr (5, [.ref ok9, .int (nI ko2)])), (ok9, .inl (cO, 300, .inl kp2))]) [0, 1, 2, 3, 4, 5, 6, 7, 8, 9, 10, 11] rfl
      replace hD := hD.sub (ws' := [(h0, .inr (0, oT (upc uT 10 (upc uT 10 y10 10)) p9 a9 e9 n9 o9)), (a9, .inl (ca, 3, .inr (.inr (.inr (.inr (mo da)))))), (da 0, .inr (2, oD (F 0) (ra 0) (ka 0))), (ra 0, .inl (cr 0, 8, .inl (g 0))), (da 1, .inr (2, oD (F 1) (ra 1) (ka 1))), (ra 1, .inl (cr 1, 8, .inl (g 1))), (da 2, .inr (2, oD (F 2) (ra 2) (ka 2))), (ra 2, .inl (cr 2, 8, .inl (g 2))), (n9, .inr (4, [.ref nw9, .int (nI kN)])), (nw9, .inl (cN, 64, .inl wN)), (o9, .inr (5, [.ref ok9, .int (nI ko2)])), (ok9, .inl (cO, 300, .inl kp2))]) [0, 1, 2, 3, 4, 5, 6, 7, 8, 9, 10, 11] (by decide) rfl
      exact cut39_1 (upc uT 10 y10 10) g ko2 kp2 w2 _ _ _ hg h29 h39 hSq hl hP hD hS
    · --  (F 0 8) = 0
      refine lv_aload_n hx hb d_T_doWhatIsAgreed_56 rfl (lv_at hl 0 rfl) ?_
      refine va_get (D := (dC, dI)) (ci := 0) (v := .ref a9) (C := "VotedTriple") (T := F_T) (N := 11) hx hb hw in_T hown hK hP 0 rfl rfl 1 (by decide) (hw _ k_195) (fun _ h9 => h9) rfl d_T_doWhatIsAgreed_57 ?_
      refine lv_iload_n hx hb d_T_doWhatIsAgreed_60 rfl (lv_at hl 3 rfl) ?_
      refine va_aldq hx hb hK hP 1 0 rfl rfl (by unfold vp_in; decide) d_T_doWhatIsAgreed_61 ?_
      refine W.eq (g2 := F0 m 62 ls [.ref (da 0)]) rfl ?_
      refine lv_iload_n hx hb d_T_doWhatIsAgreed_62 rfl (lv_at hl 2 rfl) ?_
      replace hPc := hP.sub (ws' := [(da 0, .inr (2, oD (F 0) (ra 0) (ka 0))), (ra 0, .inl (cr 0, 8, .inl (g 0)))]) [2, 3] rfl
      replace hKc := hK.sub (tys' := [(cr 0, .int)]) [1] rfl
      replace hDc := hD.sub (ws' := [(da 0, .inr (2, oD (F 0) (ra 0) (ka 0))), (ra 0, .inl (cr 0, 8, .inl (g 0)))]) [2, 3] (by decide) rfl
      replace hFc := va_free (wc := [(da 0, .inr (2, oD (F 0) (ra 0) (ka 0))), (ra 0, .inl (cr 0, 8, .inl (g 0)))]) hD hS hA [2, 3] rfl
      refine va_callv (va_runU (C := "VotedTriple$VotedModule") (As := [.int w2]) (rest := []) ⟨hx, hb, hml, hown, hw⟩ (c_C_receive_D l dC dI (da 0) (ra 0) (ka 0) (F 0) (cr 0) (g 0) w2 hF.1.2.1 h29 hg.1 H.size) (va_cwU (C := "VotedTriple$VotedModule") (owner := "VotedTriple$Processor") (x := ⟨"VotedTriple$VotedModule", "receive", "(I)V"⟩) (y := y_C_receive) 1 hw (gd_l (List.forall_mem_cons.mpr ⟨k_622, List.forall_mem_cons.mpr ⟨k_623, List.forall_mem_cons.mpr ⟨k_624, List.forall_mem_cons.mpr ⟨k_550, List.forall_mem_cons.mpr ⟨k_3, fun _ h => absurd h List.not_mem_nil⟩⟩⟩⟩⟩) (gd (k_551))) rfl rfl rfl rfl (by decide +kernel) ⟨Nat.le_of_ble_eq_true rfl, Nat.le_of_ble_eq_true rfl⟩) ⟨fun a U g mk q => by obtain ⟨q0, q1, qP, qK, qD⟩ := q; exact ⟨q0, q1, qP, va_K.moved (u := U) (U := U.calling g mk a) (Vm.Alike.refl U.vm) qK, qD⟩, va_recv hK hP rfl (q0 := 2) rfl, fun U hU hW => ⟨rfl, by rw [hU], by rw [hU]; exact hPc, va_K.moved hW.alike hKc, hDc.weaken (fun _ _ _ _ => trivial)⟩⟩ rfl rfl hl.1 rfl (lv_room (Nat.le_of_ble_eq_true rfl)) d_T_doWhatIsAgreed_63 ⟨Nat.le_of_ble_eq_true rfl, Nat.le_of_ble_eq_true rfl⟩) hS (fun q _ h => hFc q h) hFc (fun u9 t H1 locs ht hvm hr15 hB hz1 hk1 hS => ?_)
      obtain ⟨g16, rfl⟩ : ∃ z, z = u9 := ⟨_, rfl⟩
      obtain ⟨hP1, hK1, hD1⟩ := hB
      rw [ht] at hP1
      replace hK1 := va_K.moved hvm.symm hK1
      try dsimp only at hr15 hP1 hK1 hD1
      obtain ⟨hr15, hr15E⟩ := hr15
      obtain ⟨hPz, hDz⟩ := va_join (wr := [(h0, .inr (0, oT (upc uT 10 y10) p9 a9 e9 n9 o9)), (a9, .inl (ca, 3, .inr (.inr (.inr (.inr (mo da)))))), (da 1, .inr (2, oD (F 1) (ra 1) (ka 1))), (ra 1, .inl (cr 1, 8, .inl (g 1))), (da 2, .inr (2, oD (F 2) (ra 2) (ka 2))), (ra 2, .inl (cr 2, 8, .inl (g 2))), (n9, .inr (4, [.ref nw9, .int (nI kN)])), (nw9, .inl (cN, 64, .inl wN)), (o9, .inr (5, [.ref ok9, .int (nI ko2)])), (ok9, .inl (cO, 300, .inl kp2))]) (w1 := [(da 0, .inr (2, oD (F 0) (ra 0) (ka 0))), (ra 0, .inl (cr 0, 8, .inl g16))]) hP hD [2, 3] [0, 1, 4, 5, 6, 7, 8, 9, 10, 11] rfl rfl (by decide) (by decide) hk1 hFc hP1 hD1
      clear hP hD hPc hDc hP1 hD1 hFc
      have hP := hPz
      have hD := hDz
      clear hPz hDz
      replace hK := (hK.sub (tys' := [(ca, .object "VotedTriple$VotedModule"), (cr 1, .int), (cr 2, .int), (cN, .int), (cO, .int)]) [0, 2, 3, 4, 5] rfl).app hK1
      clear hK1 hKc
      generalize H1 = H at hP hS ⊢
      replace hP : va_P (dC, dI) classes [(h0, .inr (0, oT (upc uT 10 y10) p9 a9 e9 n9 o9)), (a9, .inl (ca, 3, .inr (.inr (.inr (.inr (mo da)))))), (da 1, .inr (2, oD (F 1) (ra 1) (ka 1))), (ra 1, .inl (cr 1, 8, .inl (g 1))), (da 2, .inr (2, oD (F 2) (ra 2) (ka 2))), (ra 2, .inl (cr 2, 8, .inl (g 2))), (n9, .inr (4, [.ref nw9, .int (nI kN)])), (nw9, .inl (cN, 64, .inl wN)), (o9, .inr (5, [.ref ok9, .int (nI ko2)])), (ok9, .inl (cO, 300, .inl kp2)), (da 0, .inr (2, oD (F 0) (ra 0) (ka 0))), (ra 0, .inl (cr 0, 8, .inl g16))] H := hP
      replace hD : va_D A [(h0, .inr (0, oT (upc uT 10 y10) p9 a9 e9 n9 o9)), (a9, .inl (ca, 3, .inr (.inr (.inr (.inr (mo da)))))), (da 1, .inr (2, oD (F 1) (ra 1) (ka 1))), (ra 1, .inl (cr 1, 8, .inl (g 1))), (da 2, .inr (2, oD (F 2) (ra 2) (ka 2))), (ra 2, .inl (cr 2, 8, .inl (g 2))), (n9, .inr (4, [.ref nw9, .int (nI kN)])), (nw9, .inl (cN, 64, .inl wN)), (o9, .inr (5, [.ref ok9, .int (nI ko2)])), (ok9, .inl (cO, 300, .inl kp2)), (da 0, .inr (2, oD (F 0) (ra 0) (ka 0))), (ra 0, .inl (cr 0, 8, .inl g16))] := hD
      replace hK : va_K (dC, dI) classes [(ca, .object "VotedTriple$VotedModule"), (cr 1, .int), (cr 2, .int), (cN, .int), (cO, .int), (cr 0, .int)] s := hK
      refine W.widen (k := 0) (n := 0) (Nat.le_of_ble_eq_true rfl) (Nat.le_of_ble_eq_true rfl) ?_
      refine lv_iinc (k := 3) (v := 1) hx hb d_T_doWhatIsAgreed_66 hl rfl rfl (by decide) rfl (fun ls hl => ?_)
      replace hl : lv_has ls 4 [(3, .int 1), (0, .ref h0), (1, .ref (da 0)), (2, .int w2)] := hl
      refine lv_goto (tgt := 39) hx hb d_T_doWhatIsAgreed_69 rfl ?_
      have hSq : SP = s_T_doWhatIsAgreed0_cut39_1 uT F (upc uT 10 y10 10) (tri g16 (g 1) (g 2)) ko2 kp2 w2 := by rw [hSq0, s_T_doWhatIsAgreed0_cut39_0]; try (rw [if_pos hc13]); try (rw [← hr15E, bnd_eq]); all_goals rfl
      replace hl := lv_sub hl (l' := [(0, .ref h0), (1, .ref (da 0)), (2, .int w2), (3, .int 1)]) [1, 2, 3, 0] rfl
      replace hP := hP.sub (ws' := [(h0, .inr (0, oT (upc uT 10 (upc uT 10 y10 10)) p9 a9 e9 n9 o9)), (a9, .inl (ca, 3, .inr (.inr (.inr (.inr (mo da)))))), (da 0, .inr (2, oD (F 0) (ra 0) (ka 0))), (ra 0, .inl (cr 0, 8, .inl (tri g16 (g 1) (g 2) 0))), (da 1, .inr (2, oD (F 1) (ra 1) (ka 1))), (ra 1, .inl (cr 1, 8, .inl (tri g16 (g 1) (g 2) 1))), (da 2, .inr (2, oD (F 2) (ra 2) (ka 2))), (ra 2, .inl (cr 2, 8, .inl (tri g16 (g 1) (g 2) 2))), (n9, .inr (4, [.ref nw9, .int (nI kN)])), (nw9, .inl (cN, 64, .inl wN)), (o9, .inr (5, [.ref ok9, .int (nI ko2)])), (ok9, .inl (cO, 300, .inl kp2))]) [0, 1, 10, 11, 2, 3, 4, 5, 6, 7, 8, 9] rfl
      replace hD := hD.sub (ws' := [(h0, .inr (0, oT (upc uT 10 (upc uT 10 y10 10)) p9 a9 e9 n9 o9)), (a9, .inl (ca, 3, .inr (.inr (.inr (.inr (mo da)))))), (da 0, .inr (2, oD (F 0) (ra 0) (ka 0))), (ra 0, .inl (cr 0, 8, .inl (tri g16 (g 1) (g 2) 0))), (da 1, .inr (2, oD (F 1) (ra 1) (ka 1))), (ra 1, .inl (cr 1, 8, .inl (tri g16 (g 1) (g 2) 1))), (da 2, .inr (2, oD (F 2) (ra 2) (ka 2))), (ra 2, .inl (cr 2, 8, .inl (tri g16 (g 1) (g 2) 2))), (n9, .inr (4, [.ref nw9, .int (nI kN)])), (nw9, .inl (cN, 64, .inl wN)), (o9, .inr (5, [.ref ok9, .int (nI ko2)])), (ok9, .inl (cO, 300, .inl kp2))]) [0, 1, 10, 11, 2, 3, 4, 5, 6, 7, 8, 9] (by decide) rfl
      exact cut39_1 (upc uT 10 y10 10) (tri g16 (g 1) (g 2)) ko2 kp2 w2 _ _ _ (⟨hr15, hg.2.1, hg.2.2⟩) h29 h39 hSq hl hP hD hS
  clear cut39_3 cut39_2 cut39_1
  refine lv_iconst (v := 0) hx hb d_T_doWhatIsAgreed_0 (by decide) ?_
  refine lv_istore_n hx hb d_T_doWhatIsAgreed_1 rfl hl (by decide) rfl (fun ls hl => ?_)
  replace hl : lv_has ls 4 [(2, .int 0), (0, .ref h0), (1, .ref (da 0))] := hl
  refine lv_aload_n hx hb d_T_doWhatIsAgreed_2 rfl (lv_at hl 2 rfl) ?_
  refine va_get (D := (dC, dI)) (ci := 2) (v := .int (F 0 2)) (C := "VotedTriple$VotedModule") (T := F_D) (N := 19) hx hb hw in_D hown hK hP 2 rfl rfl 2 (by decide) (hw _ k_83) (fun x9 h9 => u_same (hw _ k_81) x9 h9) rfl d_T_doWhatIsAgreed_3 ?_
  refine lv_iconst (v := 1) hx hb d_T_doWhatIsAgreed_6 (by decide) ?_
  refine lv_icmp_ne (tgt := 18) hx hb d_T_doWhatIsAgreed_7 rfl (fun hc17 => ?_) (fun hc17 => ?_)
  · --  ¬ (F 0 2) = 1
    refine lv_aload_n hx hb d_T_doWhatIsAgreed_18 rfl (lv_at hl 2 rfl) ?_
    refine va_get (D := (dC, dI)) (ci := 2) (v := .int (F 0 2)) (C := "VotedTriple$VotedModule") (T := F_D) (N := 19) hx hb hw in_D hown hK hP 2 rfl rfl 2 (by decide) (hw _ k_83) (fun x9 h9 => u_same (hw _ k_81) x9 h9) rfl d_T_doWhatIsAgreed_19 ?_
    refine lv_iconst (v := 2) hx hb d_T_doWhatIsAgreed_22 (by decide) ?_
    refine lv_icmp_ne (tgt := 37) hx hb d_T_doWhatIsAgreed_23 rfl (fun hc18 => ?_) (fun hc18 => ?_)
    · --  ¬ (F 0 2) = 2
      refine lv_iconst (v := 0) hx hb d_T_doWhatIsAgreed_37 (by decide) ?_
      refine lv_istore_n hx hb d_T_doWhatIsAgreed_38 rfl hl (by decide) rfl (fun ls hl => ?_)
      replace hl : lv_has ls 4 [(3, .int 0), (2, .int 0), (0, .ref h0), (1, .ref (da 0))] := hl
      have hSq : SP = s_T_doWhatIsAgreed0_cut39_0 uT F (uT 10) g ko kp 0 := by rw [← hSP, s_T_doWhatIsAgreed0]; try (rw [if_neg hc17]); try (rw [if_neg hc18]); all_goals rfl
      replace hl := lv_sub hl (l' := [(0, .ref h0), (1, .ref (da 0)), (2, .int 0), (3, .int 0)]) [2, 3, 1, 0] rfl
      replace hP := hP.sub (ws' := [(h0, .inr (0, oT (upc uT 10 (uT 10)) p9 a9 e9 n9 o9)), (a9, .inl (ca, 3, .inr (.inr (.inr (.inr (mo da)))))), (da 0, .inr (2, oD (F 0) (ra 0) (ka 0))), (ra 0, .inl (cr 0, 8, .inl (g 0))), (da 1, .inr (2, oD (F 1) (ra 1) (ka 1))), (ra 1, .inl (cr 1, 8, .inl (g 1))), (da 2, .inr (2, oD (F 2) (ra 2) (ka 2))), (ra 2, .inl (cr 2, 8, .inl (g 2))), (n9, .inr (4, [.ref nw9, .int (nI kN)])), (nw9, .inl (cN, 64, .inl wN)), (o9, .inr (5, [.ref ok9, .int (nI ko)])), (ok9, .inl (cO, 300, .inl kp))]) [0, 1, 2, 3, 4, 5, 6, 7, 8, 9, 10, 11] rfl
      replace hD := hD.sub (ws' := [(h0, .inr (0, oT (upc uT 10 (uT 10)) p9 a9 e9 n9 o9)), (a9, .inl (ca, 3, .inr (.inr (.inr (.inr (mo da)))))), (da 0, .inr (2, oD (F 0) (ra 0) (ka 0))), (ra 0, .inl (cr 0, 8, .inl (g 0))), (da 1, .inr (2, oD (F 1) (ra 1) (ka 1))), (ra 1, .inl (cr 1, 8, .inl (g 1))), (da 2, .inr (2, oD (F 2) (ra 2) (ka 2))), (ra 2, .inl (cr 2, 8, .inl (g 2))), (n9, .inr (4, [.ref nw9, .int (nI kN)])), (nw9, .inl (cN, 64, .inl wN)), (o9, .inr (5, [.ref ok9, .int (nI ko)])), (ok9, .inl (cO, 300, .inl kp))]) [0, 1, 2, 3, 4, 5, 6, 7, 8, 9, 10, 11] (by decide) rfl
      exact cut39_0 (uT 10) g ko kp 0 _ _ _ hg is16_0 (by omega) hSq hl hP hD hS
    · --  (F 0 2) = 2
      refine lv_aload_n hx hb d_T_doWhatIsAgreed_26 rfl (lv_at hl 1 rfl) ?_
      refine va_get (D := (dC, dI)) (ci := 0) (v := .ref o9) (C := "VotedTriple") (T := F_T) (N := 11) hx hb hw in_T hown hK hP 0 rfl rfl 4 (by decide) (hw _ k_198) (fun _ h9 => h9) rfl d_T_doWhatIsAgreed_27 ?_
      refine lv_aload_n hx hb d_T_doWhatIsAgreed_30 rfl (lv_at hl 2 rfl) ?_
      refine va_get (D := (dC, dI)) (ci := 2) (v := .int (F 0 3)) (C := "VotedTriple$VotedModule") (T := F_D) (N := 19) hx hb hw in_D hown hK hP 2 rfl rfl 3 (by decide) (hw _ k_89) (fun x9 h9 => u_same (hw _ k_88) x9 h9) rfl d_T_doWhatIsAgreed_31 ?_
      replace hPc := hP.sub (ws' := [(o9, .inr (5, [.ref ok9, .int (nI ko)])), (ok9, .inl (cO, 300, .inl kp))]) [10, 11] rfl
      replace hKc := hK.sub (tys' := [(cO, .int)]) [5] rfl
      replace hDc := hD.sub (ws' := [(o9, .inr (5, [.ref ok9, .int (nI ko)])), (ok9, .inl (cO, 300, .inl kp))]) [10, 11] (by decide) rfl
      replace hFc := va_free (wc := [(o9, .inr (5, [.ref ok9, .int (nI ko)])), (ok9, .inl (cO, 300, .inl kp))]) hD hS hA [10, 11] rfl
      refine va_callv (va_runV (C := "VotedTriple$WordsOut") (As := [.int (F 0 3)]) (rest := []) ⟨hx, hb, hml, hown, hw⟩ (c_O_add l dC dI o9 ok9 ko cO kp (F 0 3) hk1 s.heap.size) (cwV 1 hw (gdV (k_555) (k_621) (k_553) (k_554) (k_5)) rfl rfl rfl (by decide +kernel) ⟨Nat.le_of_ble_eq_true rfl, Nat.le_of_ble_eq_true rfl⟩) ⟨fun a U g mk q => by obtain ⟨q0, q1, qP, qK, qD⟩ := q; exact ⟨q0, q1, qP, va_K.moved (u := U) (U := U.calling g mk a) (Vm.Alike.refl U.vm) qK, qD⟩, va_recv hK hP rfl (q0 := 10) rfl, fun U hU hW => ⟨rfl, by rw [hU], by rw [hU]; exact hPc, va_K.moved hW.alike hKc, hDc.weaken (fun _ _ _ _ => trivial)⟩⟩ rfl rfl hl.1 rfl (lv_room (Nat.le_of_ble_eq_true rfl)) d_T_doWhatIsAgreed_34 ⟨Nat.le_of_ble_eq_true rfl, Nat.le_of_ble_eq_true rfl⟩) hS (fun q _ h => hFc q h) hFc (fun u9 t H1 locs ht hvm hr20 hB hz1 hk1 hS => ?_)
      obtain ⟨w221, rfl⟩ : ∃ z, z = u9 := ⟨_, rfl⟩
      obtain ⟨hP1, hK1, hD1⟩ := hB
      rw [ht] at hP1
      replace hK1 := va_K.moved hvm.symm hK1
      try dsimp only at hr20 hP1 hK1 hD1
      obtain ⟨hr20, hr20E⟩ := hr20
      obtain ⟨hPz, hDz⟩ := va_join (wr := [(h0, .inr (0, oT uT p9 a9 e9 n9 o9)), (a9, .inl (ca, 3, .inr (.inr (.inr (.inr (mo da)))))), (da 0, .inr (2, oD (F 0) (ra 0) (ka 0))), (ra 0, .inl (cr 0, 8, .inl (g 0))), (da 1, .inr (2, oD (F 1) (ra 1) (ka 1))), (ra 1, .inl (cr 1, 8, .inl (g 1))), (da 2, .inr (2, oD (F 2) (ra 2) (ka 2))), (ra 2, .inl (cr 2, 8, .inl (g 2))), (n9, .inr (4, [.ref nw9, .int (nI kN)])), (nw9, .inl (cN, 64, .inl wN))]) (w1 := [(o9, .inr (5, [.ref ok9, .int (nI (ko + 1))])), (ok9, .inl (cO, 300, .inl w221))]) hP hD [10, 11] [0, 1, 2, 3, 4, 5, 6, 7, 8, 9] rfl rfl (by decide) (by decide) hk1 hFc hP1 hD1
      clear hP hD hPc hDc hP1 hD1 hFc
      have hP := hPz
      have hD := hDz
      clear hPz hDz
      replace hK := (hK.sub (tys' := [(ca, .object "VotedTriple$VotedModule"), (cr 0, .int), (cr 1, .int), (cr 2, .int), (cN, .int)]) [0, 1, 2, 3, 4] rfl).app hK1
      clear hK1 hKc
      generalize H1 = H at hP hS ⊢
      replace hP : va_P (dC, dI) classes [(h0, .inr (0, oT uT p9 a9 e9 n9 o9)), (a9, .inl (ca, 3, .inr (.inr (.inr (.inr (mo da)))))), (da 0, .inr (2, oD (F 0) (ra 0) (ka 0))), (ra 0, .inl (cr 0, 8, .inl (g 0))), (da 1, .inr (2, oD (F 1) (ra 1) (ka 1))), (ra 1, .inl (cr 1, 8, .inl (g 1))), (da 2, .inr (2, oD (F 2) (ra 2) (ka 2))), (ra 2, .inl (cr 2, 8, .inl (g 2))), (n9, .inr (4, [.ref nw9, .int (nI kN)])), (nw9, .inl (cN, 64, .inl wN)), (o9, .inr (5, [.ref ok9, .int (nI (ko + 1))])), (ok9, .inl (cO, 300, .inl w221))] H := hP
      replace hD : va_D A [(h0, .inr (0, oT uT p9 a9 e9 n9 o9)), (a9, .inl (ca, 3, .inr (.inr (.inr (.inr (mo da)))))), (da 0, .inr (2, oD (F 0) (ra 0) (ka 0))), (ra 0, .inl (cr 0, 8, .inl (g 0))), (da 1, .inr (2, oD (F 1) (ra 1) (ka 1))), (ra 1, .inl (cr 1, 8, .inl (g 1))), (da 2, .inr (2, oD (F 2) (ra 2) (ka 2))), (ra 2, .inl (cr 2, 8, .inl (g 2))), (n9, .inr (4, [.ref nw9, .int (nI kN)])), (nw9, .inl (cN, 64, .inl wN)), (o9, .inr (5, [.ref ok9, .int (nI (ko + 1))])), (ok9, .inl (cO, 300, .inl w221))] := hD
      replace hK : va_K (dC, dI) classes [(ca, .object "VotedTriple$VotedModule"), (cr 0, .int), (cr 1, .int), (cr 2, .int), (cN, .int), (cO, .int)] s := hK
      refine W.widen (k := 0) (n := 0) (Nat.le_of_ble_eq_true rfl) (Nat.le_of_ble_eq_true rfl) ?_
      refine lv_iconst (v := 0) hx hb d_T_doWhatIsAgreed_37 (by decide) ?_
      refine lv_istore_n hx hb d_T_doWhatIsAgreed_38 rfl hl (by decide) rfl (fun ls hl => ?_)
      replace hl : lv_has ls 4 [(3, .int 0), (2, .int 0), (0, .ref h0), (1, .ref (da 0))] := hl
      have hSq : SP = s_T_doWhatIsAgreed0_cut39_0 uT F (uT 10) g (ko + 1) w221 0 := by rw [← hSP, s_T_doWhatIsAgreed0]; try (rw [if_neg hc17]); try (rw [if_pos hc18]); try (rw [← hr20E, bnd_eq]); all_goals rfl
      replace hl := lv_sub hl (l' := [(0, .ref h0), (1, .ref (da 0)), (2, .int 0), (3, .int 0)]) [2, 3, 1, 0] rfl
      replace hP := hP.sub (ws' := [(h0, .inr (0, oT (upc uT 10 (uT 10)) p9 a9 e9 n9 o9)), (a9, .inl (ca, 3, .inr (.inr (.inr (.inr (mo da)))))), (da 0, .inr (2, oD (F 0) (ra 0) (ka 0))), (ra 0, .inl (cr 0, 8, .inl (g 0))), (da 1, .inr (2, oD (F 1) (ra 1) (ka 1))), (ra 1, .inl (cr 1, 8, .inl (g 1))), (da 2, .inr (2, oD (F 2) (ra 2) (ka 2))), (ra 2, .inl (cr 2, 8, .inl (g 2))), (n9, .inr (4, [.ref nw9, .int (nI kN)])), (nw9, .inl (cN, 64, .inl wN)), (o9, .inr (5, [.ref ok9, .int (nI (ko + 1))])), (ok9, .inl (cO, 300, .inl w221))]) [0, 1, 2, 3, 4, 5, 6, 7, 8, 9, 10, 11] rfl
      replace hD := hD.sub (ws' := [(h0, .inr (0, oT (upc uT 10 (uT 10)) p9 a9 e9 n9 o9)), (a9, .inl (ca, 3, .inr (.inr (.inr (.inr (mo da)))))), (da 0, .inr (2, oD (F 0) (ra 0) (ka 0))), (ra 0, .inl (cr 0, 8, .inl (g 0))), (da 1, .inr (2, oD (F 1) (ra 1) (ka 1))), (ra 1, .inl (cr 1, 8, .inl (g 1))), (da 2, .inr (2, oD (F 2) (ra 2) (ka 2))), (ra 2, .inl (cr 2, 8, .inl (g 2))), (n9, .inr (4, [.ref nw9, .int (nI kN)])), (nw9, .inl (cN, 64, .inl wN)), (o9, .inr (5, [.ref ok9, .int (nI (ko + 1))])), (ok9, .inl (cO, 300, .inl w221))]) [0, 1, 2, 3, 4, 5, 6, 7, 8, 9, 10, 11] (by decide) rfl
      exact cut39_0 (uT 10) g (ko + 1) w221 0 _ _ _ hg is16_0 (by omega) hSq hl hP hD hS
  · --  (F 0 2) = 1
    refine lv_aload_n hx hb d_T_doWhatIsAgreed_10 rfl (lv_at hl 1 rfl) ?_
    replace hPc := hP.sub (ws' := [(h0, .inr (0, oT uT p9 a9 e9 n9 o9)), (n9, .inr (4, [.ref nw9, .int (nI kN)])), (nw9, .inl (cN, 64, .inl wN))]) [0, 8, 9] rfl
    replace hKc := hK.sub (tys' := [(cN, .int)]) [4] rfl
    replace hDc := hD.sub (ws' := [(h0, .inr (0, oT uT p9 a9 e9 n9 o9)), (n9, .inr (4, [.ref nw9, .int (nI kN)])), (nw9, .inl (cN, 64, .inl wN))]) [0, 8, 9] (by decide) rfl
    replace hFc := va_free (wc := [(h0, .inr (0, oT uT p9 a9 e9 n9 o9)), (n9, .inr (4, [.ref nw9, .int (nI kN)])), (nw9, .inl (cN, 64, .inl wN))]) hD hS hA [0, 8, 9] rfl
    refine va_calli (va_runV (C := "VotedTriple") (As := []) (rest := []) ⟨hx, hb, hml, hown, hw⟩ (c_T_takeWord l dC dI h0 p9 a9 e9 n9 o9 nw9 cN uT kN wN hkN hwN s.heap.size) (cwV 0 hw (gdV (k_619) (k_616) (k_618) (ks_15) (k_1)) rfl rfl rfl (by decide +kernel) ⟨Nat.le_of_ble_eq_true rfl, Nat.le_of_ble_eq_true rfl⟩) ⟨fun a U g mk q => by obtain ⟨q0, q1, qP, qK, qD⟩ := q; exact ⟨q0, q1, qP, va_K.moved (u := U) (U := U.calling g mk a) (Vm.Alike.refl U.vm) qK, qD⟩, va_recv hK hP rfl (q0 := 0) rfl, fun U hU hW => ⟨rfl, by rw [hU], by rw [hU]; exact hPc, va_K.moved hW.alike hKc, hDc.weaken (fun _ _ _ _ => trivial)⟩⟩ rfl rfl hl.1 rfl (lv_room (Nat.le_of_ble_eq_true rfl)) d_T_doWhatIsAgreed_11 ⟨Nat.le_of_ble_eq_true rfl, Nat.le_of_ble_eq_true rfl⟩) hS (fun q _ h => hFc q h) hFc (fun r22 u9 t H1 locs ht hvm hr23 hB hz1 hk1 hS => ?_)
    obtain ⟨y1024, rfl⟩ : ∃ z, z = u9 := ⟨_, rfl⟩
    obtain ⟨hP1, hK1, hD1⟩ := hB
    rw [ht] at hP1
    replace hK1 := va_K.moved hvm.symm hK1
    try dsimp only at hr23 hP1 hK1 hD1
    obtain ⟨hr23, hr23E⟩ := hr23
    obtain ⟨hPz, hDz⟩ := va_join (wr := [(a9, .inl (ca, 3, .inr (.inr (.inr (.inr (mo da)))))), (da 0, .inr (2, oD (F 0) (ra 0) (ka 0))), (ra 0, .inl (cr 0, 8, .inl (g 0))), (da 1, .inr (2, oD (F 1) (ra 1) (ka 1))), (ra 1, .inl (cr 1, 8, .inl (g 1))), (da 2, .inr (2, oD (F 2) (ra 2) (ka 2))), (ra 2, .inl (cr 2, 8, .inl (g 2))), (o9, .inr (5, [.ref ok9, .int (nI ko)])), (ok9, .inl (cO, 300, .inl kp))]) (w1 := [(h0, .inr (0, oT (upc uT 10 y1024) p9 a9 e9 n9 o9)), (n9, .inr (4, [.ref nw9, .int (nI kN)])), (nw9, .inl (cN, 64, .inl wN))]) hP hD [0, 8, 9] [1, 2, 3, 4, 5, 6, 7, 10, 11] rfl rfl (by decide) (by decide) hk1 hFc hP1 hD1
    clear hP hD hPc hDc hP1 hD1 hFc
    have hP := hPz
    have hD := hDz
    clear hPz hDz
    replace hK := (hK.sub (tys' := [(ca, .object "VotedTriple$VotedModule"), (cr 0, .int), (cr 1, .int), (cr 2, .int), (cO, .int)]) [0, 1, 2, 3, 5] rfl).app hK1
    clear hK1 hKc
    generalize H1 = H at hP hS ⊢
    replace hP : va_P (dC, dI) classes [(a9, .inl (ca, 3, .inr (.inr (.inr (.inr (mo da)))))), (da 0, .inr (2, oD (F 0) (ra 0) (ka 0))), (ra 0, .inl (cr 0, 8, .inl (g 0))), (da 1, .inr (2, oD (F 1) (ra 1) (ka 1))), (ra 1, .inl (cr 1, 8, .inl (g 1))), (da 2, .inr (2, oD (F 2) (ra 2) (ka 2))), (ra 2, .inl (cr 2, 8, .inl (g 2))), (o9, .inr (5, [.ref ok9, .int (nI ko)])), (ok9, .inl (cO, 300, .inl kp)), (h0, .inr (0, oT (upc uT 10 y1024) p9 a9 e9 n9 o9)), (n9, .inr (4, [.ref nw9, .int (nI kN)])), (nw9, .inl (cN, 64, .inl wN))] H := hP
    replace hD : va_D A [(a9, .inl (ca, 3, .inr (.inr (.inr (.inr (mo da)))))), (da 0, .inr (2, oD (F 0) (ra 0) (ka 0))), (ra 0, .inl (cr 0, 8, .inl (g 0))), (da 1, .inr (2, oD (F 1) (ra 1) (ka 1))), (ra 1, .inl (cr 1, 8, .inl (g 1))), (da 2, .inr (2, oD (F 2) (ra 2) (ka 2))), (ra 2, .inl (cr 2, 8, .inl (g 2))), (o9, .inr (5, [.ref ok9, .int (nI ko)])), (ok9, .inl (cO, 300, .inl kp)), (h0, .inr (0, oT (upc uT 10 y1024) p9 a9 e9 n9 o9)), (n9, .inr (4, [.ref nw9, .int (nI kN)])), (nw9, .inl (cN, 64, .inl wN))] := hD
    replace hK : va_K (dC, dI) classes [(ca, .object "VotedTriple$VotedModule"), (cr 0, .int), (cr 1, .int), (cr 2, .int), (cO, .int), (cN, .int)] s := hK
    refine W.widen (k := 0) (n := 0) (Nat.le_of_ble_eq_true rfl) (Nat.le_of_ble_eq_true rfl) ?_
    refine lv_istore_n hx hb d_T_doWhatIsAgreed_14 rfl hl (by decide) rfl (fun ls hl => ?_)
    replace hl : lv_has ls 4 [(2, .int r22), (0, .ref h0), (1, .ref (da 0))] := hl
    refine lv_goto (tgt := 37) hx hb d_T_doWhatIsAgreed_15 rfl ?_
    refine lv_iconst (v := 0) hx hb d_T_doWhatIsAgreed_37 (by decide) ?_
    refine lv_istore_n hx hb d_T_doWhatIsAgreed_38 rfl hl (by decide) rfl (fun ls hl => ?_)
    replace hl : lv_has ls 4 [(3, .int 0), (2, .int r22), (0, .ref h0), (1, .ref (da 0))] := hl
    have hSq : SP = s_T_doWhatIsAgreed0_cut39_0 uT F (upc uT 10 y1024 10) g ko kp r22 := by rw [← hSP, s_T_doWhatIsAgreed0]; try (rw [if_pos hc17]); try (rw [← hr23E, bnd_eq]); try dsimp only; all_goals rfl
    replace hl := lv_sub hl (l' := [(0, .ref h0), (1, .ref (da 0)), (2, .int r22), (3, .int 0)]) [2, 3, 1, 0] rfl
    replace hP := hP.sub (ws' := [(h0, .inr (0, oT (upc uT 10 (upc uT 10 y1024 10)) p9 a9 e9 n9 o9)), (a9, .inl (ca, 3, .inr (.inr (.inr (.inr (mo da)))))), (da 0, .inr (2, oD (F 0) (ra 0) (ka 0))), (ra 0, .inl (cr 0, 8, .inl (g 0))), (da 1, .inr (2, oD (F 1) (ra 1) (ka 1))), (ra 1, .inl (cr 1, 8, .inl (g 1))), (da 2, .inr (2, oD (F 2) (ra 2) (ka 2))), (ra 2, .inl (cr 2, 8, .inl (g 2))), (n9, .inr (4, [.ref nw9, .int (nI kN)])), (nw9, .inl (cN, 64, .inl wN)), (o9, .inr (5, [.ref ok9, .int (nI ko)])), (ok9, .inl (cO, 300, .inl kp))]) [9, 0, 1, 2, 3, 4, 5, 6, 10, 11, 7, 8] rfl
    replace hD := hD.sub (ws' := [(h0, .inr (0, oT (upc uT 10 (upc uT 10 y1024 10)) p9 a9 e9 n9 o9)), (a9, .inl (ca, 3, .inr (.inr (.inr (.inr (mo da)))))), (da 0, .inr (2, oD (F 0) (ra 0) (ka 0))), (ra 0, .inl (cr 0, 8, .inl (g 0))), (da 1, .inr (2, oD (F 1) (ra 1) (ka 1))), (ra 1, .inl (cr 1, 8, .inl (g 1))), (da 2, .inr (2, oD (F 2) (ra 2) (ka 2))), (ra 2, .inl (cr 2, 8, .inl (g 2))), (n9, .inr (4, [.ref nw9, .int (nI kN)])), (nw9, .inl (cN, 64, .inl wN)), (o9, .inr (5, [.ref ok9, .int (nI ko)])), (ok9, .inl (cO, 300, .inl kp))]) [9, 0, 1, 2, 3, 4, 5, 6, 10, 11, 7, 8] (by decide) rfl
    exact cut39_0 (upc uT 10 y1024 10) g ko kp r22 _ _ _ hg hr23 (by omega) hSq hl hP hD hS

set_option maxHeartbeats 4000000 in
set_option maxRecDepth 100000 in
theorem c_T_doWhatIsAgreed1 (l : Launch) (dC : Nat → ClassId) (dI : Nat → Nat → Nat) (h0 : Nat) (p9 : Nat) (a9 : Nat) (e9 : Nat) (n9 : Nat) (o9 : Nat) (ca : ClassId) (da : Nat → Nat) (ra : Nat → Nat) (ka : Nat → Nat) (cr : Nat → ClassId) (nw9 : Nat) (cN : ClassId) (ok9 : Nat) (cO : ClassId) (uT : Nat → Int32) (F : Nat → Nat → Int32) (g : Nat → Nat → Int32) (kN : Nat) (wN : Nat → Int32) (ko : Nat) (kp : Nat → Int32) (hF : f3 F) (hg : g3 g) (hkN : kN ≤ 64) (hwN : wdI 64 wN) (hk1 : ko + 1 < 2 ^ 31) (sz : Nat) : Met l y_T_doWhatIsAgreed (tbw y_T_doWhatIsAgreed b_T_doWhatIsAgreed 4 none) ({ frames := 2, cells := 0, slots := 0, locals := 42 }) (va_Pc [.ref h0, .ref (da 1)] (fun U => U.heap.size = sz ∧ va_P (dC, dI) classes [(h0, .inr (0, oT uT p9 a9 e9 n9 o9)), (a9, .inl (ca, 3, .inr (.inr (.inr (.inr (mo da)))))), (da 0, .inr (2, oD (F 0) (ra 0) (ka 0))), (ra 0, .inl (cr 0, 8, .inl (g 0))), (da 1, .inr (2, oD (F 1) (ra 1) (ka 1))), (ra 1, .inl (cr 1, 8, .inl (g 1))), (da 2, .inr (2, oD (F 2) (ra 2) (ka 2))), (ra 2, .inl (cr 2, 8, .inl (g 2))), (n9, .inr (4, [.ref nw9, .int (nI kN)])), (nw9, .inl (cN, 64, .inl wN)), (o9, .inr (5, [.ref ok9, .int (nI ko)])), (ok9, .inl (cO, 300, .inl kp))] U.heap ∧ va_K (dC, dI) classes [(ca, .object "VotedTriple$VotedModule"), (cr 0, .int), (cr 1, .int), (cr 2, .int), (cN, .int), (cO, .int)] U ∧ va_D (fun _ => True) [(h0, .inr (0, oT uT p9 a9 e9 n9 o9)), (a9, .inl (ca, 3, .inr (.inr (.inr (.inr (mo da)))))), (da 0, .inr (2, oD (F 0) (ra 0) (ka 0))), (ra 0, .inl (cr 0, 8, .inl (g 0))), (da 1, .inr (2, oD (F 1) (ra 1) (ka 1))), (ra 1, .inl (cr 1, 8, .inl (g 1))), (da 2, .inr (2, oD (F 2) (ra 2) (ka 2))), (ra 2, .inl (cr 2, 8, .inl (g 2))), (n9, .inr (4, [.ref nw9, .int (nI kN)])), (nw9, .inl (cN, 64, .inl wN)), (o9, .inr (5, [.ref ok9, .int (nI ko)])), (ok9, .inl (cO, 300, .inl kp))])) (va_Qv (fun (u9 : (Nat → Nat → Int32) × Nat × (Nat → Int32) × Int32) => match u9 with | (g2, ko2, kp2, y10) => (g3 g2 ∧ ko2 ≤ ko + 1) ∧ (g2, ko2, kp2, y10) = s_T_doWhatIsAgreed1 uT F g kN wN ko kp) (fun (u9 : (Nat → Nat → Int32) × Nat × (Nat → Int32) × Int32) t => match u9 with | (g2, ko2, kp2, y10) => va_P (dC, dI) classes [(h0, .inr (0, oT (upc uT 10 y10) p9 a9 e9 n9 o9)), (a9, .inl (ca, 3, .inr (.inr (.inr (.inr (mo da)))))), (da 0, .inr (2, oD (F 0) (ra 0) (ka 0))), (ra 0, .inl (cr 0, 8, .inl (g2 0))), (da 1, .inr (2, oD (F 1) (ra 1) (ka 1))), (ra 1, .inl (cr 1, 8, .inl (g2 1))), (da 2, .inr (2, oD (F 2) (ra 2) (ka 2))), (ra 2, .inl (cr 2, 8, .inl (g2 2))), (n9, .inr (4, [.ref nw9, .int (nI kN)])), (nw9, .inl (cN, 64, .inl wN)), (o9, .inr (5, [.ref ok9, .int (nI ko2)])), (ok9, .inl (cO, 300, .inl kp2))] t.heap ∧ va_K (dC, dI) classes [(ca, .object "VotedTriple$VotedModule"), (cr 0, .int), (cr 1, .int), (cr 2, .int), (cN, .int), (cO, .int)] t ∧ va_D (va_A [(h0, .inr (0, oT uT p9 a9 e9 n9 o9)), (a9, .inl (ca, 3, .inr (.inr (.inr (.inr (mo da)))))), (da 0, .inr (2, oD (F 0) (ra 0) (ka 0))), (ra 0, .inl (cr 0, 8, .inl (g 0))), (da 1, .inr (2, oD (F 1) (ra 1) (ka 1))), (ra 1, .inl (cr 1, 8, .inl (g 1))), (da 2, .inr (2, oD (F 2) (ra 2) (ka 2))), (ra 2, .inl (cr 2, 8, .inl (g 2))), (n9, .inr (4, [.ref nw9, .int (nI kN)])), (nw9, .inl (cN, 64, .inl wN)), (o9, .inr (5, [.ref ok9, .int (nI ko)])), (ok9, .inl (cO, 300, .inl kp))] sz) [(h0, .inr (0, oT (upc uT 10 y10) p9 a9 e9 n9 o9)), (a9, .inl (ca, 3, .inr (.inr (.inr (.inr (mo da)))))), (da 0, .inr (2, oD (F 0) (ra 0) (ka 0))), (ra 0, .inl (cr 0, 8, .inl (g2 0))), (da 1, .inr (2, oD (F 1) (ra 1) (ka 1))), (ra 1, .inl (cr 1, 8, .inl (g2 1))), (da 2, .inr (2, oD (F 2) (ra 2) (ka 2))), (ra 2, .inl (cr 2, 8, .inl (g2 2))), (n9, .inr (4, [.ref nw9, .int (nI kN)])), (nw9, .inl (cN, 64, .inl wN)), (o9, .inr (5, [.ref ok9, .int (nI ko2)])), (ok9, .inl (cO, 300, .inl kp2))]) (va_A [(h0, .inr (0, oT uT p9 a9 e9 n9 o9)), (a9, .inl (ca, 3, .inr (.inr (.inr (.inr (mo da)))))), (da 0, .inr (2, oD (F 0) (ra 0) (ka 0))), (ra 0, .inl (cr 0, 8, .inl (g 0))), (da 1, .inr (2, oD (F 1) (ra 1) (ka 1))), (ra 1, .inl (cr 1, 8, .inl (g 1))), (da 2, .inr (2, oD (F 2) (ra 2) (ka 2))), (ra 2, .inl (cr 2, 8, .inl (g 2))), (n9, .inr (4, [.ref nw9, .int (nI kN)])), (nw9, .inl (cN, 64, .inl wN)), (o9, .inr (5, [.ref ok9, .int (nI ko)])), (ok9, .inl (cO, 300, .inl kp))] sz)) 0 0 (va_A [(h0, .inr (0, oT uT p9 a9 e9 n9 o9)), (a9, .inl (ca, 3, .inr (.inr (.inr (.inr (mo da)))))), (da 0, .inr (2, oD (F 0) (ra 0) (ka 0))), (ra 0, .inl (cr 0, 8, .inl (g 0))), (da 1, .inr (2, oD (F 1) (ra 1) (ka 1))), (ra 1, .inl (cr 1, 8, .inl (g 1))), (da 2, .inr (2, oD (F 2) (ra 2) (ka 2))), (ra 2, .inl (cr 2, 8, .inl (g 2))), (n9, .inr (4, [.ref nw9, .int (nI kN)])), (nw9, .inl (cN, 64, .inl wN)), (o9, .inr (5, [.ref ok9, .int (nI ko)])), (ok9, .inl (cO, 300, .inl kp))] sz) := by
  refine Met.ofW (cc := b_T_doWhatIsAgreed) (maxL := 4) (ret := none) (by decide) rfl ?_
  intro p e s m args below meth c s₁ B hml hv
  obtain ⟨rfl, hsz, hP, hK, hD0⟩ := hv
  have hx := B.exec
  have hb := B.bytes
  have hr := B.returns
  have hts := atoms_spec (ws := (tbw y_T_doWhatIsAgreed b_T_doWhatIsAgreed 4 none)) B.pre
  have hw : ∀ z9 ∈ tb, z9.before ([.ref h0, .ref (da 1)] : List Value).toArray s = true := fun z9 h => hts z9 (List.mem_cons_of_mem _ h)
  have hown : s.vm.findClass "VotedTriple" = some m.cls := findClass_of_methodNamed B.named
  have hlocks := B.notSynchronized
  subst hsz
  replace hD := hD0.self (sz := s.heap.size)
  generalize hAe : va_A [(h0, .inr (0, oT uT p9 a9 e9 n9 o9)), (a9, .inl (ca, 3, .inr (.inr (.inr (.inr (mo da)))))), (da 0, .inr (2, oD (F 0) (ra 0) (ka 0))), (ra 0, .inl (cr 0, 8, .inl (g 0))), (da 1, .inr (2, oD (F 1) (ra 1) (ka 1))), (ra 1, .inl (cr 1, 8, .inl (g 1))), (da 2, .inr (2, oD (F 2) (ra 2) (ka 2))), (ra 2, .inl (cr 2, 8, .inl (g 2))), (n9, .inr (4, [.ref nw9, .int (nI kN)])), (nw9, .inl (cN, 64, .inl wN)), (o9, .inr (5, [.ref ok9, .int (nI ko)])), (ok9, .inl (cO, 300, .inl kp))] s.heap.size = A at hD ⊢
  have hA : ∀ q : Nat, s.heap.size ≤ q → A q := fun q h => by rw [← hAe]; exact Or.inr h
  have hS : va_S A s.heap s.heap [] := va_S.rf
  replace hl := lv_entry ([.ref h0, .ref (da 1)]) (n := 4) (Nat.le_of_ble_eq_true rfl)
  rw [lg_entry_eq]
  generalize (lg_sl ([.ref h0, .ref (da 1)]) ++ List.replicate (4 - (lg_sl ([.ref h0, .ref (da 1)])).length) Slot.unset).toArray = ls at hl ⊢
  replace hl : lv_has ls 4 [(0, .ref h0), (1, .ref (da 1))] := hl
  generalize hSP : s_T_doWhatIsAgreed1 uT F g kN wN ko kp = SP
  have cut39_3 : ∀ (y10 : Int32) (g : Nat → Nat → Int32) (ko2 : Nat) (kp2 : Nat → Int32) (w2 : Int32) (ls : Array Slot) (H : Heap) (locs : List Loc), g3 g → is16 w2 → ko2 ≤ ko + 1 → SP = s_T_doWhatIsAgreed1_cut39_3 uT y10 g ko2 kp2 w2 →  lv_has ls 4 [(0, .ref h0), (1, .ref (da 1)), (2, .int w2), (3, .int 3)] → va_P (dC, dI) classes [(h0, .inr (0, oT (upc uT 10 y10) p9 a9 e9 n9 o9)), (a9, .inl (ca, 3, .inr (.inr (.inr (.inr (mo da)))))), (da 0, .inr (2, oD (F 0) (ra 0) (ka 0))), (ra 0, .inl (cr 0, 8, .inl (g 0))), (da 1, .inr (2, oD (F 1) (ra 1) (ka 1))), (ra 1, .inl (cr 1, 8, .inl (g 1))), (da 2, .inr (2, oD (F 2) (ra 2) (ka 2))), (ra 2, .inl (cr 2, 8, .inl (g 2))), (n9, .inr (4, [.ref nw9, .int (nI kN)])), (nw9, .inl (cN, 64, .inl wN)), (o9, .inr (5, [.ref ok9, .int (nI ko2)])), (ok9, .inl (cO, 300, .inl kp2))] H → va_D A [(h0, .inr (0, oT (upc uT 10 y10) p9 a9 e9 n9 o9)), (a9, .inl (ca, 3, .inr (.inr (.inr (.inr (mo da)))))), (da 0, .inr (2, oD (F 0) (ra 0) (ka 0))), (ra 0, .inl (cr 0, 8, .inl (g 0))), (da 1, .inr (2, oD (F 1) (ra 1) (ka 1))), (ra 1, .inl (cr 1, 8, .inl (g 1))), (da 2, .inr (2, oD (F 2) (ra 2) (ka 2))), (ra 2, .inl (cr 2, 8, .inl (g 2))), (n9, .inr (4, [.ref nw9, .int (nI kN)])), (nw9, .inl (cN, 64, .inl wN)), (o9, .inr (5, [.ref ok9, .int (nI ko2)])), (ok9, .inl (cO, 300, .inl kp2))] → va_S A s.heap H locs → W p l e (headSpec (tbw y_T_doWhatIsAgreed b_T_doWhatIsAgreed 4 none) ({ frames := 2, cells := 0, slots := 0, locals := 42 })).room s m ([.ref h0, .ref (da 1)] : List Value).toArray below meth c H locs 0 0 (MQ below (va_Qv (fun (u9 : (Nat → Nat → Int32) × Nat × (Nat → Int32) × Int32) => match u9 with | (g2, ko2, kp2, y10) => (g3 g2 ∧ ko2 ≤ ko + 1) ∧ (g2, ko2, kp2, y10) = SP) (fun (u9 : (Nat → Nat → Int32) × Nat × (Nat → Int32) × Int32) t => match u9 with | (g2, ko2, kp2, y10) => va_P (dC, dI) classes [(h0, .inr (0, oT (upc uT 10 y10) p9 a9 e9 n9 o9)), (a9, .inl (ca, 3, .inr (.inr (.inr (.inr (mo da)))))), (da 0, .inr (2, oD (F 0) (ra 0) (ka 0))), (ra 0, .inl (cr 0, 8, .inl (g2 0))), (da 1, .inr (2, oD (F 1) (ra 1) (ka 1))), (ra 1, .inl (cr 1, 8, .inl (g2 1))), (da 2, .inr (2, oD (F 2) (ra 2) (ka 2))), (ra 2, .inl (cr 2, 8, .inl (g2 2))), (n9, .inr (4, [.ref nw9, .int (nI kN)])), (nw9, .inl (cN, 64, .inl wN)), (o9, .inr (5, [.ref ok9, .int (nI ko2)])), (ok9, .inl (cO, 300, .inl kp2))] t.heap ∧ va_K (dC, dI) classes [(ca, .object "VotedTriple$VotedModule"), (cr 0, .int), (cr 1, .int), (cr 2, .int), (cN, .int), (cO, .int)] t ∧ va_D A [(h0, .inr (0, oT (upc uT 10 y10) p9 a9 e9 n9 o9)), (a9, .inl (ca, 3, .inr (.inr (.inr (.inr (mo da)))))), (da 0, .inr (2, oD (F 0) (ra 0) (ka 0))), (ra 0, .inl (cr 0, 8, .inl (g2 0))), (da 1, .inr (2, oD (F 1) (ra 1) (ka 1))), (ra 1, .inl (cr 1, 8, .inl (g2 1))), (da 2, .inr (2, oD (F 2) (ra 2) (ka 2))), (ra 2, .inl (cr 2, 8, .inl (g2 2))), (n9, .inr (4, [.ref nw9, .int (nI kN)])), (nw9, .inl (cN, 64, .inl wN)), (o9, .inr (5, [.ref ok9, .int (nI ko2)])), (ok9, .inl (cO, 300, .inl kp2))]) A) ([.ref h0, .ref (da 1)] : List Value).toArray s 0 0 A) (F0 m 39 ls []) := by
    intro y10 g ko2 kp2 w2 ls H locs hg h29 h39 hSq0 hl hP hD hS
    refine lv_iload_n hx hb d_T_doWhatIsAgreed_39 rfl (lv_at hl 3 rfl) ?_
    refine lv_iconst (v := 3) hx hb d_T_doWhatIsAgreed_40 (by decide) ?_
    refine lv_icmp_ge (tgt := 72) hx hb d_T_doWhatIsAgreed_41 rfl (fun hc1 => ?_) (fun hc1 => by first | exact absurd (by decide) hc1 | exact absurd hc1 (by decide))
    have hP9 := hP.sub (ws' := [(h0, .inr (0, oT (upc uT 10 (upc uT 10 y10 10)) p9 a9 e9 n9 o9)), (a9, .inl (ca, 3, .inr (.inr (.inr (.inr (mo da)))))), (da 0, .inr (2, oD (F 0) (ra 0) (ka 0))), (ra 0, .inl (cr 0, 8, .inl (g 0))), (da 1, .inr (2, oD (F 1) (ra 1) (ka 1))), (ra 1, .inl (cr 1, 8, .inl (g 1))), (da 2, .inr (2, oD (F 2) (ra 2) (ka 2))), (ra 2, .inl (cr 2, 8, .inl (g 2))), (n9, .inr (4, [.ref nw9, .int (nI kN)])), (nw9, .inl (cN, 64, .inl wN)), (o9, .inr (5, [.ref ok9, .int (nI ko2)])), (ok9, .inl (cO, 300, .inl kp2))]) [0, 1, 2, 3, 4, 5, 6, 7, 8, 9, 10, 11] rfl
    have hD9 := hD.sub (ws' := [(h0, .inr (0, oT (upc uT 10 (upc uT 10 y10 10)) p9 a9 e9 n9 o9)), (a9, .inl (ca, 3, .inr (.inr (.inr (.inr (mo da)))))), (da 0, .inr (2, oD (F 0) (ra 0) (ka 0))), (ra 0, .inl (cr 0, 8, .inl (g 0))), (da 1, .inr (2, oD (F 1) (ra 1) (ka 1))), (ra 1, .inl (cr 1, 8, .inl (g 1))), (da 2, .inr (2, oD (F 2) (ra 2) (ka 2))), (ra 2, .inl (cr 2, 8, .inl (g 2))), (n9, .inr (4, [.ref nw9, .int (nI kN)])), (nw9, .inl (cN, 64, .inl wN)), (o9, .inr (5, [.ref ok9, .int (nI ko2)])), (ok9, .inl (cO, 300, .inl kp2))]) [0, 1, 2, 3, 4, 5, 6, 7, 8, 9, 10, 11] (by decide) rfl
    have hK9 := hK.sub (tys' := [(ca, .object "VotedTriple$VotedModule"), (cr 0, .int), (cr 1, .int), (cr 2, .int), (cN, .int), (cO, .int)]) [0, 1, 2, 3, 4, 5] rfl
    refine W.widen (k := 0) (n := 0) (Nat.le_of_ble_eq_true rfl) (Nat.le_of_ble_eq_true rfl) ?_
    exact W.vret hx hb hr (fun t ht hW => ⟨⟨(g, ko2, kp2, upc uT 10 y10 10), rfl, ⟨⟨hg, h39⟩, (by rw [hSq0, s_T_doWhatIsAgreed1_cut39_3]; all_goals rfl)⟩, by rw [ht]; exact hP9, va_K.moved hW.alike hK9, hD9⟩, hS.F ht⟩) hS.2.2 d_T_doWhatIsAgreed_72
  have cut39_2 : ∀ (y10 : Int32) (g : Nat → Nat → Int32) (ko2 : Nat) (kp2 : Nat → Int32) (w2 : Int32) (ls : Array Slot) (H : Heap) (locs : List Loc), g3 g → is16 w2 → ko2 ≤ ko + 1 → SP = s_T_doWhatIsAgreed1_cut39_2 uT F y10 g ko2 kp2 w2 →  lv_has ls 4 [(0, .ref h0), (1, .ref (da 1)), (2, .int w2), (3, .int 2)] → va_P (dC, dI) classes [(h0, .inr (0, oT (upc uT 10 y10) p9 a9 e9 n9 o9)), (a9, .inl (ca, 3, .inr (.inr (.inr (.inr (mo da)))))), (da 0, .inr (2, oD (F 0) (ra 0) (ka 0))), (ra 0, .inl (cr 0, 8, .inl (g 0))), (da 1, .inr (2, oD (F 1) (ra 1) (ka 1))), (ra 1, .inl (cr 1, 8, .inl (g 1))), (da 2, .inr (2, oD (F 2) (ra 2) (ka 2))), (ra 2, .inl (cr 2, 8, .inl (g 2))), (n9, .inr (4, [.ref nw9, .int (nI kN)])), (nw9, .inl (cN, 64, .inl wN)), (o9, .inr (5, [.ref ok9, .int (nI ko2)])), (ok9, .inl (cO, 300, .inl kp2))] H → va_D A [(h0, .inr (0, oT (upc uT 10 y10) p9 a9 e9 n9 o9)), (a9, .inl (ca, 3, .inr (.inr (.inr (.inr (mo da)))))), (da 0, .inr (2, oD (F 0) (ra 0) (ka 0))), (ra 0, .inl (cr 0, 8, .inl (g 0))), (da 1, .inr (2, oD (F 1) (ra 1) (ka 1))), (ra 1, .inl (cr 1, 8, .inl (g 1))), (da 2, .inr (2, oD (F 2) (ra 2) (ka 2))), (ra 2, .inl (cr 2, 8, .inl (g 2))), (n9, .inr (4, [.ref nw9, .int (nI kN)])), (nw9, .inl (cN, 64, .inl wN)), (o9, .inr (5, [.ref ok9, .int (nI ko2)])), (ok9, .inl (cO, 300, .inl kp2))] → va_S A s.heap H locs → W p l e (headSpec (tbw y_T_doWhatIsAgreed b_T_doWhatIsAgreed 4 none) ({ frames := 2, cells := 0, slots := 0, locals := 42 })).room s m ([.ref h0, .ref (da 1)] : List Value).toArray below meth c H locs 0 0 (MQ below (va_Qv (fun (u9 : (Nat → Nat → Int32) × Nat × (Nat → Int32) × Int32) => match u9 with | (g2, ko2, kp2, y10) => (g3 g2 ∧ ko2 ≤ ko + 1) ∧ (g2, ko2, kp2, y10) = SP) (fun (u9 : (Nat → Nat → Int32) × Nat × (Nat → Int32) × Int32) t => match u9 with | (g2, ko2, kp2, y10) => va_P (dC, dI) classes [(h0, .inr (0, oT (upc uT 10 y10) p9 a9 e9 n9 o9)), (a9, .inl (ca, 3, .inr (.inr (.inr (.inr (mo da)))))), (da 0, .inr (2, oD (F 0) (ra 0) (ka 0))), (ra 0, .inl (cr 0, 8, .inl (g2 0))), (da 1, .inr (2, oD (F 1) (ra 1) (ka 1))), (ra 1, .inl (cr 1, 8, .inl (g2 1))), (da 2, .inr (2, oD (F 2) (ra 2) (ka 2))), (ra 2, .inl (cr 2, 8, .inl (g2 2))), (n9, .inr (4, [.ref nw9, .int (nI kN)])), (nw9, .inl (cN, 64, .inl wN)), (o9, .inr (5, [.ref ok9, .int (nI ko2)])), (ok9, .inl (cO, 300, .inl kp2))] t.heap ∧ va_K (dC, dI) classes [(ca, .object "VotedTriple$VotedModule"), (cr 0, .int), (cr 1, .int), (cr 2, .int), (cN, .int), (cO, .int)] t ∧ va_D A [(h0, .inr (0, oT (upc uT 10 y10) p9 a9 e9 n9 o9)), (a9, .inl (ca, 3, .inr (.inr (.inr (.inr (mo da)))))), (da 0, .inr (2, oD (F 0) (ra 0) (ka 0))), (ra 0, .inl (cr 0, 8, .inl (g2 0))), (da 1, .inr (2, oD (F 1) (ra 1) (ka 1))), (ra 1, .inl (cr 1, 8, .inl (g2 1))), (da 2, .inr (2, oD (F 2) (ra 2) (ka 2))), (ra 2, .inl (cr 2, 8, .inl (g2 2))), (n9, .inr (4, [.ref nw9, .int (nI kN)])), (nw9, .inl (cN, 64, .inl wN)), (o9, .inr (5, [.ref ok9, .int (nI ko2)])), (ok9, .inl (cO, 300, .inl kp2))]) A) ([.ref h0, .ref (da 1)] : List Value).toArray s 0 0 A) (F0 m 39 ls []) := by
    intro y10 g ko2 kp2 w2 ls H locs hg h29 h39 hSq0 hl hP hD hS
    refine lv_iload_n hx hb d_T_doWhatIsAgreed_39 rfl (lv_at hl 3 rfl) ?_
    refine lv_iconst (v := 3) hx hb d_T_doWhatIsAgreed_40 (by decide) ?_
    refine lv_icmp_ge (tgt := 72) hx hb d_T_doWhatIsAgreed_41 rfl (fun hc2 => by first | exact absurd hc2 (by decide) | exact absurd (by decide) hc2) (fun hc2 => ?_)
    refine lv_aload_n hx hb d_T_doWhatIsAgreed_44 rfl (lv_at hl 0 rfl) ?_
    refine va_get (D := (dC, dI)) (ci := 0) (v := .ref a9) (C := "VotedTriple") (T := F_T) (N := 11) hx hb hw in_T hown hK hP 0 rfl rfl 1 (by decide) (hw _ k_195) (fun _ h9 => h9) rfl d_T_doWhatIsAgreed_45 ?_
    refine lv_iload_n hx hb d_T_doWhatIsAgreed_48 rfl (lv_at hl 3 rfl) ?_
    refine va_aldq hx hb hK hP 1 0 rfl rfl (by unfold vp_in; decide) d_T_doWhatIsAgreed_49 ?_
    refine W.eq (g2 := F0 m 50 ls [.ref (da 2)]) rfl ?_
    refine va_get (D := (dC, dI)) (ci := 2) (v := .int (F 2 8)) (C := "VotedTriple$VotedModule") (T := F_D) (N := 19) hx hb hw in_D hown hK hP 6 rfl rfl 8 (by decide) (hw _ k_143) (fun _ h9 => h9) rfl d_T_doWhatIsAgreed_50 ?_
    refine lv_if_ne (tgt := 66) hx hb d_T_doWhatIsAgreed_53 rfl (fun hc3 => ?_) (fun hc3 => ?_)
    · --  ¬ (F 2 8) = 0
      refine lv_iinc (k := 3) (v := 3) hx hb d_T_doWhatIsAgreed_66 hl rfl rfl (by decide) rfl (fun ls hl => ?_)
      replace hl : lv_has ls 4 [(3, .int 3), (0, .ref h0), (1, .ref (da 1)), (2, .int w2)] := hl
      refine lv_goto (tgt := 39) hx hb d_T_doWhatIsAgreed_69 rfl ?_
      have hSq : SP = s_T_doWhatIsAgreed1_cut39_3 uT (upc uT 10 y10 10) g ko2 kp2 w2 := by rw [hSq0, s_T_doWhatIsAgreed1_cut39_2]; try (rw [if_neg hc3]); all_goals rfl
      replace hl := lv_sub hl (l' := [(0, .ref h0), (1, .ref (da 1)), (2, .int w2), (3, .int 3)]) [1, 2, 3, 0] rfl
      replace hP := hP.sub (ws' := [(h0, .inr (0, oT (upc uT 10 (upc uT 10 y10 10)) p9 a9 e9 n9 o9)), (a9, .inl (ca, 3, .inr (.inr (.inr (.inr (mo da)))))), (da 0, .inr (2, oD (F 0) (ra 0) (ka 0))), (ra 0, .inl (cr 0, 8, .inl (g 0))), (da 1, .inr (2, oD (F 1) (ra 1) (ka 1))), (ra 1, .inl (cr 1, 8, .inl (g 1))), (da 2, .inr (2, oD (F 2) (ra 2) (ka 2))), (ra 2, .inl (cr 2, 8, .inl (g 2))), (n9, .inr (4, [.ref nw9, .int (nI kN)])), (nw9, .inl (cN, 64, .inl wN)), (o9, .inr (5, [.ref ok9, .int (nI ko2)])), (ok9, .inl (cO, 300, .inl kp2))]) [0, 1, 2, 3, 4, 5, 6, 7, 8, 9, 10, 11] rfl
      replace hD := hD.sub (ws' := [(h0, .inr (0, oT (upc uT 10 (upc uT 10 y10 10)) p9 a9 e9 n9 o9)), (a9, .inl (ca, 3, .inr (.inr (.inr (.inr (mo da)))))), (da 0, .inr (2, oD (F 0) (ra 0) (ka 0))), (ra 0, .inl (cr 0, 8, .inl (g 0))), (da 1, .inr (2, oD (F 1) (ra 1) (ka 1))), (ra 1, .inl (cr 1, 8, .inl (g 1))), (da 2, .inr (2, oD (F 2) (ra 2) (ka 2))), (ra 2, .inl (cr 2, 8, .inl (g 2))), (n9, .inr (4, [.ref nw9, .int (nI kN)])), (nw9, .inl (cN, 64, .inl wN)), (o9, .inr (5, [.ref ok9, .int (nI ko2)])), (ok9, .inl (cO, 300, .inl kp2))]) [0, 1, 2, 3, 4, 5, 6, 7, 8, 9, 10, 11] (by decide) rfl
      exact cut39_3 (upc uT 10 y10 10) g ko2 kp2 w2 _ _ _ hg h29 h39 hSq hl hP hD hS
    · --  (F 2 8) = 0
      refine lv_aload_n hx hb d_T_doWhatIsAgreed_56 rfl (lv_at hl 0 rfl) ?_
      refine va_get (D := (dC, dI)) (ci := 0) (v := .ref a9) (C := "VotedTriple") (T := F_T) (N := 11) hx hb hw in_T hown hK hP 0 rfl rfl 1 (by decide) (hw _ k_195) (fun _ h9 => h9) rfl d_T_doWhatIsAgreed_57 ?_
      refine lv_iload_n hx hb d_T_doWhatIsAgreed_60 rfl (lv_at hl 3 rfl) ?_
      refine va_aldq hx hb hK hP 1 0 rfl rfl (by unfold vp_in; decide) d_T_doWhatIsAgreed_61 ?_
      refine W.eq (g2 := F0 m 62 ls [.ref (da 2)]) rfl ?_
      refine lv_iload_n hx hb d_T_doWhatIsAgreed_62 rfl (lv_at hl 2 rfl) ?_
      replace hPc := hP.sub (ws' := [(da 2, .inr (2, oD (F 2) (ra 2) (ka 2))), (ra 2, .inl (cr 2, 8, .inl (g 2)))]) [6, 7] rfl
      replace hKc := hK.sub (tys' := [(cr 2, .int)]) [3] rfl
      replace hDc := hD.sub (ws' := [(da 2, .inr (2, oD (F 2) (ra 2) (ka 2))), (ra 2, .inl (cr 2, 8, .inl (g 2)))]) [6, 7] (by decide) rfl
      replace hFc := va_free (wc := [(da 2, .inr (2, oD (F 2) (ra 2) (ka 2))), (ra 2, .inl (cr 2, 8, .inl (g 2)))]) hD hS hA [6, 7] rfl
      refine va_callv (va_runU (C := "VotedTriple$VotedModule") (As := [.int w2]) (rest := []) ⟨hx, hb, hml, hown, hw⟩ (c_C_receive_D l dC dI (da 2) (ra 2) (ka 2) (F 2) (cr 2) (g 2) w2 hF.2.2.2.1 h29 hg.2.2 H.size) (va_cwU (C := "VotedTriple$VotedModule") (owner := "VotedTriple$Processor") (x := ⟨"VotedTriple$VotedModule", "receive", "(I)V"⟩) (y := y_C_receive) 1 hw (gd_l (List.forall_mem_cons.mpr ⟨k_622, List.forall_mem_cons.mpr ⟨k_623, List.forall_mem_cons.mpr ⟨k_624, List.forall_mem_cons.mpr ⟨k_550, List.forall_mem_cons.mpr ⟨k_3, fun _ h => absurd h List.not_mem_nil⟩⟩⟩⟩⟩) (gd (k_551))) rfl rfl rfl rfl (by decide +kernel) ⟨Nat.le_of_ble_eq_true rfl, Nat.le_of_ble_eq_true rfl⟩) ⟨fun a U g mk q => by obtain ⟨q0, q1, qP, qK, qD⟩ := q; exact ⟨q0, q1, qP, va_K.moved (u := U) (U := U.calling g mk a) (Vm.Alike.refl U.vm) qK, qD⟩, va_recv hK hP rfl (q0 := 6) rfl, fun U hU hW => ⟨rfl, by rw [hU], by rw [hU]; exact hPc, va_K.moved hW.alike hKc, hDc.weaken (fun _ _ _ _ => trivial)⟩⟩ rfl rfl hl.1 rfl (lv_room (Nat.le_of_ble_eq_true rfl)) d_T_doWhatIsAgreed_63 ⟨Nat.le_of_ble_eq_true rfl, Nat.le_of_ble_eq_true rfl⟩) hS (fun q _ h => hFc q h) hFc (fun u9 t H1 locs ht hvm hr5 hB hz1 hk1 hS => ?_)
      obtain ⟨g6, rfl⟩ : ∃ z, z = u9 := ⟨_, rfl⟩
      obtain ⟨hP1, hK1, hD1⟩ := hB
      rw [ht] at hP1
      replace hK1 := va_K.moved hvm.symm hK1
      try dsimp only at hr5 hP1 hK1 hD1
      obtain ⟨hr5, hr5E⟩ := hr5
      obtain ⟨hPz, hDz⟩ := va_join (wr := [(h0, .inr (0, oT (upc uT 10 y10) p9 a9 e9 n9 o9)), (a9, .inl (ca, 3, .inr (.inr (.inr (.inr (mo da)))))), (da 0, .inr (2, oD (F 0) (ra 0) (ka 0))), (ra 0, .inl (cr 0, 8, .inl (g 0))), (da 1, .inr (2, oD (F 1) (ra 1) (ka 1))), (ra 1, .inl (cr 1, 8, .inl (g 1))), (n9, .inr (4, [.ref nw9, .int (nI kN)])), (nw9, .inl (cN, 64, .inl wN)), (o9, .inr (5, [.ref ok9, .int (nI ko2)])), (ok9, .inl (cO, 300, .inl kp2))]) (w1 := [(da 2, .inr (2, oD (F 2) (ra 2) (ka 2))), (ra 2, .inl (cr 2, 8, .inl g6))]) hP hD [6, 7] [0, 1, 2, 3, 4, 5, 8, 9, 10, 11] rfl rfl (by decide) (by decide) hk1 hFc hP1 hD1
      clear hP hD hPc hDc hP1 hD1 hFc
      have hP := hPz
      have hD := hDz
      clear hPz hDz
      replace hK := (hK.sub (tys' := [(ca, .object "VotedTriple$VotedModule"), (cr 0, .int), (cr 1, .int), (cN, .int), (cO, .int)]) [0, 1, 2, 4, 5] rfl).app hK1
      clear hK1 hKc
      generalize H1 = H at hP hS ⊢
      replace hP : va_P (dC, dI) classes [(h0, .inr (0, oT (upc uT 10 y10) p9 a9 e9 n9 o9)), (a9, .inl (ca, 3, .inr (.inr (.inr (.inr (mo da)))))), (da 0, .inr (2, oD (F 0) (ra 0) (ka 0))), (ra 0, .inl (cr 0, 8, .inl (g 0))), (da 1, .inr (2, oD (F 1) (ra 1) (ka 1))), (ra 1, .inl (cr 1, 8, .inl (g 1))), (n9, .inr (4, [.ref nw9, .int (nI kN)])), (nw9, .inl (cN, 64, .inl wN)), (o9, .inr (5, [.ref ok9, .int (nI ko2)])), (ok9, .inl (cO, 300, .inl kp2)), (da 2, .inr (2, oD (F 2) (ra 2) (ka 2))), (ra 2, .inl (cr 2, 8, .inl g6))] H := hP
      replace hD : va_D A [(h0, .inr (0, oT (upc uT 10 y10) p9 a9 e9 n9 o9)), (a9, .inl (ca, 3, .inr (.inr (.inr (.inr (mo da)))))), (da 0, .inr (2, oD (F 0) (ra 0) (ka 0))), (ra 0, .inl (cr 0, 8, .inl (g 0))), (da 1, .inr (2, oD (F 1) (ra 1) (ka 1))), (ra 1, .inl (cr 1, 8, .inl (g 1))), (n9, .inr (4, [.ref nw9, .int (nI kN)])), (nw9, .inl (cN, 64, .inl wN)), (o9, .inr (5, [.ref ok9, .int (nI ko2)])), (ok9, .inl (cO, 300, .inl kp2)), (da 2, .inr (2, oD (F 2) (ra 2) (ka 2))), (ra 2, .inl (cr 2, 8, .inl g6))] := hD
      replace hK : va_K (dC, dI) classes [(ca, .object "VotedTriple$VotedModule"), (cr 0, .int), (cr 1, .int), (cN, .int), (cO, .int), (cr 2, .int)] s := hK
      refine W.widen (k := 0) (n := 0) (Nat.le_of_ble_eq_true rfl) (Nat.le_of_ble_eq_true rfl) ?_
      refine lv_iinc (k := 3) (v := 3) hx hb d_T_doWhatIsAgreed_66 hl rfl rfl (by decide) rfl (fun ls hl => ?_)
      replace hl : lv_has ls 4 [(3, .int 3), (0, .ref h0), (1, .ref (da 1)), (2, .int w2)] := hl
      refine lv_goto (tgt := 39) hx hb d_T_doWhatIsAgreed_69 rfl ?_
      have hSq : SP = s_T_doWhatIsAgreed1_cut39_3 uT (upc uT 10 y10 10) (tri (g 0) (g 1) g6) ko2 kp2 w2 := by rw [hSq0, s_T_doWhatIsAgreed1_cut39_2]; try (rw [if_pos hc3]); try (rw [← hr5E, bnd_eq]); all_goals rfl
      replace hl := lv_sub hl (l' := [(0, .ref h0), (1, .ref (da 1)), (2, .int w2), (3, .int 3)]) [1, 2, 3, 0] rfl
      replace hP := hP.sub (ws' := [(h0, .inr (0, oT (upc uT 10 (upc uT 10 y10 10)) p9 a9 e9 n9 o9)), (a9, .inl (ca, 3, .inr (.inr (.inr (.inr (mo da)))))), (da 0, .inr (2, oD (F 0) (ra 0) (ka 0))), (ra 0, .inl (cr 0, 8, .inl (tri (g 0) (g 1) g6 0))), (da 1, .inr (2, oD (F 1) (ra 1) (ka 1))), (ra 1, .inl (cr 1, 8, .inl (tri (g 0) (g 1) g6 1))), (da 2, .inr (2, oD (F 2) (ra 2) (ka 2))), (ra 2, .inl (cr 2, 8, .inl (tri (g 0) (g 1) g6 2))), (n9, .inr (4, [.ref nw9, .int (nI kN)])), (nw9, .inl (cN, 64, .inl wN)), (o9, .inr (5, [.ref ok9, .int (nI ko2)])), (ok9, .inl (cO, 300, .inl kp2))]) [0, 1, 2, 3, 4, 5, 10, 11, 6, 7, 8, 9] rfl
      replace hD := hD.sub (ws' := [(h0, .inr (0, oT (upc uT 10 (upc uT 10 y10 10)) p9 a9 e9 n9 o9)), (a9, .inl (ca, 3, .inr (.inr (.inr (.inr (mo da)))))), (da 0, .inr (2, oD (F 0) (ra 0) (ka 0))), (ra 0, .inl (cr 0, 8, .inl (tri (g 0) (g 1) g6 0))), (da 1, .inr (2, oD (F 1) (ra 1) (ka 1))), (ra 1, .inl (cr 1, 8, .inl (tri (g 0) (g 1) g6 1))), (da 2, .inr (2, oD (F 2) (ra 2) (ka 2))), (ra 2, .inl (cr 2, 8, .inl (tri (g 0) (g 1) g6 2))), (n9, .inr (4, [.ref nw9, .int (nI kN)])), (nw9, .inl (cN, 64, .inl wN)), (o9, .inr (5, [.ref ok9, .int (nI ko2)])), (ok9, .inl (cO, 300, .inl kp2))]) [0, 1, 2, 3, 4, 5, 10, 11, 6, 7, 8, 9] (by decide) rfl
      exact cut39_3 (upc uT 10 y10 10) (tri (g 0) (g 1) g6) ko2 kp2 w2 _ _ _ (⟨hg.1, hg.2.1, hr5⟩) h29 h39 hSq hl hP hD hS
  have cut39_1 : ∀ (y10 : Int32) (g : Nat → Nat → Int32) (ko2 : Nat) (kp2 : Nat → Int32) (w2 : Int32) (ls : Array Slot) (H : Heap) (locs : List Loc), g3 g → is16 w2 → ko2 ≤ ko + 1 → SP = s_T_doWhatIsAgreed1_cut39_1 uT F y10 g ko2 kp2 w2 →  lv_has ls 4 [(0, .ref h0), (1, .ref (da 1)), (2, .int w2), (3, .int 1)] → va_P (dC, dI) classes [(h0, .inr (0, oT (upc uT 10 y10) p9 a9 e9 n9 o9)), (a9, .inl (ca, 3, .inr (.inr (.inr (.inr (mo da)))))), (da 0, .inr (2, oD (F 0) (ra 0) (ka 0))), (ra 0, .inl (cr 0, 8, .inl (g 0))), (da 1, .inr (2, oD (F 1) (ra 1) (ka 1))), (ra 1, .inl (cr 1, 8, .inl (g 1))), (da 2, .inr (2, oD (F 2) (ra 2) (ka 2))), (ra 2, .inl (cr 2, 8, .inl (g 2))), (n9, .inr (4, [.ref nw9, .int (nI kN)])), (nw9, .inl (cN, 64, .inl wN)), (o9, .inr (5, [.ref ok9, .int (nI ko2)])), (ok9, .inl (cO, 300, .inl kp2))] H → va_D A [(h0, .inr (0, oT (upc uT 10 y10) p9 a9 e9 n9 o9)), (a9, .inl (ca, 3, .inr (.inr (.inr (.inr (mo da)))))), (da 0, .inr (2, oD (F 0) (ra 0) (ka 0))), (ra 0, .inl (cr 0, 8, .inl (g 0))), (da 1, .inr (2, oD (F 1) (ra 1) (ka 1))), (ra 1, .inl (cr 1, 8, .inl (g 1))), (da 2, .inr (2, oD (F 2) (ra 2) (ka 2))), (ra 2, .inl (cr 2, 8, .inl (g 2))), (n9, .inr (4, [.ref nw9, .int (nI kN)])), (nw9, .inl (cN, 64, .inl wN)), (o9, .inr (5, [.ref ok9, .int (nI ko2)])), (ok9, .inl (cO, 300, .inl kp2))] → va_S A s.heap H locs → W p l e (headSpec (tbw y_T_doWhatIsAgreed b_T_doWhatIsAgreed 4 none) ({ frames := 2, cells := 0, slots := 0, locals := 42 })).room s m ([.ref h0, .ref (da 1)] : List Value).toArray below meth c H locs 0 0 (MQ below (va_Qv (fun (u9 : (Nat → Nat → Int32) × Nat × (Nat → Int32) × Int32) => match u9 with | (g2, ko2, kp2, y10) => (g3 g2 ∧ ko2 ≤ ko + 1) ∧ (g2, ko2, kp2, y10) = SP) (fun (u9 : (Nat → Nat → Int32) × Nat × (Nat → Int32) × Int32) t => match u9 with | (g2, ko2, kp2, y10) => va_P (dC, dI) classes [(h0, .inr (0, oT (upc uT 10 y10) p9 a9 e9 n9 o9)), (a9, .inl (ca, 3, .inr (.inr (.inr (.inr (mo da)))))), (da 0, .inr (2, oD (F 0) (ra 0) (ka 0))), (ra 0, .inl (cr 0, 8, .inl (g2 0))), (da 1, .inr (2, oD (F 1) (ra 1) (ka 1))), (ra 1, .inl (cr 1, 8, .inl (g2 1))), (da 2, .inr (2, oD (F 2) (ra 2) (ka 2))), (ra 2, .inl (cr 2, 8, .inl (g2 2))), (n9, .inr (4, [.ref nw9, .int (nI kN)])), (nw9, .inl (cN, 64, .inl wN)), (o9, .inr (5, [.ref ok9, .int (nI ko2)])), (ok9, .inl (cO, 300, .inl kp2))] t.heap ∧ va_K (dC, dI) classes [(ca, .object "VotedTriple$VotedModule"), (cr 0, .int), (cr 1, .int), (cr 2, .int), (cN, .int), (cO, .int)] t ∧ va_D A [(h0, .inr (0, oT (upc uT 10 y10) p9 a9 e9 n9 o9)), (a9, .inl (ca, 3, .inr (.inr (.inr (.inr (mo da)))))), (da 0, .inr (2, oD (F 0) (ra 0) (ka 0))), (ra 0, .inl (cr 0, 8, .inl (g2 0))), (da 1, .inr (2, oD (F 1) (ra 1) (ka 1))), (ra 1, .inl (cr 1, 8, .inl (g2 1))), (da 2, .inr (2, oD (F 2) (ra 2) (ka 2))), (ra 2, .inl (cr 2, 8, .inl (g2 2))), (n9, .inr (4, [.ref nw9, .int (nI kN)])), (nw9, .inl (cN, 64, .inl wN)), (o9, .inr (5, [.ref ok9, .int (nI ko2)])), (ok9, .inl (cO, 300, .inl kp2))]) A) ([.ref h0, .ref (da 1)] : List Value).toArray s 0 0 A) (F0 m 39 ls []) := by
    intro y10 g ko2 kp2 w2 ls H locs hg h29 h39 hSq0 hl hP hD hS
    clear cut39_3
    refine lv_iload_n hx hb d_T_doWhatIsAgreed_39 rfl (lv_at hl 3 rfl) ?_
    refine lv_iconst (v := 3) hx hb d_T_doWhatIsAgreed_40 (by decide) ?_
    refine lv_icmp_ge (tgt := 72) hx hb d_T_doWhatIsAgreed_41 rfl (fun hc7 => by first | exact absurd hc7 (by decide) | exact absurd (by decide) hc7) (fun hc7 => ?_)
    refine lv_aload_n hx hb d_T_doWhatIsAgreed_44 rfl (lv_at hl 0 rfl) ?_
    refine va_get (D := (dC, dI)) (ci := 0) (v := .ref a9) (C := "VotedTriple") (T := F_T) (N := 11) hx hb hw in_T hown hK hP 0 rfl rfl 1 (by decide) (hw _ k_195) (fun _ h9 => h9) rfl d_T_doWhatIsAgreed_45 ?_
    refine lv_iload_n hx hb d_T_doWhatIsAgreed_48 rfl (lv_at hl 3 rfl) ?_
    refine va_aldq hx hb hK hP 1 0 rfl rfl (by unfold vp_in; decide) d_T_doWhatIsAgreed_49 ?_
    refine W.eq (g2 := F0 m 50 ls [.ref (da 1)]) rfl ?_
    refine va_get (D := (dC, dI)) (ci := 2) (v := .int (F 1 8)) (C := "VotedTriple$VotedModule") (T := F_D) (N := 19) hx hb hw in_D hown hK hP 4 rfl rfl 8 (by decide) (hw _ k_143) (fun _ h9 => h9) rfl d_T_doWhatIsAgreed_50 ?_
    refine lv_if_ne (tgt := 66) hx hb d_T_doWhatIsAgreed_53 rfl (fun hc8 => ?_) (fun hc8 => ?_)
    · --  ¬ (F 1 8) = 0
      refine lv_iinc (k := 3) (v := 2) hx hb d_T_doWhatIsAgreed_66 hl rfl rfl (by decide) rfl (fun ls hl => ?_)
      replace hl : lv_has ls 4 [(3, .int 2), (0, .ref h0), (1, .ref (da 1)), (2, .int w2)] := hl
      refine lv_goto (tgt := 39) hx hb d_T_doWhatIsAgreed_69 rfl ?_
      have hSq : SP = s_T_doWhatIsAgreed1_cut39_2 uT F (upc uT 10 y10 10) g ko2 kp2 w2 := by rw [hSq0, s_T_doWhatIsAgreed1_cut39_1]; try (rw [if_neg hc8]); all_goals rfl
      replace hl := lv_sub hl (l' := [(0, .ref h0), (1, .ref (da 1)), (2, .int w2), (3, .int 2)]) [1, 2, 3, 0] rfl
      replace hP := hP.sub (ws' := [(h0, .inr (0, oT (upc uT 10 (upc uT 10 y10 10)) p9 a9 e9 n9 o9)), (a9, .inl (ca, 3, .inr (.inr (.inr (.inr (mo da)))))), (da 0, .inr (2, oD (F 0) (ra 0) (ka 0))), (ra 0, .inl (cr 0, 8, .inl (g 0))), (da 1, .inr (2, oD (F 1) (ra 1) (ka 1))), (ra 1, .inl (cr 1, 8, .inl (g 1))), (da 2, .inr (2, oD (F 2) (ra 2) (ka 2))), (ra 2, .inl (cr 2, 8, .inl (g 2))), (n9, .inr (4, [.ref nw9, .int (nI kN)])), (nw9, .inl (cN, 64, .inl wN)), (o9, .inr (5, [.ref ok9, .int (nI ko2)])), (ok9, .inl (cO, 300, .inl kp2))]) [0, 1, 2, 3, 4, 5, 6, 7, 8, 9, 10, 11] rfl
      replace hD := hD.sub (ws' := [(h0, .inr (0, oT (upc uT 10 (upc uT 10 y10 10)) p9 a9 e9 n9 o9)), (a9, .inl (ca, 3, .inr (.inr (.inr (.inr (mo da)))))), (da 0, .inr (2, oD (F 0) (ra 0) (ka 0))), (ra 0, .inl (cr 0, 8, .inl (g 0))), (da 1, .inr (2, oD (F 1) (ra 1) (ka 1))), (ra 1, .inl (cr 1, 8, .inl (g 1))), (da 2, .inr (2, oD (F 2) (ra 2) (ka 2))), (ra 2, .inl (cr 2, 8, .inl (g 2))), (n9, .inr (4, [.ref nw9, .int (nI kN)])), (nw9, .inl (cN, 64, .inl wN)), (o9, .inr (5, [.ref ok9, .int (nI ko2)])), (ok9, .inl (cO, 300, .inl kp2))]) [0, 1, 2, 3, 4, 5, 6, 7, 8, 9, 10, 11] (by decide) rfl
      exact cut39_2 (upc uT 10 y10 10) g ko2 kp2 w2 _ _ _ hg h29 h39 hSq hl hP hD hS
    · --  (F 1 8) = 0
      refine lv_aload_n hx hb d_T_doWhatIsAgreed_56 rfl (lv_at hl 0 rfl) ?_
      refine va_get (D := (dC, dI)) (ci := 0) (v := .ref a9) (C := "VotedTriple") (T := F_T) (N := 11) hx hb hw in_T hown hK hP 0 rfl rfl 1 (by decide) (hw _ k_195) (fun _ h9 => h9) rfl d_T_doWhatIsAgreed_57 ?_
      refine lv_iload_n hx hb d_T_doWhatIsAgreed_60 rfl (lv_at hl 3 rfl) ?_
      refine va_aldq hx hb hK hP 1 0 rfl rfl (by unfold vp_in; decide) d_T_doWhatIsAgreed_61 ?_
      refine W.eq (g2 := F0 m 62 ls [.ref (da 1)]) rfl ?_
      refine lv_iload_n hx hb d_T_doWhatIsAgreed_62 rfl (lv_at hl 2 rfl) ?_
      replace hPc := hP.sub (ws' := [(da 1, .inr (2, oD (F 1) (ra 1) (ka 1))), (ra 1, .inl (cr 1, 8, .inl (g 1)))]) [4, 5] rfl
      replace hKc := hK.sub (tys' := [(cr 1, .int)]) [2] rfl
      replace hDc := hD.sub (ws' := [(da 1, .inr (2, oD (F 1) (ra 1) (ka 1))), (ra 1, .inl (cr 1, 8, .inl (g 1)))]) [4, 5] (by decide) rfl
      replace hFc := va_free (wc := [(da 1, .inr (2, oD (F 1) (ra 1) (ka 1))), (ra 1, .inl (cr 1, 8, .inl (g 1)))]) hD hS hA [4, 5] rfl
      refine va_callv (va_runU (C := "VotedTriple$VotedModule") (As := [.int w2]) (rest := []) ⟨hx, hb, hml, hown, hw⟩ (c_C_receive_D l dC dI (da 1) (ra 1) (ka 1) (F 1) (cr 1) (g 1) w2 hF.2.1.2.1 h29 hg.2.1 H.size) (va_cwU (C := "VotedTriple$VotedModule") (owner := "VotedTriple$Processor") (x := ⟨"VotedTriple$VotedModule", "receive", "(I)V"⟩) (y := y_C_receive) 1 hw (gd_l (List.forall_mem_cons.mpr ⟨k_622, List.forall_mem_cons.mpr ⟨k_623, List.forall_mem_cons.mpr ⟨k_624, List.forall_mem_cons.mpr ⟨k_550, List.forall_mem_cons.mpr ⟨k_3, fun _ h => absurd h List.not_mem_nil⟩⟩⟩⟩⟩) (gd (k_551))) rfl rfl rfl rfl (by decide +kernel) ⟨Nat.le_of_ble_eq_true rfl, Nat.le_of_ble_eq_true rfl⟩) ⟨fun a U g mk q => by obtain ⟨q0, q1, qP, qK, qD⟩ := q; exact ⟨q0, q1, qP, va_K.moved (u := U) (U := U.calling g mk a) (Vm.Alike.refl U.vm) qK, qD⟩, va_recv hK hP rfl (q0 := 4) rfl, fun U hU hW => ⟨rfl, by rw [hU], by rw [hU]; exact hPc, va_K.moved hW.alike hKc, hDc.weaken (fun _ _ _ _ => trivial)⟩⟩ rfl rfl hl.1 rfl (lv_room (Nat.le_of_ble_eq_true rfl)) d_T_doWhatIsAgreed_63 ⟨Nat.le_of_ble_eq_true rfl, Nat.le_of_ble_eq_true rfl⟩) hS (fun q _ h => hFc q h) hFc (fun u9 t H1 locs ht hvm hr10 hB hz1 hk1 hS => ?_)
      obtain ⟨g11, rfl⟩ : ∃ z, z = u9 := ⟨_, rfl⟩
      obtain ⟨hP1, hK1, hD1⟩ := hB
      rw [ht] at hP1
      replace hK1 := va_K.moved hvm.symm hK1
      try dsimp only at hr10 hP1 hK1 hD1
      obtain ⟨hr10, hr10E⟩ := hr10
      obtain ⟨hPz, hDz⟩ := va_join (wr := [(h0, .inr (0, oT (upc uT 10 y10) p9 a9 e9 n9 o9)), (a9, .inl (ca, 3, .inr (.inr (.inr (.inr (mo da)))))), (da 0, .inr (2, oD (F 0) (ra 0) (ka 0))), (ra 0, .inl (cr 0, 8, .inl (g 0))), (da 2, .inr (2, oD (F 2) (ra 2) (ka 2))), (ra 2, .inl (cr 2, 8, .inl (g 2))), (n9, .inr (4, [.ref nw9, .int (nI kN)])), (nw9, .inl (cN, 64, .inl wN)), (o9, .inr (5, [.ref ok9, .int (nI ko2)])), (ok9, .inl (cO, 300, .inl kp2))]) (w1 := [(da 1, .inr (2, oD (F 1) (ra 1) (ka 1))), (ra 1, .inl (cr 1, 8, .inl g11))]) hP hD [4, 5] [0, 1, 2, 3, 6, 7, 8, 9, 10, 11] rfl rfl (by decide) (by decide) hk1 hFc hP1 hD1
      clear hP hD hPc hDc hP1 hD1 hFc
      have hP := hPz
      have hD := hDz
      clear hPz hDz
      replace hK := (hK.sub (tys' := [(ca, .object "VotedTriple$VotedModule"), (cr 0, .int), (cr 2, .int), (cN, .int), (cO, .int)]) [0, 1, 3, 4, 5] rfl).app hK1
      clear hK1 hKc
      generalize H1 = H at hP hS ⊢
      replace hP : va_P (dC, dI) classes [(h0, .inr (0, oT (upc uT 10 y10) p9 a9 e9 n9 o9)), (a9, .inl (ca, 3, .inr (.inr (.inr (.inr (mo da)))))), (da 0, .inr (2, oD (F 0) (ra 0) (ka 0))), (ra 0, .inl (cr 0, 8, .inl (g 0))), (da 2, .inr (2, oD (F 2) (ra 2) (ka 2))), (ra 2, .inl (cr 2, 8, .inl (g 2))), (n9, .inr (4, [.ref nw9, .int (nI kN)])), (nw9, .inl (cN, 64, .inl wN)), (o9, .inr (5, [.ref ok9, .int (nI ko2)])), (ok9, .inl (cO, 300, .inl kp2)), (da 1, .inr (2, oD (F 1) (ra 1) (ka 1))), (ra 1, .inl (cr 1, 8, .inl g11))] H := hP
      replace hD : va_D A [(h0, .inr (0, oT (upc uT 10 y10) p9 a9 e9 n9 o9)), (a9, .inl (ca, 3, .inr (.inr (.inr (.inr (mo da)))))), (da 0, .inr (2, oD (F 0) (ra 0) (ka 0))), (ra 0, .inl (cr 0, 8, .inl (g 0))), (da 2, .inr (2, oD (F 2) (ra 2) (ka 2))), (ra 2, .inl (cr 2, 8, .inl (g 2))), (n9, .inr (4, [.ref nw9, .int (nI kN)])), (nw9, .inl (cN, 64, .inl wN)), (o9, .inr (5, [.ref ok9, .int (nI ko2)])), (ok9, .inl (cO, 300, .inl kp2)), (da 1, .inr (2, oD (F 1) (ra 1) (ka 1))), (ra 1, .inl (cr 1, 8, .inl g11))] := hD
      replace hK : va_K (dC, dI) classes [(ca, .object "VotedTriple$VotedModule"), (cr 0, .int), (cr 2, .int), (cN, .int), (cO, .int), (cr 1, .int)] s := hK
      refine W.widen (k := 0) (n := 0) (Nat.le_of_ble_eq_true rfl) (Nat.le_of_ble_eq_true rfl) ?_
      refine lv_iinc (k := 3) (v := 2) hx hb d_T_doWhatIsAgreed_66 hl rfl rfl (by decide) rfl (fun ls hl => ?_)
      replace hl : lv_has ls 4 [(3, .int 2), (0, .ref h0), (1, .ref (da 1)), (2, .int w2)] := hl
      refine lv_goto (tgt := 39) hx hb d_T_doWhatIsAgreed_69 rfl ?_
      have hSq : SP = s_T_doWhatIsAgreed1_cut39_2 uT F (upc uT 10 y10 10) (tri (g 0) g11 (g 2)) ko2 kp2 w2 := by rw [hSq0, s_T_doWhatIsAgreed1_cut39_1]; try (rw [if_pos hc8]); try (rw [← hr10E, bnd_eq]); all_goals rfl
      replace hl := lv_sub hl (l' := [(0, .ref h0), (1, .ref (da 1)), (2, .int w2), (3, .int 2)]) [1, 2, 3, 0] rfl
      replace hP := hP.sub (ws' := [(h0, .inr (0, oT (upc uT 10 (upc uT 10 y10 10)) p9 a9 e9 n9 o9)), (a9, .inl (ca, 3, .inr (.inr (.inr (.inr (mo da)))))), (da 0, .inr (2, oD (F 0) (ra 0) (ka 0))), (ra 0, .inl (cr 0, 8, .inl (tri (g 0) g11 (g 2) 0))), (da 1, .inr (2, oD (F 1) (ra 1) (ka 1))), (ra 1, .inl (cr 1, 8, .inl (tri (g 0) g11 (g 2) 1))), (da 2, .inr (2, oD (F 2) (ra 2) (ka 2))), (ra 2, .inl (cr 2, 8, .inl (tri (g 0) g11 (g 2) 2))), (n9, .inr (4, [.ref nw9, .int (nI kN)])), (nw9, .inl (cN, 64, .inl wN)), (o9, .inr (5, [.ref ok9, .int (nI ko2)])), (ok9, .inl (cO, 300, .inl kp2))]) [0, 1, 2, 3, 10, 11, 4, 5, 6, 7, 8, 9] rfl
      replace hD := hD.sub (ws' := [(h0, .inr (0, oT (upc uT 10 (upc uT 10 y10 10)) p9 a9 e9 n9 o9)), (a9, .inl (ca, 3, .inr (.inr (.inr (.inr (mo da)))))), (da 0, .inr (2, oD (F 0) (ra 0) (ka 0))), (ra 0, .inl (cr 0, 8, .inl (tri (g 0) g11 (g 2) 0))), (da 1, .inr (2, oD (F 1) (ra 1) (ka 1))), (ra 1, .inl (cr 1, 8, .inl (tri (g 0) g11 (g 2) 1))), (da 2, .inr (2, oD (F 2) (ra 2) (ka 2))), (ra 2, .inl (cr 2, 8, .inl (tri (g 0) g11 (g 2) 2))), (n9, .inr (4, [.ref nw9, .int (nI kN)])), (nw9, .inl (cN, 64, .inl wN)), (o9, .inr (5, [.ref ok9, .int (nI ko2)])), (ok9, .inl (cO, 300, .inl kp2))]) [0, 1, 2, 3, 10, 11, 4, 5, 6, 7, 8, 9] (by decide) rfl
      exact cut39_2 (upc uT 10 y10 10) (tri (g 0) g11 (g 2)) ko2 kp2 w2 _ _ _ (⟨hg.1, hr10, hg.2.2⟩) h29 h39 hSq hl hP hD hS
  have cut39_0 : ∀ (y10 : Int32) (g : Nat → Nat → Int32) (ko2 : Nat) (kp2 : Nat → Int32) (w2 : Int32) (ls : Array Slot) (H : Heap) (locs : List Loc), g3 g → is16 w2 → ko2 ≤ ko + 1 → SP = s_T_doWhatIsAgreed1_cut39_0 uT F y10 g ko2 kp2 w2 →  lv_has ls 4 [(0, .ref h0), (1, .ref (da 1)), (2, .int w2), (3, .int 0)] → va_P (dC, dI) classes [(h0, .inr (0, oT (upc uT 10 y10) p9 a9 e9 n9 o9)), (a9, .inl (ca, 3, .inr (.inr (.inr (.inr (mo da)))))), (da 0, .inr (2, oD (F 0) (ra 0) (ka 0))), (ra 0, .inl (cr 0, 8, .inl (g 0))), (da 1, .inr (2, oD (F 1) (ra 1) (ka 1))), (ra 1, .inl (cr 1, 8, .inl (g 1))), (da 2, .inr (2, oD (F 2) (ra 2) (ka 2))), (ra 2, .inl (cr 2, 8, .inl (g 2))), (n9, .inr (4, [.ref nw9, .int (nI kN)])), (nw9, .inl (cN, 64, .inl wN)), (o9, .inr (5, [.ref ok9, .int (nI ko2)])), (ok9, .inl (cO, 300, .inl kp2))] H → va_D A [(h0, .inr (0, oT (upc uT 10 y10) p9 a9 e9 n9 o9)), (a9, .inl (ca, 3, .inr (.inr (.inr (.inr (mo da)))))), (da 0, .inr (2, oD (F 0) (ra 0) (ka 0))), (ra 0, .inl (cr 0, 8, .inl (g 0))), (da 1, .inr (2, oD (F 1) (ra 1) (ka 1))), (ra 1, .inl (cr 1, 8, .inl (g 1))), (da 2, .inr (2, oD (F 2) (ra 2) (ka 2))), (ra 2, .inl (cr 2, 8, .inl (g 2))), (n9, .inr (4, [.ref nw9, .int (nI kN)])), (nw9, .inl (cN, 64, .inl wN)), (o9, .inr (5, [.ref ok9, .int (nI ko2)])), (ok9, .inl (cO, 300, .inl kp2))] → va_S A s.heap H locs → W p l e (headSpec (tbw y_T_doWhatIsAgreed b_T_doWhatIsAgreed 4 none) ({ frames := 2, cells := 0, slots := 0, locals := 42 })).room s m ([.ref h0, .ref (da 1)] : List Value).toArray below meth c H locs 0 0 (MQ below (va_Qv (fun (u9 : (Nat → Nat → Int32) × Nat × (Nat → Int32) × Int32) => match u9 with | (g2, ko2, kp2, y10) => (g3 g2 ∧ ko2 ≤ ko + 1) ∧ (g2, ko2, kp2, y10) = SP) (fun (u9 : (Nat → Nat → Int32) × Nat × (Nat → Int32) × Int32) t => match u9 with | (g2, ko2, kp2, y10) => va_P (dC, dI) classes [(h0, .inr (0, oT (upc uT 10 y10) p9 a9 e9 n9 o9)), (a9, .inl (ca, 3, .inr (.inr (.inr (.inr (mo da)))))), (da 0, .inr (2, oD (F 0) (ra 0) (ka 0))), (ra 0, .inl (cr 0, 8, .inl (g2 0))), (da 1, .inr (2, oD (F 1) (ra 1) (ka 1))), (ra 1, .inl (cr 1, 8, .inl (g2 1))), (da 2, .inr (2, oD (F 2) (ra 2) (ka 2))), (ra 2, .inl (cr 2, 8, .inl (g2 2))), (n9, .inr (4, [.ref nw9, .int (nI kN)])), (nw9, .inl (cN, 64, .inl wN)), (o9, .inr (5, [.ref ok9, .int (nI ko2)])), (ok9, .inl (cO, 300, .inl kp2))] t.heap ∧ va_K (dC, dI) classes [(ca, .object "VotedTriple$VotedModule"), (cr 0, .int), (cr 1, .int), (cr 2, .int), (cN, .int), (cO, .int)] t ∧ va_D A [(h0, .inr (0, oT (upc uT 10 y10) p9 a9 e9 n9 o9)), (a9, .inl (ca, 3, .inr (.inr (.inr (.inr (mo da)))))), (da 0, .inr (2, oD (F 0) (ra 0) (ka 0))), (ra 0, .inl (cr 0, 8, .inl (g2 0))), (da 1, .inr (2, oD (F 1) (ra 1) (ka 1))), (ra 1, .inl (cr 1, 8, .inl (g2 1))), (da 2, .inr (2, oD (F 2) (ra 2) (ka 2))), (ra 2, .inl (cr 2, 8, .inl (g2 2))), (n9, .inr (4, [.ref nw9, .int (nI kN)])), (nw9, .inl (cN, 64, .inl wN)), (o9, .inr (5, [.ref ok9, .int (nI ko2)])), (ok9, .inl (cO, 300, .inl kp2))]) A) ([.ref h0, .ref (da 1)] : List Value).toArray s 0 0 A) (F0 m 39 ls []) := by
    intro y10 g ko2 kp2 w2 ls H locs hg h29 h39 hSq0 hl hP hD hS
    clear cut39_3 cut39_2
    refine lv_iload_n hx hb d_T_doWhatIsAgreed_39 rfl (lv_at hl 3 rfl) ?_
    refine lv_iconst (v := 3) hx hb d_T_doWhatIsAgreed_40 (by decide) ?_
    refine lv_icmp_ge (tgt := 72) hx hb d_T_doWhatIsAgreed_41 rfl (fun hc12 => by first | exact absurd hc12 (by decide) | exact absurd (by decide) hc12) (fun hc12 => ?_)
    refine lv_aload_n hx hb d_T_doWhatIsAgreed_44 rfl (lv_at hl 0 rfl) ?_
    refine va_get (D := (dC, dI)) (ci := 0) (v := .ref a9) (C := "VotedTriple") (T := F_T) (N := 11) hx hb hw in_T hown hK hP 0 rfl rfl 1 (by decide) (hw _ k_195) (fun _ h9 => h9) rfl d_T_doWhatIsAgreed_45 ?_
    refine lv_iload_n hx hb d_T_doWhatIsAgreed_48 rfl (lv_at hl 3 rfl) ?_
    refine va_aldq hx hb hK hP 1 0 rfl rfl (by unfold vp_in; decide) d_T_doWhatIsAgreed_49 ?_
    refine W.eq (g2 := F0 m 50 ls [.ref (da 0)]) rfl ?_
    refine va_get (D := (dC, dI)) (ci := 2) (v := .int (F 0 8)) (C := "VotedTriple$VotedModule") (T := F_D) (N := 19) hx hb hw in_D hown hK hP 2 rfl rfl 8 (by decide) (hw _ k_143) (fun _ h9 => h9) rfl d_T_doWhatIsAgreed_50 ?_
    refine lv_if_ne (tgt := 66) hx hb d_T_doWhatIsAgreed_53 rfl (fun hc13 => ?_) (fun hc13 => ?_)
    · --  ¬ (F 0 8) = 0
      refine lv_iinc (k := 3) (v := 1) hx hb d_T_doWhatIsAgreed_66 hl rfl rfl (by decide) rfl (fun ls hl => ?_)
      replace hl : lv_has ls 4 [(3, .int 1), (0, .ref h0), (1, .ref (da 1)), (2, .int w2)] := hl
      refine lv_goto (tgt := 39) hx hb d_T_doWhatIsAgreed_69 rfl ?_
      have hSq : SP = s_T_doWhatIsAgreed1_cut39_1 uT F (upc uT 10 y10 10) g ko2 kp2 w2 := by rw [hSq0, s_T_doWhatIsAgreed1_cut39_0]; try (rw [if_neg hc13]); all_goals rfl
      replace hl := lv_sub hl (l' := [(0, .ref h0), (1, .ref (da 1)), (2, .int w2), (3, .int 1)]) [1, 2, 3, 0] rfl
      replace hP := hP.sub (ws' := [(h0, .inr (0, oT (upc uT 10 (upc uT 10 y10 10)) p9 a9 e9 n9 o9)), (a9, .inl (ca, 3, .inr (.inr (.inr (.inr (mo da)))))), (da 0, .inr (2, oD (F 0) (ra 0) (ka 0))), (ra 0, .inl (cr 0, 8, .inl (g 0))), (da 1, .inr (2, oD (F 1) (ra 1) (ka 1))), (ra 1, .inl (cr 1, 8, .inl (g 1))), (da 2, .inr (2, oD (F 2) (ra 2) (ka 2))), (ra 2, .inl (cr 2, 8, .inl (g 2))), (n9, .inr (4, [.ref nw9, .int (nI kN)])), (nw9, .inl (cN, 64, .inl wN)), (o9, .inr (5, [.ref ok9, .int (nI ko2)])), (ok9, .inl (cO, 300, .inl kp2))]) [0, 1, 2, 3, 4, 5, 6, 7, 8, 9, 10, 11] rfl
      replace hD := hD.sub (ws' := [(h0, .inr (0, oT (upc uT 10 (upc uT 10 y10 10)) p9 a9 e9 n9 o9)), (a9, .inl (ca, 3, .inr (.inr (.inr (.inr (mo da)))))), (da 0, .inr (2, oD (F 0) (ra 0) (ka 0))), (ra 0, .inl (cr 0, 8, .inl (g 0))), (da 1, .inr (2, oD (F 1) (ra 1) (ka 1))), (ra 1, .inl (cr 1, 8, .inl (g 1))), (da 2, .inr (2, oD (F 2) (ra 2) (ka 2))), (ra 2, .inl (cr 2, 8, .inl (g 2))), (n9, .inr (4, [.ref nw9, .int (nI kN)])), (nw9, .inl (cN, 64, .inl wN)), (o9, .inr (5, [.ref ok9, .int (nI ko2)])), (ok9, .inl (cO, 300, .inl kp2))]) [0, 1, 2, 3, 4, 5, 6, 7, 8, 9, 10, 11] (by decide) rfl
      exact cut39_1 (upc uT 10 y10 10) g ko2 kp2 w2 _ _ _ hg h29 h39 hSq hl hP hD hS
    · --  (F 0 8) = 0
      refine lv_aload_n hx hb d_T_doWhatIsAgreed_56 rfl (lv_at hl 0 rfl) ?_
      refine va_get (D := (dC, dI)) (ci := 0) (v := .ref a9) (C := "VotedTriple") (T := F_T) (N := 11) hx hb hw in_T hown hK hP 0 rfl rfl 1 (by decide) (hw _ k_195) (fun _ h9 => h9) rfl d_T_doWhatIsAgreed_57 ?_
      refine lv_iload_n hx hb d_T_doWhatIsAgreed_60 rfl (lv_at hl 3 rfl) ?_
      refine va_aldq hx hb hK hP 1 0 rfl rfl (by unfold vp_in; decide) d_T_doWhatIsAgreed_61 ?_
      refine W.eq (g2 := F0 m 62 ls [.ref (da 0)]) rfl ?_
      refine lv_iload_n hx hb d_T_doWhatIsAgreed_62 rfl (lv_at hl 2 rfl) ?_
      replace hPc := hP.sub (ws' := [(da 0, .inr (2, oD (F 0) (ra 0) (ka 0))), (ra 0, .inl (cr 0, 8, .inl (g 0)))]) [2, 3] rfl
      replace hKc := hK.sub (tys' := [(cr 0, .int)]) [1] rfl
      replace hDc := hD.sub (ws' := [(da 0, .inr (2, oD (F 0) (ra 0) (ka 0))), (ra 0, .inl (cr 0, 8, .inl (g 0)))]) [2, 3] (by decide) rfl
      replace hFc := va_free (wc := [(da 0, .inr (2, oD (F 0) (ra 0) (ka 0))), (ra 0, .inl (cr 0, 8, .inl (g 0)))]) hD hS hA [2, 3] rfl
      refine va_callv (va_runU (C := "VotedTriple$VotedModule") (As := [.int w2]) (rest := []) ⟨hx, hb, hml, hown, hw⟩ (c_C_receive_D l dC dI (da 0) (ra 0) (ka 0) (F 0) (cr 0) (g 0) w2 hF.1.2.1 h29 hg.1 H.size) (va_cwU (C := "VotedTriple$VotedModule") (owner := "VotedTriple$Processor") (x := ⟨"VotedTriple$VotedModule", "receive", "(I)V"⟩) (y := y_C_receive) 1 hw (gd_l (List.forall_mem_cons.mpr ⟨k_622, List.forall_mem_cons.mpr ⟨k_623, List.forall_mem_cons.mpr ⟨k_624, List.forall_mem_cons.mpr ⟨k_550, List.forall_mem_cons.mpr ⟨k_3, fun _ h => absurd h List.not_mem_nil⟩⟩⟩⟩⟩) (gd (k_551))) rfl rfl rfl rfl (by decide +kernel) ⟨Nat.le_of_ble_eq_true rfl, Nat.le_of_ble_eq_true rfl⟩) ⟨fun a U g mk q => by obtain ⟨q0, q1, qP, qK, qD⟩ := q; exact ⟨q0, q1, qP, va_K.moved (u := U) (U := U.calling g mk a) (Vm.Alike.refl U.vm) qK, qD⟩, va_recv hK hP rfl (q0 := 2) rfl, fun U hU hW => ⟨rfl, by rw [hU], by rw [hU]; exact hPc, va_K.moved hW.alike hKc, hDc.weaken (fun _ _ _ _ => trivial)⟩⟩ rfl rfl hl.1 rfl (lv_room (Nat.le_of_ble_eq_true rfl)) d_T_doWhatIsAgreed_63 ⟨Nat.le_of_ble_eq_true rfl, Nat.le_of_ble_eq_true rfl⟩) hS (fun q _ h => hFc q h) hFc (fun u9 t H1 locs ht hvm hr15 hB hz1 hk1 hS => ?_)
      obtain ⟨g16, rfl⟩ : ∃ z, z = u9 := ⟨_, rfl⟩
      obtain ⟨hP1, hK1, hD1⟩ := hB
      rw [ht] at hP1
      replace hK1 := va_K.moved hvm.symm hK1
      try dsimp only at hr15 hP1 hK1 hD1
      obtain ⟨hr15, hr15E⟩ := hr15
      obtain ⟨hPz, hDz⟩ := va_join (wr := [(h0, .inr (0, oT (upc uT 10 y10) p9 a9 e9 n9 o9)), (a9, .inl (ca, 3, .inr (.inr (.inr (.inr (mo da)))))), (da 1, .inr (2, oD (F 1) (ra 1) (ka 1))), (ra 1, .inl (cr 1, 8, .inl (g 1))), (da 2, .inr (2, oD (F 2) (ra 2) (ka 2))), (ra 2, .inl (cr 2, 8, .inl (g 2))), (n9, .inr (4, [.ref nw9, .int (nI kN)])), (nw9, .inl (cN, 64, .inl wN)), (o9, .inr (5, [.ref ok9, .int (nI ko2)])), (ok9, .inl (cO, 300, .inl kp2))]) (w1 := [(da 0, .inr (2, oD (F 0) (ra 0) (ka 0))), (ra 0, .inl (cr 0, 8, .inl g16))]) hP hD [2, 3] [0, 1, 4, 5, 6, 7, 8, 9, 10, 11] rfl rfl (by decide) (by decide) hk1 hFc hP1 hD1
      clear hP hD hPc hDc hP1 hD1 hFc
      have hP := hPz
      have hD := hDz
      clear hPz hDz
      replace hK := (hK.sub (tys' := [(ca, .object "VotedTriple$VotedModule"), (cr 1, .int), (cr 2, .int), (cN, .int), (cO, .int)]) [0, 2, 3, 4, 5] rfl).app hK1
      clear hK1 hKc
      generalize H1 = H at hP hS ⊢
      replace hP : va_P (dC, dI) classes [(h0, .inr (0, oT (upc uT 10 y10) p9 a9 e9 n9 o9)), (a9, .inl (ca, 3, .inr (.inr (.inr (.inr (mo da)))))), (da 1, .inr (2, oD (F 1) (ra 1) (ka 1))), (ra 1, .inl (cr 1, 8, .inl (g 1))), (da 2, .inr (2, oD (F 2) (ra 2) (ka 2))), (ra 2, .inl (cr 2, 8, .inl (g 2))), (n9, .inr (4, [.ref nw9, .int (nI kN)])), (nw9, .inl (cN, 64, .inl wN)), (o9, .inr (5, [.ref ok9, .int (nI ko2)])), (ok9, .inl (cO, 300, .inl kp2)), (da 0, .inr (2, oD (F 0) (ra 0) (ka 0))), (ra 0, .inl (cr 0, 8, .inl g16))] H := hP
      replace hD : va_D A [(h0, .inr (0, oT (upc uT 10 y10) p9 a9 e9 n9 o9)), (a9, .inl (ca, 3, .inr (.inr (.inr (.inr (mo da)))))), (da 1, .inr (2, oD (F 1) (ra 1) (ka 1))), (ra 1, .inl (cr 1, 8, .inl (g 1))), (da 2, .inr (2, oD (F 2) (ra 2) (ka 2))), (ra 2, .inl (cr 2, 8, .inl (g 2))), (n9, .inr (4, [.ref nw9, .int (nI kN)])), (nw9, .inl (cN, 64, .inl wN)), (o9, .inr (5, [.ref ok9, .int (nI ko2)])), (ok9, .inl (cO, 300, .inl kp2)), (da 0, .inr (2, oD (F 0) (ra 0) (ka 0))), (ra 0, .inl (cr 0, 8, .inl g16))] := hD
      replace hK : va_K (dC, dI) classes [(ca, .object "VotedTriple$VotedModule"), (cr 1, .int), (cr 2, .int), (cN, .int), (cO, .int), (cr 0, .int)] s := hK
      refine W.widen (k := 0) (n := 0) (Nat.le_of_ble_eq_true rfl) (Nat.le_of_ble_eq_true rfl) ?_
      refine lv_iinc (k := 3) (v := 1) hx hb d_T_doWhatIsAgreed_66 hl rfl rfl (by decide) rfl (fun ls hl => ?_)
      replace hl : lv_has ls 4 [(3, .int 1), (0, .ref h0), (1, .ref (da 1)), (2, .int w2)] := hl
      refine lv_goto (tgt := 39) hx hb d_T_doWhatIsAgreed_69 rfl ?_
      have hSq : SP = s_T_doWhatIsAgreed1_cut39_1 uT F (upc uT 10 y10 10) (tri g16 (g 1) (g 2)) ko2 kp2 w2 := by rw [hSq0, s_T_doWhatIsAgreed1_cut39_0]; try (rw [if_pos hc13]); try (rw [← hr15E, bnd_eq]); all_goals rfl
      replace hl := lv_sub hl (l' := [(0, .ref h0), (1, .ref (da 1)), (2, .int w2), (3, .int 1)]) [1, 2, 3, 0] rfl
      replace hP := hP.sub (ws' := [(h0, .inr (0, oT (upc uT 10 (upc uT 10 y10 10)) p9 a9 e9 n9 o9)), (a9, .inl (ca, 3, .inr (.inr (.inr (.inr (mo da)))))), (da 0, .inr (2, oD (F 0) (ra 0) (ka 0))), (ra 0, .inl (cr 0, 8, .inl (tri g16 (g 1) (g 2) 0))), (da 1, .inr (2, oD (F 1) (ra 1) (ka 1))), (ra 1, .inl (cr 1, 8, .inl (tri g16 (g 1) (g 2) 1))), (da 2, .inr (2, oD (F 2) (ra 2) (ka 2))), (ra 2, .inl (cr 2, 8, .inl (tri g16 (g 1) (g 2) 2))), (n9, .inr (4, [.ref nw9, .int (nI kN)])), (nw9, .inl (cN, 64, .inl wN)), (o9, .inr (5, [.ref ok9, .int (nI ko2)])), (ok9, .inl (cO, 300, .inl kp2))]) [0, 1, 10, 11, 2, 3, 4, 5, 6, 7, 8, 9] rfl
      replace hD := hD.sub (ws' := [(h0, .inr (0, oT (upc uT 10 (upc uT 10 y10 10)) p9 a9 e9 n9 o9)), (a9, .inl (ca, 3, .inr (.inr (.inr (.inr (mo da)))))), (da 0, .inr (2, oD (F 0) (ra 0) (ka 0))), (ra 0, .inl (cr 0, 8, .inl (tri g16 (g 1) (g 2) 0))), (da 1, .inr (2, oD (F 1) (ra 1) (ka 1))), (ra 1, .inl (cr 1, 8, .inl (tri g16 (g 1) (g 2) 1))), (da 2, .inr (2, oD (F 2) (ra 2) (ka 2))), (ra 2, .inl (cr 2, 8, .inl (tri g16 (g 1) (g 2) 2))), (n9, .inr (4, [.ref nw9, .int (nI kN)])), (nw9, .inl (cN, 64, .inl wN)), (o9, .inr (5, [.ref ok9, .int (nI ko2)])), (ok9, .inl (cO, 300, .inl kp2))]) [0, 1, 10, 11, 2, 3, 4, 5, 6, 7, 8, 9] (by decide) rfl
      exact cut39_1 (upc uT 10 y10 10) (tri g16 (g 1) (g 2)) ko2 kp2 w2 _ _ _ (⟨hr15, hg.2.1, hg.2.2⟩) h29 h39 hSq hl hP hD hS
  clear cut39_3 cut39_2 cut39_1
  refine lv_iconst (v := 0) hx hb d_T_doWhatIsAgreed_0 (by decide) ?_
  refine lv_istore_n hx hb d_T_doWhatIsAgreed_1 rfl hl (by decide) rfl (fun ls hl => ?_)
  replace hl : lv_has ls 4 [(2, .int 0), (0, .ref h0), (1, .ref (da 1))] := hl
  refine lv_aload_n hx hb d_T_doWhatIsAgreed_2 rfl (lv_at hl 2 rfl) ?_
  refine va_get (D := (dC, dI)) (ci := 2) (v := .int (F 1 2)) (C := "VotedTriple$VotedModule") (T := F_D) (N := 19) hx hb hw in_D hown hK hP 4 rfl rfl 2 (by decide) (hw _ k_83) (fun x9 h9 => u_same (hw _ k_81) x9 h9) rfl d_T_doWhatIsAgreed_3 ?_
  refine lv_iconst (v := 1) hx hb d_T_doWhatIsAgreed_6 (by decide) ?_
  refine lv_icmp_ne (tgt := 18) hx hb d_T_doWhatIsAgreed_7 rfl (fun hc17 => ?_) (fun hc17 => ?_)
  · --  ¬ (F 1 2) = 1
    refine lv_aload_n hx hb d_T_doWhatIsAgreed_18 rfl (lv_at hl 2 rfl) ?_
    refine va_get (D := (dC, dI)) (ci := 2) (v := .int (F 1 2)) (C := "VotedTriple$VotedModule") (T := F_D) (N := 19) hx hb hw in_D hown hK hP 4 rfl rfl 2 (by decide) (hw _ k_83) (fun x9 h9 => u_same (hw _ k_81) x9 h9) rfl d_T_doWhatIsAgreed_19 ?_
    refine lv_iconst (v := 2) hx hb d_T_doWhatIsAgreed_22 (by decide) ?_
    refine lv_icmp_ne (tgt := 37) hx hb d_T_doWhatIsAgreed_23 rfl (fun hc18 => ?_) (fun hc18 => ?_)
    · --  ¬ (F 1 2) = 2
      refine lv_iconst (v := 0) hx hb d_T_doWhatIsAgreed_37 (by decide) ?_
      refine lv_istore_n hx hb d_T_doWhatIsAgreed_38 rfl hl (by decide) rfl (fun ls hl => ?_)
      replace hl : lv_has ls 4 [(3, .int 0), (2, .int 0), (0, .ref h0), (1, .ref (da 1))] := hl
      have hSq : SP = s_T_doWhatIsAgreed1_cut39_0 uT F (uT 10) g ko kp 0 := by rw [← hSP, s_T_doWhatIsAgreed1]; try (rw [if_neg hc17]); try (rw [if_neg hc18]); all_goals rfl
      replace hl := lv_sub hl (l' := [(0, .ref h0), (1, .ref (da 1)), (2, .int 0), (3, .int 0)]) [2, 3, 1, 0] rfl
      replace hP := hP.sub (ws' := [(h0, .inr (0, oT (upc uT 10 (uT 10)) p9 a9 e9 n9 o9)), (a9, .inl (ca, 3, .inr (.inr (.inr (.inr (mo da)))))), (da 0, .inr (2, oD (F 0) (ra 0) (ka 0))), (ra 0, .inl (cr 0, 8, .inl (g 0))), (da 1, .inr (2, oD (F 1) (ra 1) (ka 1))), (ra 1, .inl (cr 1, 8, .inl (g 1))), (da 2, .inr (2, oD (F 2) (ra 2) (ka 2))), (ra 2, .inl (cr 2, 8, .inl (g 2))), (n9, .inr (4, [.ref nw9, .int (nI kN)])), (nw9, .inl (cN, 64, .inl wN)), (o9, .inr (5, [.ref ok9, .int (nI ko)])), (ok9, .inl (cO, 300, .inl kp))]) [0, 1, 2, 3, 4, 5, 6, 7, 8, 9, 10, 11] rfl
      replace hD := hD.sub (ws' := [(h0, .inr (0, oT (upc uT 10 (uT 10)) p9 a9 e9 n9 o9)), (a9, .inl (ca, 3, .inr (.inr (.inr (.inr (mo da)))))), (da 0, .inr (2, oD (F 0) (ra 0) (ka 0))), (ra 0, .inl (cr 0, 8, .inl (g 0))), (da 1, .inr (2, oD (F 1) (ra 1) (ka 1))), (ra 1, .inl (cr 1, 8, .inl (g 1))), (da 2, .inr (2, oD (F 2) (ra 2) (ka 2))), (ra 2, .inl (cr 2, 8, .inl (g 2))), (n9, .inr (4, [.ref nw9, .int (nI kN)])), (nw9, .inl (cN, 64, .inl wN)), (o9, .inr (5, [.ref ok9, .int (nI ko)])), (ok9, .inl (cO, 300, .inl kp))]) [0, 1, 2, 3, 4, 5, 6, 7, 8, 9, 10, 11] (by decide) rfl
      exact cut39_0 (uT 10) g ko kp 0 _ _ _ hg is16_0 (by omega) hSq hl hP hD hS
    · --  (F 1 2) = 2
      refine lv_aload_n hx hb d_T_doWhatIsAgreed_26 rfl (lv_at hl 1 rfl) ?_
      refine va_get (D := (dC, dI)) (ci := 0) (v := .ref o9) (C := "VotedTriple") (T := F_T) (N := 11) hx hb hw in_T hown hK hP 0 rfl rfl 4 (by decide) (hw _ k_198) (fun _ h9 => h9) rfl d_T_doWhatIsAgreed_27 ?_
      refine lv_aload_n hx hb d_T_doWhatIsAgreed_30 rfl (lv_at hl 2 rfl) ?_
      refine va_get (D := (dC, dI)) (ci := 2) (v := .int (F 1 3)) (C := "VotedTriple$VotedModule") (T := F_D) (N := 19) hx hb hw in_D hown hK hP 4 rfl rfl 3 (by decide) (hw _ k_89) (fun x9 h9 => u_same (hw _ k_88) x9 h9) rfl d_T_doWhatIsAgreed_31 ?_
      replace hPc := hP.sub (ws' := [(o9, .inr (5, [.ref ok9, .int (nI ko)])), (ok9, .inl (cO, 300, .inl kp))]) [10, 11] rfl
      replace hKc := hK.sub (tys' := [(cO, .int)]) [5] rfl
      replace hDc := hD.sub (ws' := [(o9, .inr (5, [.ref ok9, .int (nI ko)])), (ok9, .inl (cO, 300, .inl kp))]) [10, 11] (by decide) rfl
      replace hFc := va_free (wc := [(o9, .inr (5, [.ref ok9, .int (nI ko)])), (ok9, .inl (cO, 300, .inl kp))]) hD hS hA [10, 11] rfl
      refine va_callv (va_runV (C := "VotedTriple$WordsOut") (As := [.int (F 1 3)]) (rest := []) ⟨hx, hb, hml, hown, hw⟩ (c_O_add l dC dI o9 ok9 ko cO kp (F 1 3) hk1 s.heap.size) (cwV 1 hw (gdV (k_555) (k_621) (k_553) (k_554) (k_5)) rfl rfl rfl (by decide +kernel) ⟨Nat.le_of_ble_eq_true rfl, Nat.le_of_ble_eq_true rfl⟩) ⟨fun a U g mk q => by obtain ⟨q0, q1, qP, qK, qD⟩ := q; exact ⟨q0, q1, qP, va_K.moved (u := U) (U := U.calling g mk a) (Vm.Alike.refl U.vm) qK, qD⟩, va_recv hK hP rfl (q0 := 10) rfl, fun U hU hW => ⟨rfl, by rw [hU], by rw [hU]; exact hPc, va_K.moved hW.alike hKc, hDc.weaken (fun _ _ _ _ => trivial)⟩⟩ rfl rfl hl.1 rfl (lv_room (Nat.le_of_ble_eq_true rfl)) d_T_doWhatIsAgreed_34 ⟨Nat.le_of_ble_eq_true rfl, Nat.le_of_ble_eq_true rfl⟩) hS (fun q _ h => hFc q h) hFc (fun u9 t H1 locs ht hvm hr20 hB hz1 hk1 hS => ?_)
      obtain ⟨w221, rfl⟩ : ∃ z, z = u9 := ⟨_, rfl⟩
      obtain ⟨hP1, hK1, hD1⟩ := hB
      rw [ht] at hP1
      replace hK1 := va_K.moved hvm.symm hK1
      try dsimp only at hr20 hP1 hK1 hD1
      obtain ⟨hr20, hr20E⟩ := hr20
      obtain ⟨hPz, hDz⟩ := va_join (wr := [(h0, .inr (0, oT uT p9 a9 e9 n9 o9)), (a9, .inl (ca, 3, .inr (.inr (.inr (.inr (mo da)))))), (da 0, .inr (2, oD (F 0) (ra 0) (ka 0))), (ra 0, .inl (cr 0, 8, .inl (g 0))), (da 1, .inr (2, oD (F 1) (ra 1) (ka 1))), (ra 1, .inl (cr 1, 8, .inl (g 1))), (da 2, .inr (2, oD (F 2) (ra 2) (ka 2))), (ra 2, .inl (cr 2, 8, .inl (g 2))), (n9, .inr (4, [.ref nw9, .int (nI kN)])), (nw9, .inl (cN, 64, .inl wN))]) (w1 := [(o9, .inr (5, [.ref ok9, .int (nI (ko + 1))])), (ok9, .inl (cO, 300, .inl w221))]) hP hD [10, 11] [0, 1, 2, 3, 4, 5, 6, 7, 8, 9] rfl rfl (by decide) (by decide) hk1 hFc hP1 hD1
      clear hP hD hPc hDc hP1 hD1 hFc
      have hP := hPz
      have hD := hDz
      clear hPz hDz
      replace hK := (hK.sub (tys' := [(ca, .object "VotedTriple$VotedModule"), (cr 0, .int), (cr 1, .int), (cr 2, .int), (cN, .int)]) [0, 1, 2, 3, 4] rfl).app hK1
      clear hK1 hKc
      generalize H1 = H at hP hS ⊢
      replace hP : va_P (dC, dI) classes [(h0, .inr (0, oT uT p9 a9 e9 n9 o9)), (a9, .inl (ca, 3, .inr (.inr (.inr (.inr (mo da)))))), (da 0, .inr (2, oD (F 0) (ra 0) (ka 0))), (ra 0, .inl (cr 0, 8, .inl (g 0))), (da 1, .inr (2, oD (F 1) (ra 1) (ka 1))), (ra 1, .inl (cr 1, 8, .inl (g 1))), (da 2, .inr (2, oD (F 2) (ra 2) (ka 2))), (ra 2, .inl (cr 2, 8, .inl (g 2))), (n9, .inr (4, [.ref nw9, .int (nI kN)])), (nw9, .inl (cN, 64, .inl wN)), (o9, .inr (5, [.ref ok9, .int (nI (ko + 1))])), (ok9, .inl (cO, 300, .inl w221))] H := hP
      replace hD : va_D A [(h0, .inr (0, oT uT p9 a9 e9 n9 o9)), (a9, .inl (ca, 3, .inr (.inr (.inr (.inr (mo da)))))), (da 0, .inr (2, oD (F 0) (ra 0) (ka 0))), (ra 0, .inl (cr 0, 8, .inl (g 0))), (da 1, .inr (2, oD (F 1) (ra 1) (ka 1))), (ra 1, .inl (cr 1, 8, .inl (g 1))), (da 2, .inr (2, oD (F 2) (ra 2) (ka 2))), (ra 2, .inl (cr 2, 8, .inl (g 2))), (n9, .inr (4, [.ref nw9, .int (nI kN)])), (nw9, .inl (cN, 64, .inl wN)), (o9, .inr (5, [.ref ok9, .int (nI (ko + 1))])), (ok9, .inl (cO, 300, .inl w221))] := hD
      replace hK : va_K (dC, dI) classes [(ca, .object "VotedTriple$VotedModule"), (cr 0, .int), (cr 1, .int), (cr 2, .int), (cN, .int), (cO, .int)] s := hK
      refine W.widen (k := 0) (n := 0) (Nat.le_of_ble_eq_true rfl) (Nat.le_of_ble_eq_true rfl) ?_
      refine lv_iconst (v := 0) hx hb d_T_doWhatIsAgreed_37 (by decide) ?_
      refine lv_istore_n hx hb d_T_doWhatIsAgreed_38 rfl hl (by decide) rfl (fun ls hl => ?_)
      replace hl : lv_has ls 4 [(3, .int 0), (2, .int 0), (0, .ref h0), (1, .ref (da 1))] := hl
      have hSq : SP = s_T_doWhatIsAgreed1_cut39_0 uT F (uT 10) g (ko + 1) w221 0 := by rw [← hSP, s_T_doWhatIsAgreed1]; try (rw [if_neg hc17]); try (rw [if_pos hc18]); try (rw [← hr20E, bnd_eq]); all_goals rfl
      replace hl := lv_sub hl (l' := [(0, .ref h0), (1, .ref (da 1)), (2, .int 0), (3, .int 0)]) [2, 3, 1, 0] rfl
      replace hP := hP.sub (ws' := [(h0, .inr (0, oT (upc uT 10 (uT 10)) p9 a9 e9 n9 o9)), (a9, .inl (ca, 3, .inr (.inr (.inr (.inr (mo da)))))), (da 0, .inr (2, oD (F 0) (ra 0) (ka 0))), (ra 0, .inl (cr 0, 8, .inl (g 0))), (da 1, .inr (2, oD (F 1) (ra 1) (ka 1))), (ra 1, .inl (cr 1, 8, .inl (g 1))), (da 2, .inr (2, oD (F 2) (ra 2) (ka 2))), (ra 2, .inl (cr 2, 8, .inl (g 2))), (n9, .inr (4, [.ref nw9, .int (nI kN)])), (nw9, .inl (cN, 64, .inl wN)), (o9, .inr (5, [.ref ok9, .int (nI (ko + 1))])), (ok9, .inl (cO, 300, .inl w221))]) [0, 1, 2, 3, 4, 5, 6, 7, 8, 9, 10, 11] rfl
      replace hD := hD.sub (ws' := [(h0, .inr (0, oT (upc uT 10 (uT 10)) p9 a9 e9 n9 o9)), (a9, .inl (ca, 3, .inr (.inr (.inr (.inr (mo da)))))), (da 0, .inr (2, oD (F 0) (ra 0) (ka 0))), (ra 0, .inl (cr 0, 8, .inl (g 0))), (da 1, .inr (2, oD (F 1) (ra 1) (ka 1))), (ra 1, .inl (cr 1, 8, .inl (g 1))), (da 2, .inr (2, oD (F 2) (ra 2) (ka 2))), (ra 2, .inl (cr 2, 8, .inl (g 2))), (n9, .inr (4, [.ref nw9, .int (nI kN)])), (nw9, .inl (cN, 64, .inl wN)), (o9, .inr (5, [.ref ok9, .int (nI (ko + 1))])), (ok9, .inl (cO, 300, .inl w221))]) [0, 1, 2, 3, 4, 5, 6, 7, 8, 9, 10, 11] (by decide) rfl
      exact cut39_0 (uT 10) g (ko + 1) w221 0 _ _ _ hg is16_0 (by omega) hSq hl hP hD hS
  · --  (F 1 2) = 1
    refine lv_aload_n hx hb d_T_doWhatIsAgreed_10 rfl (lv_at hl 1 rfl) ?_
    replace hPc := hP.sub (ws' := [(h0, .inr (0, oT uT p9 a9 e9 n9 o9)), (n9, .inr (4, [.ref nw9, .int (nI kN)])), (nw9, .inl (cN, 64, .inl wN))]) [0, 8, 9] rfl
    replace hKc := hK.sub (tys' := [(cN, .int)]) [4] rfl
    replace hDc := hD.sub (ws' := [(h0, .inr (0, oT uT p9 a9 e9 n9 o9)), (n9, .inr (4, [.ref nw9, .int (nI kN)])), (nw9, .inl (cN, 64, .inl wN))]) [0, 8, 9] (by decide) rfl
    replace hFc := va_free (wc := [(h0, .inr (0, oT uT p9 a9 e9 n9 o9)), (n9, .inr (4, [.ref nw9, .int (nI kN)])), (nw9, .inl (cN, 64, .inl wN))]) hD hS hA [0, 8, 9] rfl
    refine va_calli (va_runV (C := "VotedTriple") (As := []) (rest := []) ⟨hx, hb, hml, hown, hw⟩ (c_T_takeWord l dC dI h0 p9 a9 e9 n9 o9 nw9 cN uT kN wN hkN hwN s.heap.size) (cwV 0 hw (gdV (k_619) (k_616) (k_618) (ks_15) (k_1)) rfl rfl rfl (by decide +kernel) ⟨Nat.le_of_ble_eq_true rfl, Nat.le_of_ble_eq_true rfl⟩) ⟨fun a U g mk q => by obtain ⟨q0, q1, qP, qK, qD⟩ := q; exact ⟨q0, q1, qP, va_K.moved (u := U) (U := U.calling g mk a) (Vm.Alike.refl U.vm) qK, qD⟩, va_recv hK hP rfl (q0 := 0) rfl, fun U hU hW => ⟨rfl, by rw [hU], by rw [hU]; exact hPc, va_K.moved hW.alike hKc, hDc.weaken (fun _ _ _ _ => trivial)⟩⟩ rfl rfl hl.1 rfl (lv_room (Nat.le_of_ble_eq_true rfl)) d_T_doWhatIsAgreed_11 ⟨Nat.le_of_ble_eq_true rfl, Nat.le_of_ble_eq_true rfl⟩) hS (fun q _ h => hFc q h) hFc (fun r22 u9 t H1 locs ht hvm hr23 hB hz1 hk1 hS => ?_)
    obtain ⟨y1024, rfl⟩ : ∃ z, z = u9 := ⟨_, rfl⟩
    obtain ⟨hP1, hK1, hD1⟩ := hB
    rw [ht] at hP1
    replace hK1 := va_K.moved hvm.symm hK1
    try dsimp only at hr23 hP1 hK1 hD1
    obtain ⟨hr23, hr23E⟩ := hr23
    obtain ⟨hPz, hDz⟩ := va_join (wr := [(a9, .inl (ca, 3, .inr (.inr (.inr (.inr (mo da)))))), (da 0, .inr (2, oD (F 0) (ra 0) (ka 0))), (ra 0, .inl (cr 0, 8, .inl (g 0))), (da 1, .inr (2, oD (F 1) (ra 1) (ka 1))), (ra 1, .inl (cr 1, 8, .inl (g 1))), (da 2, .inr (2, oD (F 2) (ra 2) (ka 2))), (ra 2, .inl (cr 2, 8, .inl (g 2))), (o9, .inr (5, [.ref ok9, .int (nI ko)])), (ok9, .inl (cO, 300, .inl kp))]) (w1 := [(h0, .inr (0, oT (upc uT 10 y1024) p9 a9 e9 n9 o9)), (n9, .inr (4, [.ref nw9, .int (nI kN)])), (nw9, .inl (cN, 64, .inl wN))]) hP hD [0, 8, 9] [1, 2, 3, 4, 5, 6, 7, 10, 11] rfl rfl (by decide) (by decide) hk1 hFc hP1 hD1
    clear hP hD hPc hDc hP1 hD1 hFc
    have hP := hPz
    have hD := hDz
    clear hPz hDz
    replace hK := (hK.sub (tys' := [(ca, .object "VotedTriple$VotedModule"), (cr 0, .int), (cr 1, .int), (cr 2, .int), (cO, .int)]) [0, 1, 2, 3, 5] rfl).app hK1
    clear hK1 hKc
    generalize H1 = H at hP hS ⊢
    replace hP : va_P (dC, dI) classes [(a9, .inl (ca, 3, .inr (.inr (.inr (.inr (mo da)))))), (da 0, .inr (2, oD (F 0) (ra 0) (ka 0))), (ra 0, .inl (cr 0, 8, .inl (g 0))), (da 1, .inr (2, oD (F 1) (ra 1) (ka 1))), (ra 1, .inl (cr 1, 8, .inl (g 1))), (da 2, .inr (2, oD (F 2) (ra 2) (ka 2))), (ra 2, .inl (cr 2, 8, .inl (g 2))), (o9, .inr (5, [.ref ok9, .int (nI ko)])), (ok9, .inl (cO, 300, .inl kp)), (h0, .inr (0, oT (upc uT 10 y1024) p9 a9 e9 n9 o9)), (n9, .inr (4, [.ref nw9, .int (nI kN)])), (nw9, .inl (cN, 64, .inl wN))] H := hP
    replace hD : va_D A [(a9, .inl (ca, 3, .inr (.inr (.inr (.inr (mo da)))))), (da 0, .inr (2, oD (F 0) (ra 0) (ka 0))), (ra 0, .inl (cr 0, 8, .inl (g 0))), (da 1, .inr (2, oD (F 1) (ra 1) (ka 1))), (ra 1, .inl (cr 1, 8, .inl (g 1))), (da 2, .inr (2, oD (F 2) (ra 2) (ka 2))), (ra 2, .inl (cr 2, 8, .inl (g 2))), (o9, .inr (5, [.ref ok9, .int (nI ko)])), (ok9, .inl (cO, 300, .inl kp)), (h0, .inr (0, oT (upc uT 10 y1024) p9 a9 e9 n9 o9)), (n9, .inr (4, [.ref nw9, .int (nI kN)])), (nw9, .inl (cN, 64, .inl wN))] := hD
    replace hK : va_K (dC, dI) classes [(ca, .object "VotedTriple$VotedModule"), (cr 0, .int), (cr 1, .int), (cr 2, .int), (cO, .int), (cN, .int)] s := hK
    refine W.widen (k := 0) (n := 0) (Nat.le_of_ble_eq_true rfl) (Nat.le_of_ble_eq_true rfl) ?_
    refine lv_istore_n hx hb d_T_doWhatIsAgreed_14 rfl hl (by decide) rfl (fun ls hl => ?_)
    replace hl : lv_has ls 4 [(2, .int r22), (0, .ref h0), (1, .ref (da 1))] := hl
    refine lv_goto (tgt := 37) hx hb d_T_doWhatIsAgreed_15 rfl ?_
    refine lv_iconst (v := 0) hx hb d_T_doWhatIsAgreed_37 (by decide) ?_
    refine lv_istore_n hx hb d_T_doWhatIsAgreed_38 rfl hl (by decide) rfl (fun ls hl => ?_)
    replace hl : lv_has ls 4 [(3, .int 0), (2, .int r22), (0, .ref h0), (1, .ref (da 1))] := hl
    have hSq : SP = s_T_doWhatIsAgreed1_cut39_0 uT F (upc uT 10 y1024 10) g ko kp r22 := by rw [← hSP, s_T_doWhatIsAgreed1]; try (rw [if_pos hc17]); try (rw [← hr23E, bnd_eq]); try dsimp only; all_goals rfl
    replace hl := lv_sub hl (l' := [(0, .ref h0), (1, .ref (da 1)), (2, .int r22), (3, .int 0)]) [2, 3, 1, 0] rfl
    replace hP := hP.sub (ws' := [(h0, .inr (0, oT (upc uT 10 (upc uT 10 y1024 10)) p9 a9 e9 n9 o9)), (a9, .inl (ca, 3, .inr (.inr (.inr (.inr (mo da)))))), (da 0, .inr (2, oD (F 0) (ra 0) (ka 0))), (ra 0, .inl (cr 0, 8, .inl (g 0))), (da 1, .inr (2, oD (F 1) (ra 1) (ka 1))), (ra 1, .inl (cr 1, 8, .inl (g 1))), (da 2, .inr (2, oD (F 2) (ra 2) (ka 2))), (ra 2, .inl (cr 2, 8, .inl (g 2))), (n9, .inr (4, [.ref nw9, .int (nI kN)])), (nw9, .inl (cN, 64, .inl wN)), (o9, .inr (5, [.ref ok9, .int (nI ko)])), (ok9, .inl (cO, 300, .inl kp))]) [9, 0, 1, 2, 3, 4, 5, 6, 10, 11, 7, 8] rfl
    replace hD := hD.sub (ws' := [(h0, .inr (0, oT (upc uT 10 (upc uT 10 y1024 10)) p9 a9 e9 n9 o9)), (a9, .inl (ca, 3, .inr (.inr (.inr (.inr (mo da)))))), (da 0, .inr (2, oD (F 0) (ra 0) (ka 0))), (ra 0, .inl (cr 0, 8, .inl (g 0))), (da 1, .inr (2, oD (F 1) (ra 1) (ka 1))), (ra 1, .inl (cr 1, 8, .inl (g 1))), (da 2, .inr (2, oD (F 2) (ra 2) (ka 2))), (ra 2, .inl (cr 2, 8, .inl (g 2))), (n9, .inr (4, [.ref nw9, .int (nI kN)])), (nw9, .inl (cN, 64, .inl wN)), (o9, .inr (5, [.ref ok9, .int (nI ko)])), (ok9, .inl (cO, 300, .inl kp))]) [9, 0, 1, 2, 3, 4, 5, 6, 10, 11, 7, 8] (by decide) rfl
    exact cut39_0 (upc uT 10 y1024 10) g ko kp r22 _ _ _ hg hr23 (by omega) hSq hl hP hD hS

set_option maxHeartbeats 4000000 in
set_option maxRecDepth 100000 in
theorem c_T_doWhatIsAgreed2 (l : Launch) (dC : Nat → ClassId) (dI : Nat → Nat → Nat) (h0 : Nat) (p9 : Nat) (a9 : Nat) (e9 : Nat) (n9 : Nat) (o9 : Nat) (ca : ClassId) (da : Nat → Nat) (ra : Nat → Nat) (ka : Nat → Nat) (cr : Nat → ClassId) (nw9 : Nat) (cN : ClassId) (ok9 : Nat) (cO : ClassId) (uT : Nat → Int32) (F : Nat → Nat → Int32) (g : Nat → Nat → Int32) (kN : Nat) (wN : Nat → Int32) (ko : Nat) (kp : Nat → Int32) (hF : f3 F) (hg : g3 g) (hkN : kN ≤ 64) (hwN : wdI 64 wN) (hk1 : ko + 1 < 2 ^ 31) (sz : Nat) : Met l y_T_doWhatIsAgreed (tbw y_T_doWhatIsAgreed b_T_doWhatIsAgreed 4 none) ({ frames := 2, cells := 0, slots := 0, locals := 42 }) (va_Pc [.ref h0, .ref (da 2)] (fun U => U.heap.size = sz ∧ va_P (dC, dI) classes [(h0, .inr (0, oT uT p9 a9 e9 n9 o9)), (a9, .inl (ca, 3, .inr (.inr (.inr (.inr (mo da)))))), (da 0, .inr (2, oD (F 0) (ra 0) (ka 0))), (ra 0, .inl (cr 0, 8, .inl (g 0))), (da 1, .inr (2, oD (F 1) (ra 1) (ka 1))), (ra 1, .inl (cr 1, 8, .inl (g 1))), (da 2, .inr (2, oD (F 2) (ra 2) (ka 2))), (ra 2, .inl (cr 2, 8, .inl (g 2))), (n9, .inr (4, [.ref nw9, .int (nI kN)])), (nw9, .inl (cN, 64, .inl wN)), (o9, .inr (5, [.ref ok9, .int (nI ko)])), (ok9, .inl (cO, 300, .inl kp))] U.heap ∧ va_K (dC, dI) classes [(ca, .object "VotedTriple$VotedModule"), (cr 0, .int), (cr 1, .int), (cr 2, .int), (cN, .int), (cO, .int)] U ∧ va_D (fun _ => True) [(h0, .inr (0, oT uT p9 a9 e9 n9 o9)), (a9, .inl (ca, 3, .inr (.inr (.inr (.inr (mo da)))))), (da 0, .inr (2, oD (F 0) (ra 0) (ka 0))), (ra 0, .inl (cr 0, 8, .inl (g 0))), (da 1, .inr (2, oD (F 1) (ra 1) (ka 1))), (ra 1, .inl (cr 1, 8, .inl (g 1))), (da 2, .inr (2, oD (F 2) (ra 2) (ka 2))), (ra 2, .inl (cr 2, 8, .inl (g 2))), (n9, .inr (4, [.ref nw9, .int (nI kN)])), (nw9, .inl (cN, 64, .inl wN)), (o9, .inr (5, [.ref ok9, .int (nI ko)])), (ok9, .inl (cO, 300, .inl kp))])) (va_Qv (fun (u9 : (Nat → Nat → Int32) × Nat × (Nat → Int32) × Int32) => match u9 with | (g2, ko2, kp2, y10) => (g3 g2 ∧ ko2 ≤ ko + 1) ∧ (g2, ko2, kp2, y10) = s_T_doWhatIsAgreed2 uT F g kN wN ko kp) (fun (u9 : (Nat → Nat → Int32) × Nat × (Nat → Int32) × Int32) t => match u9 with | (g2, ko2, kp2, y10) => va_P (dC, dI) classes [(h0, .inr (0, oT (upc uT 10 y10) p9 a9 e9 n9 o9)), (a9, .inl (ca, 3, .inr (.inr (.inr (.inr (mo da)))))), (da 0, .inr (2, oD (F 0) (ra 0) (ka 0))), (ra 0, .inl (cr 0, 8, .inl (g2 0))), (da 1, .inr (2, oD (F 1) (ra 1) (ka 1))), (ra 1, .inl (cr 1, 8, .inl (g2 1))), (da 2, .inr (2, oD (F 2) (ra 2) (ka 2))), (ra 2, .inl (cr 2, 8, .inl (g2 2))), (n9, .inr (4, [.ref nw9, .int (nI kN)])), (nw9, .inl (cN, 64, .inl wN)), (o9, .inr (5, [.ref ok9, .int (nI ko2)])), (ok9, .inl (cO, 300, .inl kp2))] t.heap ∧ va_K (dC, dI) classes [(ca, .object "VotedTriple$VotedModule"), (cr 0, .int), (cr 1, .int), (cr 2, .int), (cN, .int), (cO, .int)] t ∧ va_D (va_A [(h0, .inr (0, oT uT p9 a9 e9 n9 o9)), (a9, .inl (ca, 3, .inr (.inr (.inr (.inr (mo da)))))), (da 0, .inr (2, oD (F 0) (ra 0) (ka 0))), (ra 0, .inl (cr 0, 8, .inl (g 0))), (da 1, .inr (2, oD (F 1) (ra 1) (ka 1))), (ra 1, .inl (cr 1, 8, .inl (g 1))), (da 2, .inr (2, oD (F 2) (ra 2) (ka 2))), (ra 2, .inl (cr 2, 8, .inl (g 2))), (n9, .inr (4, [.ref nw9, .int (nI kN)])), (nw9, .inl (cN, 64, .inl wN)), (o9, .inr (5, [.ref ok9, .int (nI ko)])), (ok9, .inl (cO, 300, .inl kp))] sz) [(h0, .inr (0, oT (upc uT 10 y10) p9 a9 e9 n9 o9)), (a9, .inl (ca, 3, .inr (.inr (.inr (.inr (mo da)))))), (da 0, .inr (2, oD (F 0) (ra 0) (ka 0))), (ra 0, .inl (cr 0, 8, .inl (g2 0))), (da 1, .inr (2, oD (F 1) (ra 1) (ka 1))), (ra 1, .inl (cr 1, 8, .inl (g2 1))), (da 2, .inr (2, oD (F 2) (ra 2) (ka 2))), (ra 2, .inl (cr 2, 8, .inl (g2 2))), (n9, .inr (4, [.ref nw9, .int (nI kN)])), (nw9, .inl (cN, 64, .inl wN)), (o9, .inr (5, [.ref ok9, .int (nI ko2)])), (ok9, .inl (cO, 300, .inl kp2))]) (va_A [(h0, .inr (0, oT uT p9 a9 e9 n9 o9)), (a9, .inl (ca, 3, .inr (.inr (.inr (.inr (mo da)))))), (da 0, .inr (2, oD (F 0) (ra 0) (ka 0))), (ra 0, .inl (cr 0, 8, .inl (g 0))), (da 1, .inr (2, oD (F 1) (ra 1) (ka 1))), (ra 1, .inl (cr 1, 8, .inl (g 1))), (da 2, .inr (2, oD (F 2) (ra 2) (ka 2))), (ra 2, .inl (cr 2, 8, .inl (g 2))), (n9, .inr (4, [.ref nw9, .int (nI kN)])), (nw9, .inl (cN, 64, .inl wN)), (o9, .inr (5, [.ref ok9, .int (nI ko)])), (ok9, .inl (cO, 300, .inl kp))] sz)) 0 0 (va_A [(h0, .inr (0, oT uT p9 a9 e9 n9 o9)), (a9, .inl (ca, 3, .inr (.inr (.inr (.inr (mo da)))))), (da 0, .inr (2, oD (F 0) (ra 0) (ka 0))), (ra 0, .inl (cr 0, 8, .inl (g 0))), (da 1, .inr (2, oD (F 1) (ra 1) (ka 1))), (ra 1, .inl (cr 1, 8, .inl (g 1))), (da 2, .inr (2, oD (F 2) (ra 2) (ka 2))), (ra 2, .inl (cr 2, 8, .inl (g 2))), (n9, .inr (4, [.ref nw9, .int (nI kN)])), (nw9, .inl (cN, 64, .inl wN)), (o9, .inr (5, [.ref ok9, .int (nI ko)])), (ok9, .inl (cO, 300, .inl kp))] sz) := by
  refine Met.ofW (cc := b_T_doWhatIsAgreed) (maxL := 4) (ret := none) (by decide) rfl ?_
  intro p e s m args below meth c s₁ B hml hv
  obtain ⟨rfl, hsz, hP, hK, hD0⟩ := hv
  have hx := B.exec
  have hb := B.bytes
  have hr := B.returns
  have hts := atoms_spec (ws := (tbw y_T_doWhatIsAgreed b_T_doWhatIsAgreed 4 none)) B.pre
  have hw : ∀ z9 ∈ tb, z9.before ([.ref h0, .ref (da 2)] : List Value).toArray s = true := fun z9 h => hts z9 (List.mem_cons_of_mem _ h)
  have hown : s.vm.findClass "VotedTriple" = some m.cls := findClass_of_methodNamed B.named
  have hlocks := B.notSynchronized
  subst hsz
  replace hD := hD0.self (sz := s.heap.size)
  generalize hAe : va_A [(h0, .inr (0, oT uT p9 a9 e9 n9 o9)), (a9, .inl (ca, 3, .inr (.inr (.inr (.inr (mo da)))))), (da 0, .inr (2, oD (F 0) (ra 0) (ka 0))), (ra 0, .inl (cr 0, 8, .inl (g 0))), (da 1, .inr (2, oD (F 1) (ra 1) (ka 1))), (ra 1, .inl (cr 1, 8, .inl (g 1))), (da 2, .inr (2, oD (F 2) (ra 2) (ka 2))), (ra 2, .inl (cr 2, 8, .inl (g 2))), (n9, .inr (4, [.ref nw9, .int (nI kN)])), (nw9, .inl (cN, 64, .inl wN)), (o9, .inr (5, [.ref ok9, .int (nI ko)])), (ok9, .inl (cO, 300, .inl kp))] s.heap.size = A at hD ⊢
  have hA : ∀ q : Nat, s.heap.size ≤ q → A q := fun q h => by rw [← hAe]; exact Or.inr h
  have hS : va_S A s.heap s.heap [] := va_S.rf
  replace hl := lv_entry ([.ref h0, .ref (da 2)]) (n := 4) (Nat.le_of_ble_eq_true rfl)
  rw [lg_entry_eq]
  generalize (lg_sl ([.ref h0, .ref (da 2)]) ++ List.replicate (4 - (lg_sl ([.ref h0, .ref (da 2)])).length) Slot.unset).toArray = ls at hl ⊢
  replace hl : lv_has ls 4 [(0, .ref h0), (1, .ref (da 2))] := hl
  generalize hSP : s_T_doWhatIsAgreed2 uT F g kN wN ko kp = SP
  have cut39_3 : ∀ (y10 : Int32) (g : Nat → Nat → Int32) (ko2 : Nat) (kp2 : Nat → Int32) (w2 : Int32) (ls : Array Slot) (H : Heap) (locs : List Loc), g3 g → is16 w2 → ko2 ≤ ko + 1 → SP = s_T_doWhatIsAgreed2_cut39_3 uT y10 g ko2 kp2 w2 →  lv_has ls 4 [(0, .ref h0), (1, .ref (da 2)), (2, .int w2), (3, .int 3)] → va_P (dC, dI) classes [(h0, .inr (0, oT (upc uT 10 y10) p9 a9 e9 n9 o9)), (a9, .inl (ca, 3, .inr (.inr (.inr (.inr (mo da)))))), (da 0, .inr (2, oD (F 0) (ra 0) (ka 0))), (ra 0, .inl (cr 0, 8, .inl (g 0))), (da 1, .inr (2, oD (F 1) (ra 1) (ka 1))), (ra 1, .inl (cr 1, 8, .inl (g 1))), (da 2, .inr (2, oD (F 2) (ra 2) (ka 2))), (ra 2, .inl (cr 2, 8, .inl (g 2))), (n9, .inr (4, [.ref nw9, .int (nI kN)])), (nw9, .inl (cN, 64, .inl wN)), (o9, .inr (5, [.ref ok9, .int (nI ko2)])), (ok9, .inl (cO, 300, .inl kp2))] H → va_D A [(h0, .inr (0, oT (upc uT 10 y10) p9 a9 e9 n9 o9)), (a9, .inl (ca, 3, .inr (.inr (.inr (.inr (mo da)))))), (da 0, .inr (2, oD (F 0) (ra 0) (ka 0))), (ra 0, .inl (cr 0, 8, .inl (g 0))), (da 1, .inr (2, oD (F 1) (ra 1) (ka 1))), (ra 1, .inl (cr 1, 8, .inl (g 1))), (da 2, .inr (2, oD (F 2) (ra 2) (ka 2))), (ra 2, .inl (cr 2, 8, .inl (g 2))), (n9, .inr (4, [.ref nw9, .int (nI kN)])), (nw9, .inl (cN, 64, .inl wN)), (o9, .inr (5, [.ref ok9, .int (nI ko2)])), (ok9, .inl (cO, 300, .inl kp2))] → va_S A s.heap H locs → W p l e (headSpec (tbw y_T_doWhatIsAgreed b_T_doWhatIsAgreed 4 none) ({ frames := 2, cells := 0, slots := 0, locals := 42 })).room s m ([.ref h0, .ref (da 2)] : List Value).toArray below meth c H locs 0 0 (MQ below (va_Qv (fun (u9 : (Nat → Nat → Int32) × Nat × (Nat → Int32) × Int32) => match u9 with | (g2, ko2, kp2, y10) => (g3 g2 ∧ ko2 ≤ ko + 1) ∧ (g2, ko2, kp2, y10) = SP) (fun (u9 : (Nat → Nat → Int32) × Nat × (Nat → Int32) × Int32) t => match u9 with | (g2, ko2, kp2, y10) => va_P (dC, dI) classes [(h0, .inr (0, oT (upc uT 10 y10) p9 a9 e9 n9 o9)), (a9, .inl (ca, 3, .inr (.inr (.inr (.inr (mo da)))))), (da 0, .inr (2, oD (F 0) (ra 0) (ka 0))), (ra 0, .inl (cr 0, 8, .inl (g2 0))), (da 1, .inr (2, oD (F 1) (ra 1) (ka 1))), (ra 1, .inl (cr 1, 8, .inl (g2 1))), (da 2, .inr (2, oD (F 2) (ra 2) (ka 2))), (ra 2, .inl (cr 2, 8, .inl (g2 2))), (n9, .inr (4, [.ref nw9, .int (nI kN)])), (nw9, .inl (cN, 64, .inl wN)), (o9, .inr (5, [.ref ok9, .int (nI ko2)])), (ok9, .inl (cO, 300, .inl kp2))] t.heap ∧ va_K (dC, dI) classes [(ca, .object "VotedTriple$VotedModule"), (cr 0, .int), (cr 1, .int), (cr 2, .int), (cN, .int), (cO, .int)] t ∧ va_D A [(h0, .inr (0, oT (upc uT 10 y10) p9 a9 e9 n9 o9)), (a9, .inl (ca, 3, .inr (.inr (.inr (.inr (mo da)))))), (da 0, .inr (2, oD (F 0) (ra 0) (ka 0))), (ra 0, .inl (cr 0, 8, .inl (g2 0))), (da 1, .inr (2, oD (F 1) (ra 1) (ka 1))), (ra 1, .inl (cr 1, 8, .inl (g2 1))), (da 2, .inr (2, oD (F 2) (ra 2) (ka 2))), (ra 2, .inl (cr 2, 8, .inl (g2 2))), (n9, .inr (4, [.ref nw9, .int (nI kN)])), (nw9, .inl (cN, 64, .inl wN)), (o9, .inr (5, [.ref ok9, .int (nI ko2)])), (ok9, .inl (cO, 300, .inl kp2))]) A) ([.ref h0, .ref (da 2)] : List Value).toArray s 0 0 A) (F0 m 39 ls []) := by
    intro y10 g ko2 kp2 w2 ls H locs hg h29 h39 hSq0 hl hP hD hS
    refine lv_iload_n hx hb d_T_doWhatIsAgreed_39 rfl (lv_at hl 3 rfl) ?_
    refine lv_iconst (v := 3) hx hb d_T_doWhatIsAgreed_40 (by decide) ?_
    refine lv_icmp_ge (tgt := 72) hx hb d_T_doWhatIsAgreed_41 rfl (fun hc1 => ?_) (fun hc1 => by first | exact absurd (by decide) hc1 | exact absurd hc1 (by decide))
    have hP9 := hP.sub (ws' := [(h0, .inr (0, oT (upc uT 10 (upc uT 10 y10 10)) p9 a9 e9 n9 o9)), (a9, .inl (ca, 3, .inr (.inr (.inr (.inr (mo da)))))), (da 0, .inr (2, oD (F 0) (ra 0) (ka 0))), (ra 0, .inl (cr 0, 8, .inl (g 0))), (da 1, .inr (2, oD (F 1) (ra 1) (ka 1))), (ra 1, .inl (cr 1, 8, .inl (g 1))), (da 2, .inr (2, oD (F 2) (ra 2) (ka 2))), (ra 2, .inl (cr 2, 8, .inl (g 2))), (n9, .inr (4, [.ref nw9, .int (nI kN)])), (nw9, .inl (cN, 64, .inl wN)), (o9, .inr (5, [.ref ok9, .int (nI ko2)])), (ok9, .inl (cO, 300, .inl kp2))]) [0, 1, 2, 3, 4, 5, 6, 7, 8, 9, 10, 11] rfl
    have hD9 := hD.sub (ws' := [(h0, .inr (0, oT (upc uT 10 (upc uT 10 y10 10)) p9 a9 e9 n9 o9)), (a9, .inl (ca, 3, .inr (.inr (.inr (.inr (mo da)))))), (da 0, .inr (2, oD (F 0) (ra 0) (ka 0))), (ra 0, .inl (cr 0, 8, .inl (g 0))), (da 1, .inr (2, oD (F 1) (ra 1) (ka 1))), (ra 1, .inl (cr 1, 8, .inl (g 1))), (da 2, .inr (2, oD (F 2) (ra 2) (ka 2))), (ra 2, .inl (cr 2, 8, .inl (g 2))), (n9, .inr (4, [.ref nw9, .int (nI kN)])), (nw9, .inl (cN, 64, .inl wN)), (o9, .inr (5, [.ref ok9, .int (nI ko2)])), (ok9, .inl (cO, 300, .inl kp2))]) [0, 1, 2, 3, 4, 5, 6, 7, 8, 9, 10, 11] (by decide) rfl
    have hK9 := hK.sub (tys' := [(ca, .object "VotedTriple$VotedModule"), (cr 0, .int), (cr 1, .int), (cr 2, .int), (cN, .int), (cO, .int)]) [0, 1, 2, 3, 4, 5] rfl
    refine W.widen (k := 0) (n := 0) (Nat.le_of_ble_eq_true rfl) (Nat.le_of_ble_eq_true rfl) ?_
    exact W.vret hx hb hr (fun t ht hW => ⟨⟨(g, ko2, kp2, upc uT 10 y10 10), rfl, ⟨⟨hg, h39⟩, (by rw [hSq0, s_T_doWhatIsAgreed2_cut39_3]; all_goals rfl)⟩, by rw [ht]; exact hP9, va_K.moved hW.alike hK9, hD9⟩, hS.F ht⟩) hS.2.2 d_T_doWhatIsAgreed_72
  have cut39_2 : ∀ (y10 : Int32) (g : Nat → Nat → Int32) (ko2 : Nat) (kp2 : Nat → Int32) (w2 : Int32) (ls : Array Slot) (H : Heap) (locs : List Loc), g3 g → is16 w2 → ko2 ≤ ko + 1 → SP = s_T_doWhatIsAgreed2_cut39_2 uT F y10 g ko2 kp2 w2 →  lv_has ls 4 [(0, .ref h0), (1, .ref (da 2)), (2, .int w2), (3, .int 2)] → va_P (dC, dI) classes [(h0, .inr (0, oT (upc uT 10 y10) p9 a9 e9 n9 o9)), (a9, .inl (ca, 3, .inr (.inr (.inr (.inr (mo da)))))), (da 0, .inr (2, oD (F 0) (ra 0) (ka 0))), (ra 0, .inl (cr 0, 8, .inl (g 0))), (da 1, .inr (2, oD (F 1) (ra 1) (ka 1))), (ra 1, .inl (cr 1, 8, .inl (g 1))), (da 2, .inr (2, oD (F 2) (ra 2) (ka 2))), (ra 2, .inl (cr 2, 8, .inl (g 2))), (n9, .inr (4, [.ref nw9, .int (nI kN)])), (nw9, .inl (cN, 64, .inl wN)), (o9, .inr (5, [.ref ok9, .int (nI ko2)])), (ok9, .inl (cO, 300, .inl kp2))] H → va_D A [(h0, .inr (0, oT (upc uT 10 y10) p9 a9 e9 n9 o9)), (a9, .inl (ca, 3, .inr (.inr (.inr (.inr (mo da)))))), (da 0, .inr (2, oD (F 0) (ra 0) (ka 0))), (ra 0, .inl (cr 0, 8, .inl (g 0))), (da 1, .inr (2, oD (F 1) (ra 1) (ka 1))), (ra 1, .inl (cr 1, 8, .inl (g 1))), (da 2, .inr (2, oD (F 2) (ra 2) (ka 2))), (ra 2, .inl (cr 2, 8, .inl (g 2))), (n9, .inr (4, [.ref nw9, .int (nI kN)])), (nw9, .inl (cN, 64, .inl wN)), (o9, .inr (5, [.ref ok9, .int (nI ko2)])), (ok9, .inl (cO, 300, .inl kp2))] → va_S A s.heap H locs → W p l e (headSpec (tbw y_T_doWhatIsAgreed b_T_doWhatIsAgreed 4 none) ({ frames := 2, cells := 0, slots := 0, locals := 42 })).room s m ([.ref h0, .ref (da 2)] : List Value).toArray below meth c H locs 0 0 (MQ below (va_Qv (fun (u9 : (Nat → Nat → Int32) × Nat × (Nat → Int32) × Int32) => match u9 with | (g2, ko2, kp2, y10) => (g3 g2 ∧ ko2 ≤ ko + 1) ∧ (g2, ko2, kp2, y10) = SP) (fun (u9 : (Nat → Nat → Int32) × Nat × (Nat → Int32) × Int32) t => match u9 with | (g2, ko2, kp2, y10) => va_P (dC, dI) classes [(h0, .inr (0, oT (upc uT 10 y10) p9 a9 e9 n9 o9)), (a9, .inl (ca, 3, .inr (.inr (.inr (.inr (mo da)))))), (da 0, .inr (2, oD (F 0) (ra 0) (ka 0))), (ra 0, .inl (cr 0, 8, .inl (g2 0))), (da 1, .inr (2, oD (F 1) (ra 1) (ka 1))), (ra 1, .inl (cr 1, 8, .inl (g2 1))), (da 2, .inr (2, oD (F 2) (ra 2) (ka 2))), (ra 2, .inl (cr 2, 8, .inl (g2 2))), (n9, .inr (4, [.ref nw9, .int (nI kN)])), (nw9, .inl (cN, 64, .inl wN)), (o9, .inr (5, [.ref ok9, .int (nI ko2)])), (ok9, .inl (cO, 300, .inl kp2))] t.heap ∧ va_K (dC, dI) classes [(ca, .object "VotedTriple$VotedModule"), (cr 0, .int), (cr 1, .int), (cr 2, .int), (cN, .int), (cO, .int)] t ∧ va_D A [(h0, .inr (0, oT (upc uT 10 y10) p9 a9 e9 n9 o9)), (a9, .inl (ca, 3, .inr (.inr (.inr (.inr (mo da)))))), (da 0, .inr (2, oD (F 0) (ra 0) (ka 0))), (ra 0, .inl (cr 0, 8, .inl (g2 0))), (da 1, .inr (2, oD (F 1) (ra 1) (ka 1))), (ra 1, .inl (cr 1, 8, .inl (g2 1))), (da 2, .inr (2, oD (F 2) (ra 2) (ka 2))), (ra 2, .inl (cr 2, 8, .inl (g2 2))), (n9, .inr (4, [.ref nw9, .int (nI kN)])), (nw9, .inl (cN, 64, .inl wN)), (o9, .inr (5, [.ref ok9, .int (nI ko2)])), (ok9, .inl (cO, 300, .inl kp2))]) A) ([.ref h0, .ref (da 2)] : List Value).toArray s 0 0 A) (F0 m 39 ls []) := by
    intro y10 g ko2 kp2 w2 ls H locs hg h29 h39 hSq0 hl hP hD hS
    refine lv_iload_n hx hb d_T_doWhatIsAgreed_39 rfl (lv_at hl 3 rfl) ?_
    refine lv_iconst (v := 3) hx hb d_T_doWhatIsAgreed_40 (by decide) ?_
    refine lv_icmp_ge (tgt := 72) hx hb d_T_doWhatIsAgreed_41 rfl (fun hc2 => by first | exact absurd hc2 (by decide) | exact absurd (by decide) hc2) (fun hc2 => ?_)
    refine lv_aload_n hx hb d_T_doWhatIsAgreed_44 rfl (lv_at hl 0 rfl) ?_
    refine va_get (D := (dC, dI)) (ci := 0) (v := .ref a9) (C := "VotedTriple") (T := F_T) (N := 11) hx hb hw in_T hown hK hP 0 rfl rfl 1 (by decide) (hw _ k_195) (fun _ h9 => h9) rfl d_T_doWhatIsAgreed_45 ?_
    refine lv_iload_n hx hb d_T_doWhatIsAgreed_48 rfl (lv_at hl 3 rfl) ?_
    refine va_aldq hx hb hK hP 1 0 rfl rfl (by unfold vp_in; decide) d_T_doWhatIsAgreed_49 ?_
    refine W.eq (g2 := F0 m 50 ls [.ref (da 2)]) rfl ?_
    refine va_get (D := (dC, dI)) (ci := 2) (v := .int (F 2 8)) (C := "VotedTriple$VotedModule") (T := F_D) (N := 19) hx hb hw in_D hown hK hP 6 rfl rfl 8 (by decide) (hw _ k_143) (fun _ h9 => h9) rfl d_T_doWhatIsAgreed_50 ?_
    refine lv_if_ne (tgt := 66) hx hb d_T_doWhatIsAgreed_53 rfl (fun hc3 => ?_) (fun hc3 => ?_)
    · --  ¬ (F 2 8) = 0
      refine lv_iinc (k := 3) (v := 3) hx hb d_T_doWhatIsAgreed_66 hl rfl rfl (by decide) rfl (fun ls hl => ?_)
      replace hl : lv_has ls 4 [(3, .int 3), (0, .ref h0), (1, .ref (da 2)), (2, .int w2)] := hl
      refine lv_goto (tgt := 39) hx hb d_T_doWhatIsAgreed_69 rfl ?_
      have hSq : SP = s_T_doWhatIsAgreed2_cut39_3 uT (upc uT 10 y10 10) g ko2 kp2 w2 := by rw [hSq0, s_T_doWhatIsAgreed2_cut39_2]; try (rw [if_neg hc3]); all_goals rfl
      replace hl := lv_sub hl (l' := [(0, .ref h0), (1, .ref (da 2)), (2, .int w2), (3, .int 3)]) [1, 2, 3, 0] rfl
      replace hP := hP.sub (ws' := [(h0, .inr (0, oT (upc uT 10 (upc uT 10 y10 10)) p9 a9 e9 n9 o9)), (a9, .inl (ca, 3, .inr (.inr (.inr (.inr (mo da)))))), (da 0, .inr (2, oD (F 0) (ra 0) (ka 0))), (ra 0, .inl (cr 0, 8, .inl (g 0))), (da 1, .inr (2, oD (F 1) (ra 1) (ka 1))), (ra 1, .inl (cr 1, 8, .inl (g 1))), (da 2, .inr (2, oD (F 2) (ra 2) (ka 2))), (ra 2, .inl (cr 2, 8, .inl (g 2))), (n9, .inr (4, [.ref nw9, .int (nI kN)])), (nw9, .inl (cN, 64, .inl wN)), (o9, .inr (5, [.ref ok9, .int (nI ko2)])), (ok9, .inl (cO, 300, .inl kp2))]) [0, 1, 2, 3, 4, 5, 6, 7, 8, 9, 10, 11] rfl
      replace hD := hD.sub (ws' := [(h0, .inr (0, oT (upc uT 10 (upc uT 10 y10 10)) p9 a9 e9 n9 o9)), (a9, .inl (ca, 3, .inr (.inr (.inr (.inr (mo da)))))), (da 0, .inr (2, oD (F 0) (ra 0) (ka 0))), (ra 0, .inl (cr 0, 8, .inl (g 0))), (da 1, .inr (2, oD (F 1) (ra 1) (ka 1))), (ra 1, .inl (cr 1, 8, .inl (g 1))), (da 2, .inr (2, oD (F 2) (ra 2) (ka 2))), (ra 2, .inl (cr 2, 8, .inl (g 2))), (n9, .inr (4, [.ref nw9, .int (nI kN)])), (nw9, .inl (cN, 64, .inl wN)), (o9, .inr (5, [.ref ok9, .int (nI ko2)])), (ok9, .inl (cO, 300, .inl kp2))]) [0, 1, 2, 3, 4, 5, 6, 7, 8, 9, 10, 11] (by decide) rfl
      exact cut39_3 (upc uT 10 y10 10) g ko2 kp2 w2 _ _ _ hg h29 h39 hSq hl hP hD hS
    · --  (F 2 8) = 0
      refine lv_aload_n hx hb d_T_doWhatIsAgreed_56 rfl (lv_at hl 0 rfl) ?_
      refine va_get (D := (dC, dI)) (ci := 0) (v := .ref a9) (C := "VotedTriple") (T := F_T) (N := 11) hx hb hw in_T hown hK hP 0 rfl rfl 1 (by decide) (hw _ k_195) (fun _ h9 => h9) rfl d_T_doWhatIsAgreed_57 ?_
      refine lv_iload_n hx hb d_T_doWhatIsAgreed_60 rfl (lv_at hl 3 rfl) ?_
      refine va_aldq hx hb hK hP 1 0 rfl rfl (by unfold vp_in; decide) d_T_doWhatIsAgreed_61 ?_
      refine W.eq (g2 := F0 m 62 ls [.ref (da 2)]) rfl ?_
      refine lv_iload_n hx hb d_T_doWhatIsAgreed_62 rfl (lv_at hl 2 rfl) ?_
      replace hPc := hP.sub (ws' := [(da 2, .inr (2, oD (F 2) (ra 2) (ka 2))), (ra 2, .inl (cr 2, 8, .inl (g 2)))]) [6, 7] rfl
      replace hKc := hK.sub (tys' := [(cr 2, .int)]) [3] rfl
      replace hDc := hD.sub (ws' := [(da 2, .inr (2, oD (F 2) (ra 2) (ka 2))), (ra 2, .inl (cr 2, 8, .inl (g 2)))]) [6, 7] (by decide) rfl
      replace hFc := va_free (wc := [(da 2, .inr (2, oD (F 2) (ra 2) (ka 2))), (ra 2, .inl (cr 2, 8, .inl (g 2)))]) hD hS hA [6, 7] rfl
      refine va_callv (va_runU (C := "VotedTriple$VotedModule") (As := [.int w2]) (rest := []) ⟨hx, hb, hml, hown, hw⟩ (c_C_receive_D l dC dI (da 2) (ra 2) (ka 2) (F 2) (cr 2) (g 2) w2 hF.2.2.2.1 h29 hg.2.2 H.size) (va_cwU (C := "VotedTriple$VotedModule") (owner := "VotedTriple$Processor") (x := ⟨"VotedTriple$VotedModule", "receive", "(I)V"⟩) (y := y_C_receive) 1 hw (gd_l (List.forall_mem_cons.mpr ⟨k_622, List.forall_mem_cons.mpr ⟨k_623, List.forall_mem_cons.mpr ⟨k_624, List.forall_mem_cons.mpr ⟨k_550, List.forall_mem_cons.mpr ⟨k_3, fun _ h => absurd h List.not_mem_nil⟩⟩⟩⟩⟩) (gd (k_551))) rfl rfl rfl rfl (by decide +kernel) ⟨Nat.le_of_ble_eq_true rfl, Nat.le_of_ble_eq_true rfl⟩) ⟨fun a U g mk q => by obtain ⟨q0, q1, qP, qK, qD⟩ := q; exact ⟨q0, q1, qP, va_K.moved (u := U) (U := U.calling g mk a) (Vm.Alike.refl U.vm) qK, qD⟩, va_recv hK hP rfl (q0 := 6) rfl, fun U hU hW => ⟨rfl, by rw [hU], by rw [hU]; exact hPc, va_K.moved hW.alike hKc, hDc.weaken (fun _ _ _ _ => trivial)⟩⟩ rfl rfl hl.1 rfl (lv_room (Nat.le_of_ble_eq_true rfl)) d_T_doWhatIsAgreed_63 ⟨Nat.le_of_ble_eq_true rfl, Nat.le_of_ble_eq_true rfl⟩) hS (fun q _ h => hFc q h) hFc (fun u9 t H1 locs ht hvm hr5 hB hz1 hk1 hS => ?_)
      obtain ⟨g6, rfl⟩ : ∃ z, z = u9 := ⟨_, rfl⟩
      obtain ⟨hP1, hK1, hD1⟩ := hB
      rw [ht] at hP1
      replace hK1 := va_K.moved hvm.symm hK1
      try dsimp only at hr5 hP1 hK1 hD1
      obtain ⟨hr5, hr5E⟩ := hr5
      obtain ⟨hPz, hDz⟩ := va_join (wr := [(h0, .inr (0, oT (upc uT 10 y10) p9 a9 e9 n9 o9)), (a9, .inl (ca, 3, .inr (.inr (.inr (.inr (mo da)))))), (da 0, .inr (2, oD (F 0) (ra 0) (ka 0))), (ra 0, .inl (cr 0, 8, .inl (g 0))), (da 1, .inr (2, oD (F 1) (ra 1) (ka 1))), (ra 1, .inl (cr 1, 8, .inl (g 1))), (n9, .inr (4, [.ref nw9, .int (nI kN)])), (nw9, .inl (cN, 64, .inl wN)), (o9, .inr (5, [.ref ok9, .int (nI ko2)])), (ok9, .inl (cO, 300, .inl kp2))]) (w1 := [(da 2, .inr (2, oD (F 2) (ra 2) (ka 2))), (ra 2, .inl (cr 2, 8, .inl g6))]) hP hD [6, 7] [0, 1, 2, 3, 4, 5, 8, 9, 10, 11] rfl rfl (by decide) (by decide) hk1 hFc hP1 hD1
      clear hP hD hPc hDc hP1 hD1 hFc
      have hP := hPz
      have hD := hDz
      clear hPz hDz
      replace hK := (hK.sub (tys' := [(ca, .object "VotedTriple$VotedModule"), (cr 0, .int), (cr 1, .int), (cN, .int), (cO, .int)]) [0, 1, 2, 4, 5] rfl).app hK1
      clear hK1 hKc
      generalize H1 = H at hP hS ⊢
      replace hP : va_P (dC, dI) classes [(h0, .inr (0, oT (upc uT 10 y10) p9 a9 e9 n9 o9)), (a9, .inl (ca, 3, .inr (.inr (.inr (.inr (mo da)))))), (da 0, .inr (2, oD (F 0) (ra 0) (ka 0))), (ra 0, .inl (cr 0, 8, .inl (g 0))), (da 1, .inr (2, oD (F 1) (ra 1) (ka 1))), (ra 1, .inl (cr 1, 8, .inl (g 1))), (n9, .inr (4, [.ref nw9, .int (nI kN)])), (nw9, .inl (cN, 64, .inl wN)), (o9, .inr (5, [.ref ok9, .int (nI ko2)])), (ok9, .inl (cO, 300, .inl kp2)), (da 2, .inr (2, oD (F 2) (ra 2) (ka 2))), (ra 2, .inl (cr 2, 8, .inl g6))] H := hP
      replace hD : va_D A [(h0, .inr (0, oT (upc uT 10 y10) p9 a9 e9 n9 o9)), (a9, .inl (ca, 3, .inr (.inr (.inr (.inr (mo da)))))), (da 0, .inr (2, oD (F 0) (ra 0) (ka 0))), (ra 0, .inl (cr 0, 8, .inl (g 0))), (da 1, .inr (2, oD (F 1) (ra 1) (ka 1))), (ra 1, .inl (cr 1, 8, .inl (g 1))), (n9, .inr (4, [.ref nw9, .int (nI kN)])), (nw9, .inl (cN, 64, .inl wN)), (o9, .inr (5, [.ref ok9, .int (nI ko2)])), (ok9, .inl (cO, 300, .inl kp2)), (da 2, .inr (2, oD (F 2) (ra 2) (ka 2))), (ra 2, .inl (cr 2, 8, .inl g6))] := hD
      replace hK : va_K (dC, dI) classes [(ca, .object "VotedTriple$VotedModule"), (cr 0, .int), (cr 1, .int), (cN, .int), (cO, .int), (cr 2, .int)] s := hK
      refine W.widen (k := 0) (n := 0) (Nat.le_of_ble_eq_true rfl) (Nat.le_of_ble_eq_true rfl) ?_
      refine lv_iinc (k := 3) (v := 3) hx hb d_T_doWhatIsAgreed_66 hl rfl rfl (by decide) rfl (fun ls hl => ?_)
      replace hl : lv_has ls 4 [(3, .int 3), (0, .ref h0), (1, .ref (da 2)), (2, .int w2)] := hl
      refine lv_goto (tgt := 39) hx hb d_T_doWhatIsAgreed_69 rfl ?_
      have hSq : SP = s_T_doWhatIsAgreed2_cut39_3 uT (upc uT 10 y10 10) (tri (g 0) (g 1) g6) ko2 kp2 w2 := by rw [hSq0, s_T_doWhatIsAgreed2_cut39_2]; try (rw [if_pos hc3]); try (rw [← hr5E, bnd_eq]); all_goals rfl
      replace hl := lv_sub hl (l' := [(0, .ref h0), (1, .ref (da 2)), (2, .int w2), (3, .int 3)]) [1, 2, 3, 0] rfl
      replace hP := hP.sub (ws' := [(h0, .inr (0, oT (upc uT 10 (upc uT 10 y10 10)) p9 a9 e9 n9 o9)), (a9, .inl (ca, 3, .inr (.inr (.inr (.inr (mo da)))))), (da 0, .inr (2, oD (F 0) (ra 0) (ka 0))), (ra 0, .inl (cr 0, 8, .inl (tri (g 0) (g 1) g6 0))), (da 1, .inr (2, oD (F 1) (ra 1) (ka 1))), (ra 1, .inl (cr 1, 8, .inl (tri (g 0) (g 1) g6 1))), (da 2, .inr (2, oD (F 2) (ra 2) (ka 2))), (ra 2, .inl (cr 2, 8, .inl (tri (g 0) (g 1) g6 2))), (n9, .inr (4, [.ref nw9, .int (nI kN)])), (nw9, .inl (cN, 64, .inl wN)), (o9, .inr (5, [.ref ok9, .int (nI ko2)])), (ok9, .inl (cO, 300, .inl kp2))]) [0, 1, 2, 3, 4, 5, 10, 11, 6, 7, 8, 9] rfl
      replace hD := hD.sub (ws' := [(h0, .inr (0, oT (upc uT 10 (upc uT 10 y10 10)) p9 a9 e9 n9 o9)), (a9, .inl (ca, 3, .inr (.inr (.inr (.inr (mo da)))))), (da 0, .inr (2, oD (F 0) (ra 0) (ka 0))), (ra 0, .inl (cr 0, 8, .inl (tri (g 0) (g 1) g6 0))), (da 1, .inr (2, oD (F 1) (ra 1) (ka 1))), (ra 1, .inl (cr 1, 8, .inl (tri (g 0) (g 1) g6 1))), (da 2, .inr (2, oD (F 2) (ra 2) (ka 2))), (ra 2, .inl (cr 2, 8, .inl (tri (g 0) (g 1) g6 2))), (n9, .inr (4, [.ref nw9, .int (nI kN)])), (nw9, .inl (cN, 64, .inl wN)), (o9, .inr (5, [.ref ok9, .int (nI ko2)])), (ok9, .inl (cO, 300, .inl kp2))]) [0, 1, 2, 3, 4, 5, 10, 11, 6, 7, 8, 9] (by decide) rfl
      exact cut39_3 (upc uT 10 y10 10) (tri (g 0) (g 1) g6) ko2 kp2 w2 _ _ _ (⟨hg.1, hg.2.1, hr5⟩) h29 h39 hSq hl hP hD hS
  have cut39_1 : ∀ (y10 : Int32) (g : Nat → Nat → Int32) (ko2 : Nat) (kp2 : Nat → Int32) (w2 : Int32) (ls : Array Slot) (H : Heap) (locs : List Loc), g3 g → is16 w2 → ko2 ≤ ko + 1 → SP = s_T_doWhatIsAgreed2_cut39_1 uT F y10 g ko2 kp2 w2 →  lv_has ls 4 [(0, .ref h0), (1, .ref (da 2)), (2, .int w2), (3, .int 1)] → va_P (dC, dI) classes [(h0, .inr (0, oT (upc uT 10 y10) p9 a9 e9 n9 o9)), (a9, .inl (ca, 3, .inr (.inr (.inr (.inr (mo da)))))), (da 0, .inr (2, oD (F 0) (ra 0) (ka 0))), (ra 0, .inl (cr 0, 8, .inl (g 0))), (da 1, .inr (2, oD (F 1) (ra 1) (ka 1))), (ra 1, .inl (cr 1, 8, .inl (g 1))), (da 2, .inr (2, oD (F 2) (ra 2) (ka 2))), (ra 2, .inl (cr 2, 8, .inl (g 2))), (n9, .inr (4, [.ref nw9, .int (nI kN)])), (nw9, .inl (cN, 64, .inl wN)), (o9, .inr (5, [.ref ok9, .int (nI ko2)])), (ok9, .inl (cO, 300, .inl kp2))] H → va_D A [(h0, .inr (0, oT (upc uT 10 y10) p9 a9 e9 n9 o9)), (a9, .inl (ca, 3, .inr (.inr (.inr (.inr (mo da)))))), (da 0, .inr (2, oD (F 0) (ra 0) (ka 0))), (ra 0, .inl (cr 0, 8, .inl (g 0))), (da 1, .inr (2, oD (F 1) (ra 1) (ka 1))), (ra 1, .inl (cr 1, 8, .inl (g 1))), (da 2, .inr (2, oD (F 2) (ra 2) (ka 2))), (ra 2, .inl (cr 2, 8, .inl (g 2))), (n9, .inr (4, [.ref nw9, .int (nI kN)])), (nw9, .inl (cN, 64, .inl wN)), (o9, .inr (5, [.ref ok9, .int (nI ko2)])), (ok9, .inl (cO, 300, .inl kp2))] → va_S A s.heap H locs → W p l e (headSpec (tbw y_T_doWhatIsAgreed b_T_doWhatIsAgreed 4 none) ({ frames := 2, cells := 0, slots := 0, locals := 42 })).room s m ([.ref h0, .ref (da 2)] : List Value).toArray below meth c H locs 0 0 (MQ below (va_Qv (fun (u9 : (Nat → Nat → Int32) × Nat × (Nat → Int32) × Int32) => match u9 with | (g2, ko2, kp2, y10) => (g3 g2 ∧ ko2 ≤ ko + 1) ∧ (g2, ko2, kp2, y10) = SP) (fun (u9 : (Nat → Nat → Int32) × Nat × (Nat → Int32) × Int32) t => match u9 with | (g2, ko2, kp2, y10) => va_P (dC, dI) classes [(h0, .inr (0, oT (upc uT 10 y10) p9 a9 e9 n9 o9)), (a9, .inl (ca, 3, .inr (.inr (.inr (.inr (mo da)))))), (da 0, .inr (2, oD (F 0) (ra 0) (ka 0))), (ra 0, .inl (cr 0, 8, .inl (g2 0))), (da 1, .inr (2, oD (F 1) (ra 1) (ka 1))), (ra 1, .inl (cr 1, 8, .inl (g2 1))), (da 2, .inr (2, oD (F 2) (ra 2) (ka 2))), (ra 2, .inl (cr 2, 8, .inl (g2 2))), (n9, .inr (4, [.ref nw9, .int (nI kN)])), (nw9, .inl (cN, 64, .inl wN)), (o9, .inr (5, [.ref ok9, .int (nI ko2)])), (ok9, .inl (cO, 300, .inl kp2))] t.heap ∧ va_K (dC, dI) classes [(ca, .object "VotedTriple$VotedModule"), (cr 0, .int), (cr 1, .int), (cr 2, .int), (cN, .int), (cO, .int)] t ∧ va_D A [(h0, .inr (0, oT (upc uT 10 y10) p9 a9 e9 n9 o9)), (a9, .inl (ca, 3, .inr (.inr (.inr (.inr (mo da)))))), (da 0, .inr (2, oD (F 0) (ra 0) (ka 0))), (ra 0, .inl (cr 0, 8, .inl (g2 0))), (da 1, .inr (2, oD (F 1) (ra 1) (ka 1))), (ra 1, .inl (cr 1, 8, .inl (g2 1))), (da 2, .inr (2, oD (F 2) (ra 2) (ka 2))), (ra 2, .inl (cr 2, 8, .inl (g2 2))), (n9, .inr (4, [.ref nw9, .int (nI kN)])), (nw9, .inl (cN, 64, .inl wN)), (o9, .inr (5, [.ref ok9, .int (nI ko2)])), (ok9, .inl (cO, 300, .inl kp2))]) A) ([.ref h0, .ref (da 2)] : List Value).toArray s 0 0 A) (F0 m 39 ls []) := by
    intro y10 g ko2 kp2 w2 ls H locs hg h29 h39 hSq0 hl hP hD hS
    clear cut39_3
    refine lv_iload_n hx hb d_T_doWhatIsAgreed_39 rfl (lv_at hl 3 rfl) ?_
    refine lv_iconst (v := 3) hx hb d_T_doWhatIsAgreed_40 (by decide) ?_
    refine lv_icmp_ge (tgt := 72) hx hb d_T_doWhatIsAgreed_41 rfl (fun hc7 => by first | exact absurd hc7 (by decide) | exact absurd (by decide) hc7) (fun hc7 => ?_)
    refine lv_aload_n hx hb d_T_doWhatIsAgreed_44 rfl (lv_at hl 0 rfl) ?_
    refine va_get (D := (dC, dI)) (ci := 0) (v := .ref a9) (C := "VotedTriple") (T := F_T) (N := 11) hx hb hw in_T hown hK hP 0 rfl rfl 1 (by decide) (hw _ k_195) (fun _ h9 => h9) rfl d_T_doWhatIsAgreed_45 ?_
    refine lv_iload_n hx hb d_T_doWhatIsAgreed_48 rfl (lv_at hl 3 rfl) ?_
    refine va_aldq hx hb hK hP 1 0 rfl rfl (by unfold vp_in; decide) d_T_doWhatIsAgreed_49 ?_
    refine W.eq (g2 := F0 m 50 ls [.ref (da 1)]) rfl ?_
    refine va_get (D := (dC, dI)) (ci := 2) (v := .int (F 1 8)) (C := "VotedTriple$VotedModule") (T := F_D) (N := 19) hx hb hw in_D hown hK hP 4 rfl rfl 8 (by decide) (hw _ k_143) (fun _ h9 => h9) rfl d_T_doWhatIsAgreed_50 ?_
    refine lv_if_ne (tgt := 66) hx hb d_T_doWhatIsAgreed_53 rfl (fun hc8 => ?_) (fun hc8 => ?_)
    · --  ¬ (F 1 8) = 0
      refine lv_iinc (k := 3) (v := 2) hx hb d_T_doWhatIsAgreed_66 hl rfl rfl (by decide) rfl (fun ls hl => ?_)
      replace hl : lv_has ls 4 [(3, .int 2), (0, .ref h0), (1, .ref (da 2)), (2, .int w2)] := hl
      refine lv_goto (tgt := 39) hx hb d_T_doWhatIsAgreed_69 rfl ?_
      have hSq : SP = s_T_doWhatIsAgreed2_cut39_2 uT F (upc uT 10 y10 10) g ko2 kp2 w2 := by rw [hSq0, s_T_doWhatIsAgreed2_cut39_1]; try (rw [if_neg hc8]); all_goals rfl
      replace hl := lv_sub hl (l' := [(0, .ref h0), (1, .ref (da 2)), (2, .int w2), (3, .int 2)]) [1, 2, 3, 0] rfl
      replace hP := hP.sub (ws' := [(h0, .inr (0, oT (upc uT 10 (upc uT 10 y10 10)) p9 a9 e9 n9 o9)), (a9, .inl (ca, 3, .inr (.inr (.inr (.inr (mo da)))))), (da 0, .inr (2, oD (F 0) (ra 0) (ka 0))), (ra 0, .inl (cr 0, 8, .inl (g 0))), (da 1, .inr (2, oD (F 1) (ra 1) (ka 1))), (ra 1, .inl (cr 1, 8, .inl (g 1))), (da 2, .inr (2, oD (F 2) (ra 2) (ka 2))), (ra 2, .inl (cr 2, 8, .inl (g 2))), (n9, .inr (4, [.ref nw9, .int (nI kN)])), (nw9, .inl (cN, 64, .inl wN)), (o9, .inr (5, [.ref ok9, .int (nI ko2)])), (ok9, .inl (cO, 300, .inl kp2))]) [0, 1, 2, 3, 4, 5, 6, 7, 8, 9, 10, 11] rfl
      replace hD := hD.sub (ws' := [(h0, .inr (0, oT (upc uT 10 (upc uT 10 y10 10)) p9 a9 e9 n9 o9)), (a9, .inl (ca, 3, .inr (.inr (.inr (.inr (mo da)))))), (da 0, .inr (2, oD (F 0) (ra 0) (ka 0))), (ra 0, .inl (cr 0, 8, .inl (g 0))), (da 1, .inr (2, oD (F 1) (ra 1) (ka 1))), (ra 1, .inl (cr 1, 8, .inl (g 1))), (da 2, .inr (2, oD (F 2) (ra 2) (ka 2))), (ra 2, .inl (cr 2, 8, .inl (g 2))), (n9, .inr (4, [.ref nw9, .int (nI kN)])), (nw9, .inl (cN, 64, .inl wN)), (o9, .inr (5, [.ref ok9, .int (nI ko2)])), (ok9, .inl (cO, 300, .inl kp2))]) [0, 1, 2, 3, 4, 5, 6, 7, 8, 9, 10, 11] (by decide) rfl
      exact cut39_2 (upc uT 10 y10 10) g ko2 kp2 w2 _ _ _ hg h29 h39 hSq hl hP hD hS
    · --  (F 1 8) = 0
      refine lv_aload_n hx hb d_T_doWhatIsAgreed_56 rfl (lv_at hl 0 rfl) ?_
      refine va_get (D := (dC, dI)) (ci := 0) (v := .ref a9) (C := "VotedTriple") (T := F_T) (N := 11) hx hb hw in_T hown hK hP 0 rfl rfl 1 (by decide) (hw _ k_195) (fun _ h9 => h9) rfl d_T_doWhatIsAgreed_57 ?_
      refine lv_iload_n hx hb d_T_doWhatIsAgreed_60 rfl (lv_at hl 3 rfl) ?_
      refine va_aldq hx hb hK hP 1 0 rfl rfl (by unfold vp_in; decide) d_T_doWhatIsAgreed_61 ?_
      refine W.eq (g2 := F0 m 62 ls [.ref (da 1)]) rfl ?_
      refine lv_iload_n hx hb d_T_doWhatIsAgreed_62 rfl (lv_at hl 2 rfl) ?_
      replace hPc := hP.sub (ws' := [(da 1, .inr (2, oD (F 1) (ra 1) (ka 1))), (ra 1, .inl (cr 1, 8, .inl (g 1)))]) [4, 5] rfl
      replace hKc := hK.sub (tys' := [(cr 1, .int)]) [2] rfl
      replace hDc := hD.sub (ws' := [(da 1, .inr (2, oD (F 1) (ra 1) (ka 1))), (ra 1, .inl (cr 1, 8, .inl (g 1)))]) [4, 5] (by decide) rfl
      replace hFc := va_free (wc := [(da 1, .inr (2, oD (F 1) (ra 1) (ka 1))), (ra 1, .inl (cr 1, 8, .inl (g 1)))]) hD hS hA [4, 5] rfl
      refine va_callv (va_runU (C := "VotedTriple$VotedModule") (As := [.int w2]) (rest := []) ⟨hx, hb, hml, hown, hw⟩ (c_C_receive_D l dC dI (da 1) (ra 1) (ka 1) (F 1) (cr 1) (g 1) w2 hF.2.1.2.1 h29 hg.2.1 H.size) (va_cwU (C := "VotedTriple$VotedModule") (owner := "VotedTriple$Processor") (x := ⟨"VotedTriple$VotedModule", "receive", "(I)V"⟩) (y := y_C_receive) 1 hw (gd_l (List.forall_mem_cons.mpr ⟨k_622, List.forall_mem_cons.mpr ⟨k_623, List.forall_mem_cons.mpr ⟨k_624, List.forall_mem_cons.mpr ⟨k_550, List.forall_mem_cons.mpr ⟨k_3, fun _ h => absurd h List.not_mem_nil⟩⟩⟩⟩⟩) (gd (k_551))) rfl rfl rfl rfl (by decide +kernel) ⟨Nat.le_of_ble_eq_true rfl, Nat.le_of_ble_eq_true rfl⟩) ⟨fun a U g mk q => by obtain ⟨q0, q1, qP, qK, qD⟩ := q; exact ⟨q0, q1, qP, va_K.moved (u := U) (U := U.calling g mk a) (Vm.Alike.refl U.vm) qK, qD⟩, va_recv hK hP rfl (q0 := 4) rfl, fun U hU hW => ⟨rfl, by rw [hU], by rw [hU]; exact hPc, va_K.moved hW.alike hKc, hDc.weaken (fun _ _ _ _ => trivial)⟩⟩ rfl rfl hl.1 rfl (lv_room (Nat.le_of_ble_eq_true rfl)) d_T_doWhatIsAgreed_63 ⟨Nat.le_of_ble_eq_true rfl, Nat.le_of_ble_eq_true rfl⟩) hS (fun q _ h => hFc q h) hFc (fun u9 t H1 locs ht hvm hr10 hB hz1 hk1 hS => ?_)
      obtain ⟨g11, rfl⟩ : ∃ z, z = u9 := ⟨_, rfl⟩
      obtain ⟨hP1, hK1, hD1⟩ := hB
      rw [ht] at hP1
      replace hK1 := va_K.moved hvm.symm hK1
      try dsimp only at hr10 hP1 hK1 hD1
      obtain ⟨hr10, hr10E⟩ := hr10
      obtain ⟨hPz, hDz⟩ := va_join (wr := [(h0, .inr (0, oT (upc uT 10 y10) p9 a9 e9 n9 o9)), (a9, .inl (ca, 3, .inr (.inr (.inr (.inr (mo da)))))), (da 0, .inr (2, oD (F 0) (ra 0) (ka 0))), (ra 0, .inl (cr 0, 8, .inl (g 0))), (da 2, .inr (2, oD (F 2) (ra 2) (ka 2))), (ra 2, .inl (cr 2, 8, .inl (g 2))), (n9, .inr (4, [.ref nw9, .int (nI kN)])), (nw9, .inl (cN, 64, .inl wN)), (o9, .inr (5, [.ref ok9, .int (nI ko2)])), (ok9, .inl (cO, 300, .inl kp2))]) (w1 := [(da 1, .inr (2, oD (F 1) (ra 1) (ka 1))), (ra 1, .inl (cr 1, 8, .inl g11))]) hP hD [4, 5] [0, 1, 2, 3, 6, 7, 8, 9, 10, 11] rfl rfl (by decide) (by decide) hk1 hFc hP1 hD1
      clear hP hD hPc hDc hP1 hD1 hFc
      have hP := hPz
      have hD := hDz
      clear hPz hDz
      replace hK := (hK.sub (tys' := [(ca, .object "VotedTriple$VotedModule"), (cr 0, .int), (cr 2, .int), (cN, .int), (cO, .int)]) [0, 1, 3, 4, 5] rfl).app hK1
      clear hK1 hKc
      generalize H1 = H at hP hS ⊢
      replace hP : va_P (dC, dI) classes [(h0, .inr (0, oT (upc uT 10 y10) p9 a9 e9 n9 o9)), (a9, .inl (ca, 3, .inr (.inr (.inr (.inr (mo da)))))), (da 0, .inr (2, oD (F 0) (ra 0) (ka 0))), (ra 0, .inl (cr 0, 8, .inl (g 0))), (da 2, .inr (2, oD (F 2) (ra 2) (ka 2))), (ra 2, .inl (cr 2, 8, .inl (g 2))), (n9, .inr (4, [.ref nw9, .int (nI kN)])), (nw9, .inl (cN, 64, .inl wN)), (o9, .inr (5, [.ref ok9, .int (nI ko2)])), (ok9, .inl (cO, 300, .inl kp2)), (da 1, .inr (2, oD (F 1) (ra 1) (ka 1))), (ra 1, .inl (cr 1, 8, .inl g11))] H := hP
      replace hD : va_D A [(h0, .inr (0, oT (upc uT 10 y10) p9 a9 e9 n9 o9)), (a9, .inl (ca, 3, .inr (.inr (.inr (.inr (mo da)))))), (da 0, .inr (2, oD (F 0) (ra 0) (ka 0))), (ra 0, .inl (cr 0, 8, .inl (g 0))), (da 2, .inr (2, oD (F 2) (ra 2) (ka 2))), (ra 2, .inl (cr 2, 8, .inl (g 2))), (n9, .inr (4, [.ref nw9, .int (nI kN)])), (nw9, .inl (cN, 64, .inl wN)), (o9, .inr (5, [.ref ok9, .int (nI ko2)])), (ok9, .inl (cO, 300, .inl kp2)), (da 1, .inr (2, oD (F 1) (ra 1) (ka 1))), (ra 1, .inl (cr 1, 8, .inl g11))] := hD
      replace hK : va_K (dC, dI) classes [(ca, .object "VotedTriple$VotedModule"), (cr 0, .int), (cr 2, .int), (cN, .int), (cO, .int), (cr 1, .int)] s := hK
      refine W.widen (k := 0) (n := 0) (Nat.le_of_ble_eq_true rfl) (Nat.le_of_ble_eq_true rfl) ?_
      refine lv_iinc (k := 3) (v := 2) hx hb d_T_doWhatIsAgreed_66 hl rfl rfl (by decide) rfl (fun ls hl => ?_)
      replace hl : lv_has ls 4 [(3, .int 2), (0, .ref h0), (1, .ref (da 2)), (2, .int w2)] := hl
      refine lv_goto (tgt := 39) hx hb d_T_doWhatIsAgreed_69 rfl ?_
      have hSq : SP = s_T_doWhatIsAgreed2_cut39_2 uT F (upc uT 10 y10 10) (tri (g 0) g11 (g 2)) ko2 kp2 w2 := by rw [hSq0, s_T_doWhatIsAgreed2_cut39_1]; try (rw [if_pos hc8]); try (rw [← hr10E, bnd_eq]); all_goals rfl
      replace hl := lv_sub hl (l' := [(0, .ref h0), (1, .ref (da 2)), (2, .int w2), (3, .int 2)]) [1, 2, 3, 0] rfl
      replace hP := hP.sub (ws' := [(h0, .inr (0, oT (upc uT 10 (upc uT 10 y10 10)) p9 a9 e9 n9 o9)), (a9, .inl (ca, 3, .inr (.inr (.inr (.inr (mo da)))))), (da 0, .inr (2, oD (F 0) (ra 0) (ka 0))), (ra 0, .inl (cr 0, 8, .inl (tri (g 0) g11 (g 2) 0))), (da 1, .inr (2, oD (F 1) (ra 1) (ka 1))), (ra 1, .inl (cr 1, 8, .inl (tri (g 0) g11 (g 2) 1))), (da 2, .inr (2, oD (F 2) (ra 2) (ka 2))), (ra 2, .inl (cr 2, 8, .inl (tri (g 0) g11 (g 2) 2))), (n9, .inr (4, [.ref nw9, .int (nI kN)])), (nw9, .inl (cN, 64, .inl wN)), (o9, .inr (5, [.ref ok9, .int (nI ko2)])), (ok9, .inl (cO, 300, .inl kp2))]) [0, 1, 2, 3, 10, 11, 4, 5, 6, 7, 8, 9] rfl
      replace hD := hD.sub (ws' := [(h0, .inr (0, oT (upc uT 10 (upc uT 10 y10 10)) p9 a9 e9 n9 o9)), (a9, .inl (ca, 3, .inr (.inr (.inr (.inr (mo da)))))), (da 0, .inr (2, oD (F 0) (ra 0) (ka 0))), (ra 0, .inl (cr 0, 8, .inl (tri (g 0) g11 (g 2) 0))), (da 1, .inr (2, oD (F 1) (ra 1) (ka 1))), (ra 1, .inl (cr 1, 8, .inl (tri (g 0) g11 (g 2) 1))), (da 2, .inr (2, oD (F 2) (ra 2) (ka 2))), (ra 2, .inl (cr 2, 8, .inl (tri (g 0) g11 (g 2) 2))), (n9, .inr (4, [.ref nw9, .int (nI kN)])), (nw9, .inl (cN, 64, .inl wN)), (o9, .inr (5, [.ref ok9, .int (nI ko2)])), (ok9, .inl (cO, 300, .inl kp2))]) [0, 1, 2, 3, 10, 11, 4, 5, 6, 7, 8, 9] (by decide) rfl
      exact cut39_2 (upc uT 10 y10 10) (tri (g 0) g11 (g 2)) ko2 kp2 w2 _ _ _ (⟨hg.1, hr10, hg.2.2⟩) h29 h39 hSq hl hP hD hS
  have cut39_0 : ∀ (y10 : Int32) (g : Nat → Nat → Int32) (ko2 : Nat) (kp2 : Nat → Int32) (w2 : Int32) (ls : Array Slot) (H : Heap) (locs : List Loc), g3 g → is16 w2 → ko2 ≤ ko + 1 → SP = s_T_doWhatIsAgreed2_cut39_0 uT F y10 g ko2 kp2 w2 →  lv_has ls 4 [(0, .ref h0), (1, .ref (da 2)), (2, .int w2), (3, .int 0)] → va_P (dC, dI) classes [(h0, .inr (0, oT (upc uT 10 y10) p9 a9 e9 n9 o9)), (a9, .inl (ca, 3, .inr (.inr (.inr (.inr (mo da)))))), (da 0, .inr (2, oD (F 0) (ra 0) (ka 0))), (ra 0, .inl (cr 0, 8, .inl (g 0))), (da 1, .inr (2, oD (F 1) (ra 1) (ka 1))), (ra 1, .inl (cr 1, 8, .inl (g 1))), (da 2, .inr (2, oD (F 2) (ra 2) (ka 2))), (ra 2, .inl (cr 2, 8, .inl (g 2))), (n9, .inr (4, [.ref nw9, .int (nI kN)])), (nw9, .inl (cN, 64, .inl wN)), (o9, .inr (5, [.ref ok9, .int (nI ko2)])), (ok9, .inl (cO, 300, .inl kp2))] H → va_D A [(h0, .inr (0, oT (upc uT 10 y10) p9 a9 e9 n9 o9)), (a9, .inl (ca, 3, .inr (.inr (.inr (.inr (mo da)))))), (da 0, .inr (2, oD (F 0) (ra 0) (ka 0))), (ra 0, .inl (cr 0, 8, .inl (g 0))), (da 1, .inr (2, oD (F 1) (ra 1) (ka 1))), (ra 1, .inl (cr 1, 8, .inl (g 1))), (da 2, .inr (2, oD (F 2) (ra 2) (ka 2))), (ra 2, .inl (cr 2, 8, .inl (g 2))), (n9, .inr (4, [.ref nw9, .int (nI kN)])), (nw9, .inl (cN, 64, .inl wN)), (o9, .inr (5, [.ref ok9, .int (nI ko2)])), (ok9, .inl (cO, 300, .inl kp2))] → va_S A s.heap H locs → W p l e (headSpec (tbw y_T_doWhatIsAgreed b_T_doWhatIsAgreed 4 none) ({ frames := 2, cells := 0, slots := 0, locals := 42 })).room s m ([.ref h0, .ref (da 2)] : List Value).toArray below meth c H locs 0 0 (MQ below (va_Qv (fun (u9 : (Nat → Nat → Int32) × Nat × (Nat → Int32) × Int32) => match u9 with | (g2, ko2, kp2, y10) => (g3 g2 ∧ ko2 ≤ ko + 1) ∧ (g2, ko2, kp2, y10) = SP) (fun (u9 : (Nat → Nat → Int32) × Nat × (Nat → Int32) × Int32) t => match u9 with | (g2, ko2, kp2, y10) => va_P (dC, dI) classes [(h0, .inr (0, oT (upc uT 10 y10) p9 a9 e9 n9 o9)), (a9, .inl (ca, 3, .inr (.inr (.inr (.inr (mo da)))))), (da 0, .inr (2, oD (F 0) (ra 0) (ka 0))), (ra 0, .inl (cr 0, 8, .inl (g2 0))), (da 1, .inr (2, oD (F 1) (ra 1) (ka 1))), (ra 1, .inl (cr 1, 8, .inl (g2 1))), (da 2, .inr (2, oD (F 2) (ra 2) (ka 2))), (ra 2, .inl (cr 2, 8, .inl (g2 2))), (n9, .inr (4, [.ref nw9, .int (nI kN)])), (nw9, .inl (cN, 64, .inl wN)), (o9, .inr (5, [.ref ok9, .int (nI ko2)])), (ok9, .inl (cO, 300, .inl kp2))] t.heap ∧ va_K (dC, dI) classes [(ca, .object "VotedTriple$VotedModule"), (cr 0, .int), (cr 1, .int), (cr 2, .int), (cN, .int), (cO, .int)] t ∧ va_D A [(h0, .inr (0, oT (upc uT 10 y10) p9 a9 e9 n9 o9)), (a9, .inl (ca, 3, .inr (.inr (.inr (.inr (mo da)))))), (da 0, .inr (2, oD (F 0) (ra 0) (ka 0))), (ra 0, .inl (cr 0, 8, .inl (g2 0))), (da 1, .inr (2, oD (F 1) (ra 1) (ka 1))), (ra 1, .inl (cr 1, 8, .inl (g2 1))), (da 2, .inr (2, oD (F 2) (ra 2) (ka 2))), (ra 2, .inl (cr 2, 8, .inl (g2 2))), (n9, .inr (4, [.ref nw9, .int (nI kN)])), (nw9, .inl (cN, 64, .inl wN)), (o9, .inr (5, [.ref ok9, .int (nI ko2)])), (ok9, .inl (cO, 300, .inl kp2))]) A) ([.ref h0, .ref (da 2)] : List Value).toArray s 0 0 A) (F0 m 39 ls []) := by
    intro y10 g ko2 kp2 w2 ls H locs hg h29 h39 hSq0 hl hP hD hS
    clear cut39_3 cut39_2
    refine lv_iload_n hx hb d_T_doWhatIsAgreed_39 rfl (lv_at hl 3 rfl) ?_
    refine lv_iconst (v := 3) hx hb d_T_doWhatIsAgreed_40 (by decide) ?_
    refine lv_icmp_ge (tgt := 72) hx hb d_T_doWhatIsAgreed_41 rfl (fun hc12 => by first | exact absurd hc12 (by decide) | exact absurd (by decide) hc12) (fun hc12 => ?_)
    refine lv_aload_n hx hb d_T_doWhatIsAgreed_44 rfl (lv_at hl 0 rfl) ?_
    refine va_get (D := (dC, dI)) (ci := 0) (v := .ref a9) (C := "VotedTriple") (T := F_T) (N := 11) hx hb hw in_T hown hK hP 0 rfl rfl 1 (by decide) (hw _ k_195) (fun _ h9 => h9) rfl d_T_doWhatIsAgreed_45 ?_
    refine lv_iload_n hx hb d_T_doWhatIsAgreed_48 rfl (lv_at hl 3 rfl) ?_
    refine va_aldq hx hb hK hP 1 0 rfl rfl (by unfold vp_in; decide) d_T_doWhatIsAgreed_49 ?_
    refine W.eq (g2 := F0 m 50 ls [.ref (da 0)]) rfl ?_
    refine va_get (D := (dC, dI)) (ci := 2) (v := .int (F 0 8)) (C := "VotedTriple$VotedModule") (T := F_D) (N := 19) hx hb hw in_D hown hK hP 2 rfl rfl 8 (by decide) (hw _ k_143) (fun _ h9 => h9) rfl d_T_doWhatIsAgreed_50 ?_
    refine lv_if_ne (tgt := 66) hx hb d_T_doWhatIsAgreed_53 rfl (fun hc13 => ?_) (fun hc13 => ?_)
    · --  ¬ (F 0 8) = 0
      refine lv_iinc (k := 3) (v := 1) hx hb d_T_doWhatIsAgreed_66 hl rfl rfl (by decide) rfl (fun ls hl => ?_)
      replace hl : lv_has ls 4 [(3, .int 1), (0, .ref h0), (1, .ref (da 2)), (2, .int w2)] := hl
      refine lv_goto (tgt := 39) hx hb d_T_doWhatIsAgreed_69 rfl ?_
      have hSq : SP = s_T_doWhatIsAgreed2_cut39_1 uT F (upc uT 10 y10 10) g ko2 kp2 w2 := by rw [hSq0, s_T_doWhatIsAgreed2_cut39_0]; try (rw [if_neg hc13]); all_goals rfl
      replace hl := lv_sub hl (l' := [(0, .ref h0), (1, .ref (da 2)), (2, .int w2), (3, .int 1)]) [1, 2, 3, 0] rfl
      replace hP := hP.sub (ws' := [(h0, .inr (0, oT (upc uT 10 (upc uT 10 y10 10)) p9 a9 e9 n9 o9)), (a9, .inl (ca, 3, .inr (.inr (.inr (.inr (mo da)))))), (da 0, .inr (2, oD (F 0) (ra 0) (ka 0))), (ra 0, .inl (cr 0, 8, .inl (g 0))), (da 1, .inr (2, oD (F 1) (ra 1) (ka 1))), (ra 1, .inl (cr 1, 8, .inl (g 1))), (da 2, .inr (2, oD (F 2) (ra 2) (ka 2))), (ra 2, .inl (cr 2, 8, .inl (g 2))), (n9, .inr (4, [.ref nw9, .int (nI kN)])), (nw9, .inl (cN, 64, .inl wN)), (o9, .inr (5, [.ref ok9, .int (nI ko2)])), (ok9, .inl (cO, 300, .inl kp2))]) [0, 1, 2, 3, 4, 5, 6, 7, 8, 9, 10, 11] rfl
      replace hD := hD.sub (ws' := [(h0, .inr (0, oT (upc uT 10 (upc uT 10 y10 10)) p9 a9 e9 n9 o9)), (a9, .inl (ca, 3, .inr (.inr (.inr (.inr (mo da)))))), (da 0, .inr (2, oD (F 0) (ra 0) (ka 0))), (ra 0, .inl (cr 0, 8, .inl (g 0))), (da 1, .inr (2, oD (F 1) (ra 1) (ka 1))), (ra 1, .inl (cr 1, 8, .inl (g 1))), (da 2, .inr (2, oD (F 2) (ra 2) (ka 2))), (ra 2, .inl (cr 2, 8, .inl (g 2))), (n9, .inr (4, [.ref nw9, .int (nI kN)])), (nw9, .inl (cN, 64, .inl wN)), (o9, .inr (5, [.ref ok9, .int (nI ko2)])), (ok9, .inl (cO, 300, .inl kp2))]) [0, 1, 2, 3, 4, 5, 6, 7, 8, 9, 10, 11] (by decide) rfl
      exact cut39_1 (upc uT 10 y10 10) g ko2 kp2 w2 _ _ _ hg h29 h39 hSq hl hP hD hS
    · --  (F 0 8) = 0
      refine lv_aload_n hx hb d_T_doWhatIsAgreed_56 rfl (lv_at hl 0 rfl) ?_
      refine va_get (D := (dC, dI)) (ci := 0) (v := .ref a9) (C := "VotedTriple") (T := F_T) (N := 11) hx hb hw in_T hown hK hP 0 rfl rfl 1 (by decide) (hw _ k_195) (fun _ h9 => h9) rfl d_T_doWhatIsAgreed_57 ?_
      refine lv_iload_n hx hb d_T_doWhatIsAgreed_60 rfl (lv_at hl 3 rfl) ?_
      refine va_aldq hx hb hK hP 1 0 rfl rfl (by unfold vp_in; decide) d_T_doWhatIsAgreed_61 ?_
      refine W.eq (g2 := F0 m 62 ls [.ref (da 0)]) rfl ?_
      refine lv_iload_n hx hb d_T_doWhatIsAgreed_62 rfl (lv_at hl 2 rfl) ?_
      replace hPc := hP.sub (ws' := [(da 0, .inr (2, oD (F 0) (ra 0) (ka 0))), (ra 0, .inl (cr 0, 8, .inl (g 0)))]) [2, 3] rfl
      replace hKc := hK.sub (tys' := [(cr 0, .int)]) [1] rfl
      replace hDc := hD.sub (ws' := [(da 0, .inr (2, oD (F 0) (ra 0) (ka 0))), (ra 0, .inl (cr 0, 8, .inl (g 0)))]) [2, 3] (by decide) rfl
      replace hFc := va_free (wc := [(da 0, .inr (2, oD (F 0) (ra 0) (ka 0))), (ra 0, .inl (cr 0, 8, .inl (g 0)))]) hD hS hA [2, 3] rfl
      refine va_callv (va_runU (C := "VotedTriple$VotedModule") (As := [.int w2]) (rest := []) ⟨hx, hb, hml, hown, hw⟩ (c_C_receive_D l dC dI (da 0) (ra 0) (ka 0) (F 0) (cr 0) (g 0) w2 hF.1.2.1 h29 hg.1 H.size) (va_cwU (C := "VotedTriple$VotedModule") (owner := "VotedTriple$Processor") (x := ⟨"VotedTriple$VotedModule", "receive", "(I)V"⟩) (y := y_C_receive) 1 hw (gd_l (List.forall_mem_cons.mpr ⟨k_622, List.forall_mem_cons.mpr ⟨k_623, List.forall_mem_cons.mpr ⟨k_624, List.forall_mem_cons.mpr ⟨k_550, List.forall_mem_cons.mpr ⟨k_3, fun _ h => absurd h List.not_mem_nil⟩⟩⟩⟩⟩) (gd (k_551))) rfl rfl rfl rfl (by decide +kernel) ⟨Nat.le_of_ble_eq_true rfl, Nat.le_of_ble_eq_true rfl⟩) ⟨fun a U g mk q => by obtain ⟨q0, q1, qP, qK, qD⟩ := q; exact ⟨q0, q1, qP, va_K.moved (u := U) (U := U.calling g mk a) (Vm.Alike.refl U.vm) qK, qD⟩, va_recv hK hP rfl (q0 := 2) rfl, fun U hU hW => ⟨rfl, by rw [hU], by rw [hU]; exact hPc, va_K.moved hW.alike hKc, hDc.weaken (fun _ _ _ _ => trivial)⟩⟩ rfl rfl hl.1 rfl (lv_room (Nat.le_of_ble_eq_true rfl)) d_T_doWhatIsAgreed_63 ⟨Nat.le_of_ble_eq_true rfl, Nat.le_of_ble_eq_true rfl⟩) hS (fun q _ h => hFc q h) hFc (fun u9 t H1 locs ht hvm hr15 hB hz1 hk1 hS => ?_)
      obtain ⟨g16, rfl⟩ : ∃ z, z = u9 := ⟨_, rfl⟩
      obtain ⟨hP1, hK1, hD1⟩ := hB
      rw [ht] at hP1
      replace hK1 := va_K.moved hvm.symm hK1
      try dsimp only at hr15 hP1 hK1 hD1
      obtain ⟨hr15, hr15E⟩ := hr15
      obtain ⟨hPz, hDz⟩ := va_join (wr := [(h0, .inr (0, oT (upc uT 10 y10) p9 a9 e9 n9 o9)), (a9, .inl (ca, 3, .inr (.inr (.inr (.inr (mo da)))))), (da 1, .inr (2, oD (F 1) (ra 1) (ka 1))), (ra 1, .inl (cr 1, 8, .inl (g 1))), (da 2, .inr (2, oD (F 2) (ra 2) (ka 2))), (ra 2, .inl (cr 2, 8, .inl (g 2))), (n9, .inr (4, [.ref nw9, .int (nI kN)])), (nw9, .inl (cN, 64, .inl wN)), (o9, .inr (5, [.ref ok9, .int (nI ko2)])), (ok9, .inl (cO, 300, .inl kp2))]) (w1 := [(da 0, .inr (2, oD (F 0) (ra 0) (ka 0))), (ra 0, .inl (cr 0, 8, .inl g16))]) hP hD [2, 3] [0, 1, 4, 5, 6, 7, 8, 9, 10, 11] rfl rfl (by decide) (by decide) hk1 hFc hP1 hD1
      clear hP hD hPc hDc hP1 hD1 hFc
      have hP := hPz
      have hD := hDz
      clear hPz hDz
      replace hK := (hK.sub (tys' := [(ca, .object "VotedTriple$VotedModule"), (cr 1, .int), (cr 2, .int), (cN, .int), (cO, .int)]) [0, 2, 3, 4, 5] rfl).app hK1
      clear hK1 hKc
      generalize H1 = H at hP hS ⊢
      replace hP : va_P (dC, dI) classes [(h0, .inr (0, oT (upc uT 10 y10) p9 a9 e9 n9 o9)), (a9, .inl (ca, 3, .inr (.inr (.inr (.inr (mo da)))))), (da 1, .inr (2, oD (F 1) (ra 1) (ka 1))), (ra 1, .inl (cr 1, 8, .inl (g 1))), (da 2, .inr (2, oD (F 2) (ra 2) (ka 2))), (ra 2, .inl (cr 2, 8, .inl (g 2))), (n9, .inr (4, [.ref nw9, .int (nI kN)])), (nw9, .inl (cN, 64, .inl wN)), (o9, .inr (5, [.ref ok9, .int (nI ko2)])), (ok9, .inl (cO, 300, .inl kp2)), (da 0, .inr (2, oD (F 0) (ra 0) (ka 0))), (ra 0, .inl (cr 0, 8, .inl g16))] H := hP
      replace hD : va_D A [(h0, .inr (0, oT (upc uT 10 y10) p9 a9 e9 n9 o9)), (a9, .inl (ca, 3, .inr (.inr (.inr (.inr (mo da)))))), (da 1, .inr (2, oD (F 1) (ra 1) (ka 1))), (ra 1, .inl (cr 1, 8, .inl (g 1))), (da 2, .inr (2, oD (F 2) (ra 2) (ka 2))), (ra 2, .inl (cr 2, 8, .inl (g 2))), (n9, .inr (4, [.ref nw9, .int (nI kN)])), (nw9, .inl (cN, 64, .inl wN)), (o9, .inr (5, [.ref ok9, .int (nI ko2)])), (ok9, .inl (cO, 300, .inl kp2)), (da 0, .inr (2, oD (F 0) (ra 0) (ka 0))), (ra 0, .inl (cr 0, 8, .inl g16))] := hD
      replace hK : va_K (dC, dI) classes [(ca, .object "VotedTriple$VotedModule"), (cr 1, .int), (cr 2, .int), (cN, .int), (cO, .int), (cr 0, .int)] s := hK
      refine W.widen (k := 0) (n := 0) (Nat.le_of_ble_eq_true rfl) (Nat.le_of_ble_eq_true rfl) ?_
      refine lv_iinc (k := 3) (v := 1) hx hb d_T_doWhatIsAgreed_66 hl rfl rfl (by decide) rfl (fun ls hl => ?_)
      replace hl : lv_has ls 4 [(3, .int 1), (0, .ref h0), (1, .ref (da 2)), (2, .int w2)] := hl
      refine lv_goto (tgt := 39) hx hb d_T_doWhatIsAgreed_69 rfl ?_
      have hSq : SP = s_T_doWhatIsAgreed2_cut39_1 uT F (upc uT 10 y10 10) (tri g16 (g 1) (g 2)) ko2 kp2 w2 := by rw [hSq0, s_T_doWhatIsAgreed2_cut39_0]; try (rw [if_pos hc13]); try (rw [← hr15E, bnd_eq]); all_goals rfl
      replace hl := lv_sub hl (l' := [(0, .ref h0), (1, .ref (da 2)), (2, .int w2), (3, .int 1)]) [1, 2, 3, 0] rfl
      replace hP := hP.sub (ws' := [(h0, .inr (0, oT (upc uT 10 (upc uT 10 y10 10)) p9 a9 e9 n9 o9)), (a9, .inl (ca, 3, .inr (.inr (.inr (.inr (mo da)))))), (da 0, .inr (2, oD (F 0) (ra 0) (ka 0))), (ra 0, .inl (cr 0, 8, .inl (tri g16 (g 1) (g 2) 0))), (da 1, .inr (2, oD (F 1) (ra 1) (ka 1))), (ra 1, .inl (cr 1, 8, .inl (tri g16 (g 1) (g 2) 1))), (da 2, .inr (2, oD (F 2) (ra 2) (ka 2))), (ra 2, .inl (cr 2, 8, .inl (tri g16 (g 1) (g 2) 2))), (n9, .inr (4, [.ref nw9, .int (nI kN)])), (nw9, .inl (cN, 64, .inl wN)), (o9, .inr (5, [.ref ok9, .int (nI ko2)])), (ok9, .inl (cO, 300, .inl kp2))]) [0, 1, 10, 11, 2, 3, 4, 5, 6, 7, 8, 9] rfl
      replace hD := hD.sub (ws' := [(h0, .inr (0, oT (upc uT 10 (upc uT 10 y10 10)) p9 a9 e9 n9 o9)), (a9, .inl (ca, 3, .inr (.inr (.inr (.inr (mo da)))))), (da 0, .inr (2, oD (F 0) (ra 0) (ka 0))), (ra 0, .inl (cr 0, 8, .inl (tri g16 (g 1) (g 2) 0))), (da 1, .inr (2, oD (F 1) (ra 1) (ka 1))), (ra 1, .inl (cr 1, 8, .inl (tri g16 (g 1) (g 2) 1))), (da 2, .inr (2, oD (F 2) (ra 2) (ka 2))), (ra 2, .inl (cr 2, 8, .inl (tri g16 (g 1) (g 2) 2))), (n9, .inr (4, [.ref nw9, .int (nI kN)])), (nw9, .inl (cN, 64, .inl wN)), (o9, .inr (5, [.ref ok9, .int (nI ko2)])), (ok9, .inl (cO, 300, .inl kp2))]) [0, 1, 10, 11, 2, 3, 4, 5, 6, 7, 8, 9] (by decide) rfl
      exact cut39_1 (upc uT 10 y10 10) (tri g16 (g 1) (g 2)) ko2 kp2 w2 _ _ _ (⟨hr15, hg.2.1, hg.2.2⟩) h29 h39 hSq hl hP hD hS
  clear cut39_3 cut39_2 cut39_1
  refine lv_iconst (v := 0) hx hb d_T_doWhatIsAgreed_0 (by decide) ?_
  refine lv_istore_n hx hb d_T_doWhatIsAgreed_1 rfl hl (by decide) rfl (fun ls hl => ?_)
  replace hl : lv_has ls 4 [(2, .int 0), (0, .ref h0), (1, .ref (da 2))] := hl
  refine lv_aload_n hx hb d_T_doWhatIsAgreed_2 rfl (lv_at hl 2 rfl) ?_
  refine va_get (D := (dC, dI)) (ci := 2) (v := .int (F 2 2)) (C := "VotedTriple$VotedModule") (T := F_D) (N := 19) hx hb hw in_D hown hK hP 6 rfl rfl 2 (by decide) (hw _ k_83) (fun x9 h9 => u_same (hw _ k_81) x9 h9) rfl d_T_doWhatIsAgreed_3 ?_
  refine lv_iconst (v := 1) hx hb d_T_doWhatIsAgreed_6 (by decide) ?_
  refine lv_icmp_ne (tgt := 18) hx hb d_T_doWhatIsAgreed_7 rfl (fun hc17 => ?_) (fun hc17 => ?_)
  · --  ¬ (F 2 2) = 1
    refine lv_aload_n hx hb d_T_doWhatIsAgreed_18 rfl (lv_at hl 2 rfl) ?_
    refine va_get (D := (dC, dI)) (ci := 2) (v := .int (F 2 2)) (C := "VotedTriple$VotedModule") (T := F_D) (N := 19) hx hb hw in_D hown hK hP 6 rfl rfl 2 (by decide) (hw _ k_83) (fun x9 h9 => u_same (hw _ k_81) x9 h9) rfl d_T_doWhatIsAgreed_19 ?_
    refine lv_iconst (v := 2) hx hb d_T_doWhatIsAgreed_22 (by decide) ?_
    refine lv_icmp_ne (tgt := 37) hx hb d_T_doWhatIsAgreed_23 rfl (fun hc18 => ?_) (fun hc18 => ?_)
    · --  ¬ (F 2 2) = 2
      refine lv_iconst (v := 0) hx hb d_T_doWhatIsAgreed_37 (by decide) ?_
      refine lv_istore_n hx hb d_T_doWhatIsAgreed_38 rfl hl (by decide) rfl (fun ls hl => ?_)
      replace hl : lv_has ls 4 [(3, .int 0), (2, .int 0), (0, .ref h0), (1, .ref (da 2))] := hl
      have hSq : SP = s_T_doWhatIsAgreed2_cut39_0 uT F (uT 10) g ko kp 0 := by rw [← hSP, s_T_doWhatIsAgreed2]; try (rw [if_neg hc17]); try (rw [if_neg hc18]); all_goals rfl
      replace hl := lv_sub hl (l' := [(0, .ref h0), (1, .ref (da 2)), (2, .int 0), (3, .int 0)]) [2, 3, 1, 0] rfl
      replace hP := hP.sub (ws' := [(h0, .inr (0, oT (upc uT 10 (uT 10)) p9 a9 e9 n9 o9)), (a9, .inl (ca, 3, .inr (.inr (.inr (.inr (mo da)))))), (da 0, .inr (2, oD (F 0) (ra 0) (ka 0))), (ra 0, .inl (cr 0, 8, .inl (g 0))), (da 1, .inr (2, oD (F 1) (ra 1) (ka 1))), (ra 1, .inl (cr 1, 8, .inl (g 1))), (da 2, .inr (2, oD (F 2) (ra 2) (ka 2))), (ra 2, .inl (cr 2, 8, .inl (g 2))), (n9, .inr (4, [.ref nw9, .int (nI kN)])), (nw9, .inl (cN, 64, .inl wN)), (o9, .inr (5, [.ref ok9, .int (nI ko)])), (ok9, .inl (cO, 300, .inl kp))]) [0, 1, 2, 3, 4, 5, 6, 7, 8, 9, 10, 11] rfl
      replace hD := hD.sub (ws' := [(h0, .inr (0, oT (upc uT 10 (uT 10)) p9 a9 e9 n9 o9)), (a9, .inl (ca, 3, .inr (.inr (.inr (.inr (mo da)))))), (da 0, .inr (2, oD (F 0) (ra 0) (ka 0))), (ra 0, .inl (cr 0, 8, .inl (g 0))), (da 1, .inr (2, oD (F 1) (ra 1) (ka 1))), (ra 1, .inl (cr 1, 8, .inl (g 1))), (da 2, .inr (2, oD (F 2) (ra 2) (ka 2))), (ra 2, .inl (cr 2, 8, .inl (g 2))), (n9, .inr (4, [.ref nw9, .int (nI kN)])), (nw9, .inl (cN, 64, .inl wN)), (o9, .inr (5, [.ref ok9, .int (nI ko)])), (ok9, .inl (cO, 300, .inl kp))]) [0, 1, 2, 3, 4, 5, 6, 7, 8, 9, 10, 11] (by decide) rfl
      exact cut39_0 (uT 10) g ko kp 0 _ _ _ hg is16_0 (by omega) hSq hl hP hD hS
    · --  (F 2 2) = 2
      refine lv_aload_n hx hb d_T_doWhatIsAgreed_26 rfl (lv_at hl 1 rfl) ?_
      refine va_get (D := (dC, dI)) (ci := 0) (v := .ref o9) (C := "VotedTriple") (T := F_T) (N := 11) hx hb hw in_T hown hK hP 0 rfl rfl 4 (by decide) (hw _ k_198) (fun _ h9 => h9) rfl d_T_doWhatIsAgreed_27 ?_
      refine lv_aload_n hx hb d_T_doWhatIsAgreed_30 rfl (lv_at hl 2 rfl) ?_
      refine va_get (D := (dC, dI)) (ci := 2) (v := .int (F 2 3)) (C := "VotedTriple$VotedModule") (T := F_D) (N := 19) hx hb hw in_D hown hK hP 6 rfl rfl 3 (by decide) (hw _ k_89) (fun x9 h9 => u_same (hw _ k_88) x9 h9) rfl d_T_doWhatIsAgreed_31 ?_
      replace hPc := hP.sub (ws' := [(o9, .inr (5, [.ref ok9, .int (nI ko)])), (ok9, .inl (cO, 300, .inl kp))]) [10, 11] rfl
      replace hKc := hK.sub (tys' := [(cO, .int)]) [5] rfl
      replace hDc := hD.sub (ws' := [(o9, .inr (5, [.ref ok9, .int (nI ko)])), (ok9, .inl (cO, 300, .inl kp))]) [10, 11] (by decide) rfl
      replace hFc := va_free (wc := [(o9, .inr (5, [.ref ok9, .int (nI ko)])), (ok9, .inl (cO, 300, .inl kp))]) hD hS hA [10, 11] rfl
      refine va_callv (va_runV (C := "VotedTriple$WordsOut") (As := [.int (F 2 3)]) (rest := []) ⟨hx, hb, hml, hown, hw⟩ (c_O_add l dC dI o9 ok9 ko cO kp (F 2 3) hk1 s.heap.size) (cwV 1 hw (gdV (k_555) (k_621) (k_553) (k_554) (k_5)) rfl rfl rfl (by decide +kernel) ⟨Nat.le_of_ble_eq_true rfl, Nat.le_of_ble_eq_true rfl⟩) ⟨fun a U g mk q => by obtain ⟨q0, q1, qP, qK, qD⟩ := q; exact ⟨q0, q1, qP, va_K.moved (u := U) (U := U.calling g mk a) (Vm.Alike.refl U.vm) qK, qD⟩, va_recv hK hP rfl (q0 := 10) rfl, fun U hU hW => ⟨rfl, by rw [hU], by rw [hU]; exact hPc, va_K.moved hW.alike hKc, hDc.weaken (fun _ _ _ _ => trivial)⟩⟩ rfl rfl hl.1 rfl (lv_room (Nat.le_of_ble_eq_true rfl)) d_T_doWhatIsAgreed_34 ⟨Nat.le_of_ble_eq_true rfl, Nat.le_of_ble_eq_true rfl⟩) hS (fun q _ h => hFc q h) hFc (fun u9 t H1 locs ht hvm hr20 hB hz1 hk1 hS => ?_)
      obtain ⟨w221, rfl⟩ : ∃ z, z = u9 := ⟨_, rfl⟩
      obtain ⟨hP1, hK1, hD1⟩ := hB
      rw [ht] at hP1
      replace hK1 := va_K.moved hvm.symm hK1
      try dsimp only at hr20 hP1 hK1 hD1
      obtain ⟨hr20, hr20E⟩ := hr20
      obtain ⟨hPz, hDz⟩ := va_join (wr := [(h0, .inr (0, oT uT p9 a9 e9 n9 o9)), (a9, .inl (ca, 3, .inr (.inr (.inr (.inr (mo da)))))), (da 0, .inr (2, oD (F 0) (ra 0) (ka 0))), (ra 0, .inl (cr 0, 8, .inl (g 0))), (da 1, .inr (2, oD (F 1) (ra 1) (ka 1))), (ra 1, .inl (cr 1, 8, .inl (g 1))), (da 2, .inr (2, oD (F 2) (ra 2) (ka 2))), (ra 2, .inl (cr 2, 8, .inl (g 2))), (n9, .inr (4, [.ref nw9, .int (nI kN)])), (nw9, .inl (cN, 64, .inl wN))]) (w1 := [(o9, .inr (5, [.ref ok9, .int (nI (ko + 1))])), (ok9, .inl (cO, 300, .inl w221))]) hP hD [10, 11] [0, 1, 2, 3, 4, 5, 6, 7, 8, 9] rfl rfl (by decide) (by decide) hk1 hFc hP1 hD1
      clear hP hD hPc hDc hP1 hD1 hFc
      have hP := hPz
      have hD := hDz
      clear hPz hDz
      replace hK := (hK.sub (tys' := [(ca, .object "VotedTriple$VotedModule"), (cr 0, .int), (cr 1, .int), (cr 2, .int), (cN, .int)]) [0, 1, 2, 3, 4] rfl).app hK1
      clear hK1 hKc
      generalize H1 = H at hP hS ⊢
      replace hP : va_P (dC, dI) classes [(h0, .inr (0, oT uT p9 a9 e9 n9 o9)), (a9, .inl (ca, 3, .inr (.inr (.inr (.inr (mo da)))))), (da 0, .inr (2, oD (F 0) (ra 0) (ka 0))), (ra 0, .inl (cr 0, 8, .inl (g 0))), (da 1, .inr (2, oD (F 1) (ra 1) (ka 1))), (ra 1, .inl (cr 1, 8, .inl (g 1))), (da 2, .inr (2, oD (F 2) (ra 2) (ka 2))), (ra 2, .inl (cr 2, 8, .inl (g 2))), (n9, .inr (4, [.ref nw9, .int (nI kN)])), (nw9, .inl (cN, 64, .inl wN)), (o9, .inr (5, [.ref ok9, .int (nI (ko + 1))])), (ok9, .inl (cO, 300, .inl w221))] H := hP
      replace hD : va_D A [(h0, .inr (0, oT uT p9 a9 e9 n9 o9)), (a9, .inl (ca, 3, .inr (.inr (.inr (.inr (mo da)))))), (da 0, .inr (2, oD (F 0) (ra 0) (ka 0))), (ra 0, .inl (cr 0, 8, .inl (g 0))), (da 1, .inr (2, oD (F 1) (ra 1) (ka 1))), (ra 1, .inl (cr 1, 8, .inl (g 1))), (da 2, .inr (2, oD (F 2) (ra 2) (ka 2))), (ra 2, .inl (cr 2, 8, .inl (g 2))), (n9, .inr (4, [.ref nw9, .int (nI kN)])), (nw9, .inl (cN, 64, .inl wN)), (o9, .inr (5, [.ref ok9, .int (nI (ko + 1))])), (ok9, .inl (cO, 300, .inl w221))] := hD
      replace hK : va_K (dC, dI) classes [(ca, .object "VotedTriple$VotedModule"), (cr 0, .int), (cr 1, .int), (cr 2, .int), (cN, .int), (cO, .int)] s := hK
      refine W.widen (k := 0) (n := 0) (Nat.le_of_ble_eq_true rfl) (Nat.le_of_ble_eq_true rfl) ?_
      refine lv_iconst (v := 0) hx hb d_T_doWhatIsAgreed_37 (by decide) ?_
      refine lv_istore_n hx hb d_T_doWhatIsAgreed_38 rfl hl (by decide) rfl (fun ls hl => ?_)
      replace hl : lv_has ls 4 [(3, .int 0), (2, .int 0), (0, .ref h0), (1, .ref (da 2))] := hl
      have hSq : SP = s_T_doWhatIsAgreed2_cut39_0 uT F (uT 10) g (ko + 1) w221 0 := by rw [← hSP, s_T_doWhatIsAgreed2]; try (rw [if_neg hc17]); try (rw [if_pos hc18]); try (rw [← hr20E, bnd_eq]); all_goals rfl
      replace hl := lv_sub hl (l' := [(0, .ref h0), (1, .ref (da 2)), (2, .int 0), (3, .int 0)]) [2, 3, 1, 0] rfl
      replace hP := hP.sub (ws' := [(h0, .inr (0, oT (upc uT 10 (uT 10)) p9 a9 e9 n9 o9)), (a9, .inl (ca, 3, .inr (.inr (.inr (.inr (mo da)))))), (da 0, .inr (2, oD (F 0) (ra 0) (ka 0))), (ra 0, .inl (cr 0, 8, .inl (g 0))), (da 1, .inr (2, oD (F 1) (ra 1) (ka 1))), (ra 1, .inl (cr 1, 8, .inl (g 1))), (da 2, .inr (2, oD (F 2) (ra 2) (ka 2))), (ra 2, .inl (cr 2, 8, .inl (g 2))), (n9, .inr (4, [.ref nw9, .int (nI kN)])), (nw9, .inl (cN, 64, .inl wN)), (o9, .inr (5, [.ref ok9, .int (nI (ko + 1))])), (ok9, .inl (cO, 300, .inl w221))]) [0, 1, 2, 3, 4, 5, 6, 7, 8, 9, 10, 11] rfl
      replace hD := hD.sub (ws' := [(h0, .inr (0, oT (upc uT 10 (uT 10)) p9 a9 e9 n9 o9)), (a9, .inl (ca, 3, .inr (.inr (.inr (.inr (mo da)))))), (da 0, .inr (2, oD (F 0) (ra 0) (ka 0))), (ra 0, .inl (cr 0, 8, .inl (g 0))), (da 1, .inr (2, oD (F 1) (ra 1) (ka 1))), (ra 1, .inl (cr 1, 8, .inl (g 1))), (da 2, .inr (2, oD (F 2) (ra 2) (ka 2))), (ra 2, .inl (cr 2, 8, .inl (g 2))), (n9, .inr (4, [.ref nw9, .int (nI kN)])), (nw9, .inl (cN, 64, .inl wN)), (o9, .inr (5, [.ref ok9, .int (nI (ko + 1))])), (ok9, .inl (cO, 300, .inl w221))]) [0, 1, 2, 3, 4, 5, 6, 7, 8, 9, 10, 11] (by decide) rfl
      exact cut39_0 (uT 10) g (ko + 1) w221 0 _ _ _ hg is16_0 (by omega) hSq hl hP hD hS
  · --  (F 2 2) = 1
    refine lv_aload_n hx hb d_T_doWhatIsAgreed_10 rfl (lv_at hl 1 rfl) ?_
    replace hPc := hP.sub (ws' := [(h0, .inr (0, oT uT p9 a9 e9 n9 o9)), (n9, .inr (4, [.ref nw9, .int (nI kN)])), (nw9, .inl (cN, 64, .inl wN))]) [0, 8, 9] rfl
    replace hKc := hK.sub (tys' := [(cN, .int)]) [4] rfl
    replace hDc := hD.sub (ws' := [(h0, .inr (0, oT uT p9 a9 e9 n9 o9)), (n9, .inr (4, [.ref nw9, .int (nI kN)])), (nw9, .inl (cN, 64, .inl wN))]) [0, 8, 9] (by decide) rfl
    replace hFc := va_free (wc := [(h0, .inr (0, oT uT p9 a9 e9 n9 o9)), (n9, .inr (4, [.ref nw9, .int (nI kN)])), (nw9, .inl (cN, 64, .inl wN))]) hD hS hA [0, 8, 9] rfl
    refine va_calli (va_runV (C := "VotedTriple") (As := []) (rest := []) ⟨hx, hb, hml, hown, hw⟩ (c_T_takeWord l dC dI h0 p9 a9 e9 n9 o9 nw9 cN uT kN wN hkN hwN s.heap.size) (cwV 0 hw (gdV (k_619) (k_616) (k_618) (ks_15) (k_1)) rfl rfl rfl (by decide +kernel) ⟨Nat.le_of_ble_eq_true rfl, Nat.le_of_ble_eq_true rfl⟩) ⟨fun a U g mk q => by obtain ⟨q0, q1, qP, qK, qD⟩ := q; exact ⟨q0, q1, qP, va_K.moved (u := U) (U := U.calling g mk a) (Vm.Alike.refl U.vm) qK, qD⟩, va_recv hK hP rfl (q0 := 0) rfl, fun U hU hW => ⟨rfl, by rw [hU], by rw [hU]; exact hPc, va_K.moved hW.alike hKc, hDc.weaken (fun _ _ _ _ => trivial)⟩⟩ rfl rfl hl.1 rfl (lv_room (Nat.le_of_ble_eq_true rfl)) d_T_doWhatIsAgreed_11 ⟨Nat.le_of_ble_eq_true rfl, Nat.le_of_ble_eq_true rfl⟩) hS (fun q _ h => hFc q h) hFc (fun r22 u9 t H1 locs ht hvm hr23 hB hz1 hk1 hS => ?_)
    obtain ⟨y1024, rfl⟩ : ∃ z, z = u9 := ⟨_, rfl⟩
    obtain ⟨hP1, hK1, hD1⟩ := hB
    rw [ht] at hP1
    replace hK1 := va_K.moved hvm.symm hK1
    try dsimp only at hr23 hP1 hK1 hD1
    obtain ⟨hr23, hr23E⟩ := hr23
    obtain ⟨hPz, hDz⟩ := va_join (wr := [(a9, .inl (ca, 3, .inr (.inr (.inr (.inr (mo da)))))), (da 0, .inr (2, oD (F 0) (ra 0) (ka 0))), (ra 0, .inl (cr 0, 8, .inl (g 0))), (da 1, .inr (2, oD (F 1) (ra 1) (ka 1))), (ra 1, .inl (cr 1, 8, .inl (g 1))), (da 2, .inr (2, oD (F 2) (ra 2) (ka 2))), (ra 2, .inl (cr 2, 8, .inl (g 2))), (o9, .inr (5, [.ref ok9, .int (nI ko)])), (ok9, .inl (cO, 300, .inl kp))]) (w1 := [(h0, .inr (0, oT (upc uT 10 y1024) p9 a9 e9 n9 o9)), (n9, .inr (4, [.ref nw9, .int (nI kN)])), (nw9, .inl (cN, 64, .inl wN))]) hP hD [0, 8, 9] [1, 2, 3, 4, 5, 6, 7, 10, 11] rfl rfl (by decide) (by decide) hk1 hFc hP1 hD1
    clear hP hD hPc hDc hP1 hD1 hFc
    have hP := hPz
    have hD := hDz
    clear hPz hDz
    replace hK := (hK.sub (tys' := [(ca, .object "VotedTriple$VotedModule"), (cr 0, .int), (cr 1, .int), (cr 2, .int), (cO, .int)]) [0, 1, 2, 3, 5] rfl).app hK1
    clear hK1 hKc
    generalize H1 = H at hP hS ⊢
    replace hP : va_P (dC, dI) classes [(a9, .inl (ca, 3, .inr (.inr (.inr (.inr (mo da)))))), (da 0, .inr (2, oD (F 0) (ra 0) (ka 0))), (ra 0, .inl (cr 0, 8, .inl (g 0))), (da 1, .inr (2, oD (F 1) (ra 1) (ka 1))), (ra 1, .inl (cr 1, 8, .inl (g 1))), (da 2, .inr (2, oD (F 2) (ra 2) (ka 2))), (ra 2, .inl (cr 2, 8, .inl (g 2))), (o9, .inr (5, [.ref ok9, .int (nI ko)])), (ok9, .inl (cO, 300, .inl kp)), (h0, .inr (0, oT (upc uT 10 y1024) p9 a9 e9 n9 o9)), (n9, .inr (4, [.ref nw9, .int (nI kN)])), (nw9, .inl (cN, 64, .inl wN))] H := hP
    replace hD : va_D A [(a9, .inl (ca, 3, .inr (.inr (.inr (.inr (mo da)))))), (da 0, .inr (2, oD (F 0) (ra 0) (ka 0))), (ra 0, .inl (cr 0, 8, .inl (g 0))), (da 1, .inr (2, oD (F 1) (ra 1) (ka 1))), (ra 1, .inl (cr 1, 8, .inl (g 1))), (da 2, .inr (2, oD (F 2) (ra 2) (ka 2))), (ra 2, .inl (cr 2, 8, .inl (g 2))), (o9, .inr (5, [.ref ok9, .int (nI ko)])), (ok9, .inl (cO, 300, .inl kp)), (h0, .inr (0, oT (upc uT 10 y1024) p9 a9 e9 n9 o9)), (n9, .inr (4, [.ref nw9, .int (nI kN)])), (nw9, .inl (cN, 64, .inl wN))] := hD
    replace hK : va_K (dC, dI) classes [(ca, .object "VotedTriple$VotedModule"), (cr 0, .int), (cr 1, .int), (cr 2, .int), (cO, .int), (cN, .int)] s := hK
    refine W.widen (k := 0) (n := 0) (Nat.le_of_ble_eq_true rfl) (Nat.le_of_ble_eq_true rfl) ?_
    refine lv_istore_n hx hb d_T_doWhatIsAgreed_14 rfl hl (by decide) rfl (fun ls hl => ?_)
    replace hl : lv_has ls 4 [(2, .int r22), (0, .ref h0), (1, .ref (da 2))] := hl
    refine lv_goto (tgt := 37) hx hb d_T_doWhatIsAgreed_15 rfl ?_
    refine lv_iconst (v := 0) hx hb d_T_doWhatIsAgreed_37 (by decide) ?_
    refine lv_istore_n hx hb d_T_doWhatIsAgreed_38 rfl hl (by decide) rfl (fun ls hl => ?_)
    replace hl : lv_has ls 4 [(3, .int 0), (2, .int r22), (0, .ref h0), (1, .ref (da 2))] := hl
    have hSq : SP = s_T_doWhatIsAgreed2_cut39_0 uT F (upc uT 10 y1024 10) g ko kp r22 := by rw [← hSP, s_T_doWhatIsAgreed2]; try (rw [if_pos hc17]); try (rw [← hr23E, bnd_eq]); try dsimp only; all_goals rfl
    replace hl := lv_sub hl (l' := [(0, .ref h0), (1, .ref (da 2)), (2, .int r22), (3, .int 0)]) [2, 3, 1, 0] rfl
    replace hP := hP.sub (ws' := [(h0, .inr (0, oT (upc uT 10 (upc uT 10 y1024 10)) p9 a9 e9 n9 o9)), (a9, .inl (ca, 3, .inr (.inr (.inr (.inr (mo da)))))), (da 0, .inr (2, oD (F 0) (ra 0) (ka 0))), (ra 0, .inl (cr 0, 8, .inl (g 0))), (da 1, .inr (2, oD (F 1) (ra 1) (ka 1))), (ra 1, .inl (cr 1, 8, .inl (g 1))), (da 2, .inr (2, oD (F 2) (ra 2) (ka 2))), (ra 2, .inl (cr 2, 8, .inl (g 2))), (n9, .inr (4, [.ref nw9, .int (nI kN)])), (nw9, .inl (cN, 64, .inl wN)), (o9, .inr (5, [.ref ok9, .int (nI ko)])), (ok9, .inl (cO, 300, .inl kp))]) [9, 0, 1, 2, 3, 4, 5, 6, 10, 11, 7, 8] rfl
    replace hD := hD.sub (ws' := [(h0, .inr (0, oT (upc uT 10 (upc uT 10 y1024 10)) p9 a9 e9 n9 o9)), (a9, .inl (ca, 3, .inr (.inr (.inr (.inr (mo da)))))), (da 0, .inr (2, oD (F 0) (ra 0) (ka 0))), (ra 0, .inl (cr 0, 8, .inl (g 0))), (da 1, .inr (2, oD (F 1) (ra 1) (ka 1))), (ra 1, .inl (cr 1, 8, .inl (g 1))), (da 2, .inr (2, oD (F 2) (ra 2) (ka 2))), (ra 2, .inl (cr 2, 8, .inl (g 2))), (n9, .inr (4, [.ref nw9, .int (nI kN)])), (nw9, .inl (cN, 64, .inl wN)), (o9, .inr (5, [.ref ok9, .int (nI ko)])), (ok9, .inl (cO, 300, .inl kp))]) [9, 0, 1, 2, 3, 4, 5, 6, 10, 11, 7, 8] (by decide) rfl
    exact cut39_0 (upc uT 10 y1024 10) g ko kp r22 _ _ _ hg hr23 (by omega) hSq hl hP hD hS

set_option maxHeartbeats 4000000 in
set_option maxRecDepth 100000 in
theorem c_T_storeInCopies (l : Launch) (dC : Nat → ClassId) (dI : Nat → Nat → Nat) (h0 : Nat) (p9 : Nat) (a9 : Nat) (e9 : Nat) (n9 : Nat) (o9 : Nat) (ca : ClassId) (da : Nat → Nat) (ra : Nat → Nat) (ka : Nat → Nat) (ck : Nat → ClassId) (uT : Nat → Int32) (F : Nat → Nat → Int32) (v : Nat → Nat → Int32) (hF : f3 F) (t9 : Nat) (sz : Nat) : Met l y_T_storeInCopies (tbw y_T_storeInCopies b_T_storeInCopies 4 none) ({ frames := 4, cells := 0, slots := 0, locals := 87 }) (va_Pc [.ref h0] (fun U => U.heap.size = sz ∧ va_P (dC, dI) classes [(h0, .inr (0, oT uT p9 a9 e9 n9 o9)), (a9, .inl (ca, 3, .inr (.inr (.inr (.inr (mo da)))))), (da 0, .inr (2, oD (F 0) (ra 0) (ka 0))), (ka 0, .inl (ck 0, 32, .inl (v 0))), (da 1, .inr (2, oD (F 1) (ra 1) (ka 1))), (ka 1, .inl (ck 1, 32, .inl (v 1))), (da 2, .inr (2, oD (F 2) (ra 2) (ka 2))), (ka 2, .inl (ck 2, 32, .inl (v 2)))] U.heap ∧ va_K (dC, dI) classes [(ca, .object "VotedTriple$VotedModule"), (ck 0, .int), (ck 1, .int), (ck 2, .int)] U ∧ va_D (fun _ => True) [(h0, .inr (0, oT uT p9 a9 e9 n9 o9)), (a9, .inl (ca, 3, .inr (.inr (.inr (.inr (mo da)))))), (da 0, .inr (2, oD (F 0) (ra 0) (ka 0))), (ka 0, .inl (ck 0, 32, .inl (v 0))), (da 1, .inr (2, oD (F 1) (ra 1) (ka 1))), (ka 1, .inl (ck 1, 32, .inl (v 1))), (da 2, .inr (2, oD (F 2) (ra 2) (ka 2))), (ka 2, .inl (ck 2, 32, .inl (v 2)))] ∧ cb t9 (va_A [(h0, .inr (0, oT uT p9 a9 e9 n9 o9)), (a9, .inl (ca, 3, .inr (.inr (.inr (.inr (mo da)))))), (da 0, .inr (2, oD (F 0) (ra 0) (ka 0))), (ka 0, .inl (ck 0, 32, .inl (v 0))), (da 1, .inr (2, oD (F 1) (ra 1) (ka 1))), (ka 1, .inl (ck 1, 32, .inl (v 1))), (da 2, .inr (2, oD (F 2) (ra 2) (ka 2))), (ka 2, .inl (ck 2, 32, .inl (v 2)))] sz) U U.heap)) (va_Qv (fun (u9 : (Nat → Nat → Int32)) => match u9 with | v2 => (True) ∧ (v2) = s_T_storeInCopies F v) (fun (u9 : (Nat → Nat → Int32)) t => match u9 with | v2 => va_P (dC, dI) classes [(h0, .inr (0, oT uT p9 a9 e9 n9 o9)), (a9, .inl (ca, 3, .inr (.inr (.inr (.inr (mo da)))))), (da 0, .inr (2, oD (F 0) (ra 0) (ka 0))), (ka 0, .inl (ck 0, 32, .inl (v2 0))), (da 1, .inr (2, oD (F 1) (ra 1) (ka 1))), (ka 1, .inl (ck 1, 32, .inl (v2 1))), (da 2, .inr (2, oD (F 2) (ra 2) (ka 2))), (ka 2, .inl (ck 2, 32, .inl (v2 2)))] t.heap ∧ va_K (dC, dI) classes [(ca, .object "VotedTriple$VotedModule"), (ck 0, .int), (ck 1, .int), (ck 2, .int)] t ∧ va_D (va_A [(h0, .inr (0, oT uT p9 a9 e9 n9 o9)), (a9, .inl (ca, 3, .inr (.inr (.inr (.inr (mo da)))))), (da 0, .inr (2, oD (F 0) (ra 0) (ka 0))), (ka 0, .inl (ck 0, 32, .inl (v 0))), (da 1, .inr (2, oD (F 1) (ra 1) (ka 1))), (ka 1, .inl (ck 1, 32, .inl (v 1))), (da 2, .inr (2, oD (F 2) (ra 2) (ka 2))), (ka 2, .inl (ck 2, 32, .inl (v 2)))] sz) [(h0, .inr (0, oT uT p9 a9 e9 n9 o9)), (a9, .inl (ca, 3, .inr (.inr (.inr (.inr (mo da)))))), (da 0, .inr (2, oD (F 0) (ra 0) (ka 0))), (ka 0, .inl (ck 0, 32, .inl (v2 0))), (da 1, .inr (2, oD (F 1) (ra 1) (ka 1))), (ka 1, .inl (ck 1, 32, .inl (v2 1))), (da 2, .inr (2, oD (F 2) (ra 2) (ka 2))), (ka 2, .inl (ck 2, 32, .inl (v2 2)))]) (va_A [(h0, .inr (0, oT uT p9 a9 e9 n9 o9)), (a9, .inl (ca, 3, .inr (.inr (.inr (.inr (mo da)))))), (da 0, .inr (2, oD (F 0) (ra 0) (ka 0))), (ka 0, .inl (ck 0, 32, .inl (v 0))), (da 1, .inr (2, oD (F 1) (ra 1) (ka 1))), (ka 1, .inl (ck 1, 32, .inl (v 1))), (da 2, .inr (2, oD (F 2) (ra 2) (ka 2))), (ka 2, .inl (ck 2, 32, .inl (v 2)))] sz)) 0 0 (va_A [(h0, .inr (0, oT uT p9 a9 e9 n9 o9)), (a9, .inl (ca, 3, .inr (.inr (.inr (.inr (mo da)))))), (da 0, .inr (2, oD (F 0) (ra 0) (ka 0))), (ka 0, .inl (ck 0, 32, .inl (v 0))), (da 1, .inr (2, oD (F 1) (ra 1) (ka 1))), (ka 1, .inl (ck 1, 32, .inl (v 1))), (da 2, .inr (2, oD (F 2) (ra 2) (ka 2))), (ka 2, .inl (ck 2, 32, .inl (v 2)))] sz) := by
  refine Met.ofW (cc := b_T_storeInCopies) (maxL := 4) (ret := none) (by decide) rfl ?_
  intro p e s m args below meth c s₁ B hml hv
  obtain ⟨rfl, hsz, hP, hK, hD0, hcb⟩ := hv
  have hx := B.exec
  have hb := B.bytes
  have hr := B.returns
  have hts := atoms_spec (ws := (tbw y_T_storeInCopies b_T_storeInCopies 4 none)) B.pre
  have hw : ∀ z9 ∈ tb, z9.before ([.ref h0] : List Value).toArray s = true := fun z9 h => hts z9 (List.mem_cons_of_mem _ h)
  have hown : s.vm.findClass "VotedTriple" = some m.cls := findClass_of_methodNamed B.named
  have hlocks := B.notSynchronized
  subst hsz
  replace hD := hD0.self (sz := s.heap.size)
  generalize hAe : va_A [(h0, .inr (0, oT uT p9 a9 e9 n9 o9)), (a9, .inl (ca, 3, .inr (.inr (.inr (.inr (mo da)))))), (da 0, .inr (2, oD (F 0) (ra 0) (ka 0))), (ka 0, .inl (ck 0, 32, .inl (v 0))), (da 1, .inr (2, oD (F 1) (ra 1) (ka 1))), (ka 1, .inl (ck 1, 32, .inl (v 1))), (da 2, .inr (2, oD (F 2) (ra 2) (ka 2))), (ka 2, .inl (ck 2, 32, .inl (v 2)))] s.heap.size = A at hD hcb ⊢
  have hA : ∀ q : Nat, s.heap.size ≤ q → A q := fun q h => by rw [← hAe]; exact Or.inr h
  have hS : va_S A s.heap s.heap [] := va_S.rf
  replace hl := lv_entry ([.ref h0]) (n := 4) (Nat.le_of_ble_eq_true rfl)
  rw [lg_entry_eq]
  generalize (lg_sl ([.ref h0]) ++ List.replicate (4 - (lg_sl ([.ref h0])).length) Slot.unset).toArray = ls at hl ⊢
  replace hl : lv_has ls 4 [(0, .ref h0)] := hl
  generalize hSP : s_T_storeInCopies F v = SP
  have cut36_3 : ∀ (v : Nat → Nat → Int32) (w1 : Int32) (w2 : Int32) (ls : Array Slot) (H : Heap) (locs : List Loc), (w1 = 0 ∨ w1 = 1 ∨ w1 = 2) → vp_in w2 32 → SP = s_T_storeInCopies_cut36_3 v w1 w2 →  lv_has ls 4 [(0, .ref h0), (1, .int w1), (2, .int w2), (3, .int 3)] → va_P (dC, dI) classes [(h0, .inr (0, oT uT p9 a9 e9 n9 o9)), (a9, .inl (ca, 3, .inr (.inr (.inr (.inr (mo da)))))), (da 0, .inr (2, oD (F 0) (ra 0) (ka 0))), (ka 0, .inl (ck 0, 32, .inl (v 0))), (da 1, .inr (2, oD (F 1) (ra 1) (ka 1))), (ka 1, .inl (ck 1, 32, .inl (v 1))), (da 2, .inr (2, oD (F 2) (ra 2) (ka 2))), (ka 2, .inl (ck 2, 32, .inl (v 2)))] H → va_D A [(h0, .inr (0, oT uT p9 a9 e9 n9 o9)), (a9, .inl (ca, 3, .inr (.inr (.inr (.inr (mo da)))))), (da 0, .inr (2, oD (F 0) (ra 0) (ka 0))), (ka 0, .inl (ck 0, 32, .inl (v 0))), (da 1, .inr (2, oD (F 1) (ra 1) (ka 1))), (ka 1, .inl (ck 1, 32, .inl (v 1))), (da 2, .inr (2, oD (F 2) (ra 2) (ka 2))), (ka 2, .inl (ck 2, 32, .inl (v 2)))] → va_S A s.heap H locs → W p l e (headSpec (tbw y_T_storeInCopies b_T_storeInCopies 4 none) ({ frames := 4, cells := 0, slots := 0, locals := 87 })).room s m ([.ref h0] : List Value).toArray below meth c H locs 0 0 (MQ below (va_Qv (fun (u9 : (Nat → Nat → Int32)) => match u9 with | v2 => (True) ∧ (v2) = SP) (fun (u9 : (Nat → Nat → Int32)) t => match u9 with | v2 => va_P (dC, dI) classes [(h0, .inr (0, oT uT p9 a9 e9 n9 o9)), (a9, .inl (ca, 3, .inr (.inr (.inr (.inr (mo da)))))), (da 0, .inr (2, oD (F 0) (ra 0) (ka 0))), (ka 0, .inl (ck 0, 32, .inl (v2 0))), (da 1, .inr (2, oD (F 1) (ra 1) (ka 1))), (ka 1, .inl (ck 1, 32, .inl (v2 1))), (da 2, .inr (2, oD (F 2) (ra 2) (ka 2))), (ka 2, .inl (ck 2, 32, .inl (v2 2)))] t.heap ∧ va_K (dC, dI) classes [(ca, .object "VotedTriple$VotedModule"), (ck 0, .int), (ck 1, .int), (ck 2, .int)] t ∧ va_D A [(h0, .inr (0, oT uT p9 a9 e9 n9 o9)), (a9, .inl (ca, 3, .inr (.inr (.inr (.inr (mo da)))))), (da 0, .inr (2, oD (F 0) (ra 0) (ka 0))), (ka 0, .inl (ck 0, 32, .inl (v2 0))), (da 1, .inr (2, oD (F 1) (ra 1) (ka 1))), (ka 1, .inl (ck 1, 32, .inl (v2 1))), (da 2, .inr (2, oD (F 2) (ra 2) (ka 2))), (ka 2, .inl (ck 2, 32, .inl (v2 2)))]) A) ([.ref h0] : List Value).toArray s 0 0 A) (F0 m 36 ls []) := by
    intro v w1 w2 ls H locs h19 h29 hSq0 hl hP hD hS
    refine lv_iload_n hx hb d_T_storeInCopies_36 rfl (lv_at hl 3 rfl) ?_
    refine lv_iconst (v := 3) hx hb d_T_storeInCopies_37 (by decide) ?_
    refine lv_icmp_ge (tgt := 92) hx hb d_T_storeInCopies_38 rfl (fun hc1 => ?_) (fun hc1 => by first | exact absurd (by decide) hc1 | exact absurd hc1 (by decide))
    have hP9 := hP.sub (ws' := [(h0, .inr (0, oT uT p9 a9 e9 n9 o9)), (a9, .inl (ca, 3, .inr (.inr (.inr (.inr (mo da)))))), (da 0, .inr (2, oD (F 0) (ra 0) (ka 0))), (ka 0, .inl (ck 0, 32, .inl (v 0))), (da 1, .inr (2, oD (F 1) (ra 1) (ka 1))), (ka 1, .inl (ck 1, 32, .inl (v 1))), (da 2, .inr (2, oD (F 2) (ra 2) (ka 2))), (ka 2, .inl (ck 2, 32, .inl (v 2)))]) [0, 1, 2, 3, 4, 5, 6, 7] rfl
    have hD9 := hD.sub (ws' := [(h0, .inr (0, oT uT p9 a9 e9 n9 o9)), (a9, .inl (ca, 3, .inr (.inr (.inr (.inr (mo da)))))), (da 0, .inr (2, oD (F 0) (ra 0) (ka 0))), (ka 0, .inl (ck 0, 32, .inl (v 0))), (da 1, .inr (2, oD (F 1) (ra 1) (ka 1))), (ka 1, .inl (ck 1, 32, .inl (v 1))), (da 2, .inr (2, oD (F 2) (ra 2) (ka 2))), (ka 2, .inl (ck 2, 32, .inl (v 2)))]) [0, 1, 2, 3, 4, 5, 6, 7] (by decide) rfl
    have hK9 := hK.sub (tys' := [(ca, .object "VotedTriple$VotedModule"), (ck 0, .int), (ck 1, .int), (ck 2, .int)]) [0, 1, 2, 3] rfl
    refine W.widen (k := 0) (n := 0) (Nat.le_of_ble_eq_true rfl) (Nat.le_of_ble_eq_true rfl) ?_
    exact W.vret hx hb hr (fun t ht hW => ⟨⟨(v), rfl, ⟨trivial, (by rw [hSq0, s_T_storeInCopies_cut36_3]; all_goals rfl)⟩, by rw [ht]; exact hP9, va_K.moved hW.alike hK9, hD9⟩, hS.F ht⟩) hS.2.2 d_T_storeInCopies_92
  have cut36_2 : ∀ (v : Nat → Nat → Int32) (w1 : Int32) (w2 : Int32) (ls : Array Slot) (H : Heap) (locs : List Loc), (w1 = 0 ∨ w1 = 1 ∨ w1 = 2) → vp_in w2 32 → SP = s_T_storeInCopies_cut36_2 F v w1 w2 →  lv_has ls 4 [(0, .ref h0), (1, .int w1), (2, .int w2), (3, .int 2)] → va_P (dC, dI) classes [(h0, .inr (0, oT uT p9 a9 e9 n9 o9)), (a9, .inl (ca, 3, .inr (.inr (.inr (.inr (mo da)))))), (da 0, .inr (2, oD (F 0) (ra 0) (ka 0))), (ka 0, .inl (ck 0, 32, .inl (v 0))), (da 1, .inr (2, oD (F 1) (ra 1) (ka 1))), (ka 1, .inl (ck 1, 32, .inl (v 1))), (da 2, .inr (2, oD (F 2) (ra 2) (ka 2))), (ka 2, .inl (ck 2, 32, .inl (v 2)))] H → va_D A [(h0, .inr (0, oT uT p9 a9 e9 n9 o9)), (a9, .inl (ca, 3, .inr (.inr (.inr (.inr (mo da)))))), (da 0, .inr (2, oD (F 0) (ra 0) (ka 0))), (ka 0, .inl (ck 0, 32, .inl (v 0))), (da 1, .inr (2, oD (F 1) (ra 1) (ka 1))), (ka 1, .inl (ck 1, 32, .inl (v 1))), (da 2, .inr (2, oD (F 2) (ra 2) (ka 2))), (ka 2, .inl (ck 2, 32, .inl (v 2)))] → va_S A s.heap H locs → W p l e (headSpec (tbw y_T_storeInCopies b_T_storeInCopies 4 none) ({ frames := 4, cells := 0, slots := 0, locals := 87 })).room s m ([.ref h0] : List Value).toArray below meth c H locs 0 0 (MQ below (va_Qv (fun (u9 : (Nat → Nat → Int32)) => match u9 with | v2 => (True) ∧ (v2) = SP) (fun (u9 : (Nat → Nat → Int32)) t => match u9 with | v2 => va_P (dC, dI) classes [(h0, .inr (0, oT uT p9 a9 e9 n9 o9)), (a9, .inl (ca, 3, .inr (.inr (.inr (.inr (mo da)))))), (da 0, .inr (2, oD (F 0) (ra 0) (ka 0))), (ka 0, .inl (ck 0, 32, .inl (v2 0))), (da 1, .inr (2, oD (F 1) (ra 1) (ka 1))), (ka 1, .inl (ck 1, 32, .inl (v2 1))), (da 2, .inr (2, oD (F 2) (ra 2) (ka 2))), (ka 2, .inl (ck 2, 32, .inl (v2 2)))] t.heap ∧ va_K (dC, dI) classes [(ca, .object "VotedTriple$VotedModule"), (ck 0, .int), (ck 1, .int), (ck 2, .int)] t ∧ va_D A [(h0, .inr (0, oT uT p9 a9 e9 n9 o9)), (a9, .inl (ca, 3, .inr (.inr (.inr (.inr (mo da)))))), (da 0, .inr (2, oD (F 0) (ra 0) (ka 0))), (ka 0, .inl (ck 0, 32, .inl (v2 0))), (da 1, .inr (2, oD (F 1) (ra 1) (ka 1))), (ka 1, .inl (ck 1, 32, .inl (v2 1))), (da 2, .inr (2, oD (F 2) (ra 2) (ka 2))), (ka 2, .inl (ck 2, 32, .inl (v2 2)))]) A) ([.ref h0] : List Value).toArray s 0 0 A) (F0 m 36 ls []) := by
    intro v w1 w2 ls H locs h19 h29 hSq0 hl hP hD hS
    refine lv_iload_n hx hb d_T_storeInCopies_36 rfl (lv_at hl 3 rfl) ?_
    refine lv_iconst (v := 3) hx hb d_T_storeInCopies_37 (by decide) ?_
    refine lv_icmp_ge (tgt := 92) hx hb d_T_storeInCopies_38 rfl (fun hc2 => by first | exact absurd hc2 (by decide) | exact absurd (by decide) hc2) (fun hc2 => ?_)
    refine lv_aload_n hx hb d_T_storeInCopies_41 rfl (lv_at hl 0 rfl) ?_
    refine va_get (D := (dC, dI)) (ci := 0) (v := .ref a9) (C := "VotedTriple") (T := F_T) (N := 11) hx hb hw in_T hown hK hP 0 rfl rfl 1 (by decide) (hw _ k_195) (fun _ h9 => h9) rfl d_T_storeInCopies_42 ?_
    refine lv_iload_n hx hb d_T_storeInCopies_45 rfl (lv_at hl 3 rfl) ?_
    refine va_aldq hx hb hK hP 1 0 rfl rfl (by unfold vp_in; decide) d_T_storeInCopies_46 ?_
    refine W.eq (g2 := F0 m 47 ls [.ref (da 2)]) rfl ?_
    refine va_get (D := (dC, dI)) (ci := 2) (v := .int (F 2 8)) (C := "VotedTriple$VotedModule") (T := F_D) (N := 19) hx hb hw in_D hown hK hP 6 rfl rfl 8 (by decide) (hw _ k_143) (fun _ h9 => h9) rfl d_T_storeInCopies_47 ?_
    refine lv_iconst (v := 1) hx hb d_T_storeInCopies_50 (by decide) ?_
    refine lv_icmp_ne (tgt := 86) hx hb d_T_storeInCopies_51 rfl (fun hc3 => ?_) (fun hc3 => ?_)
    · --  ¬ (F 2 8) = 1
      refine lv_iinc (k := 3) (v := 3) hx hb d_T_storeInCopies_86 hl rfl rfl (by decide) rfl (fun ls hl => ?_)
      replace hl : lv_has ls 4 [(3, .int 3), (0, .ref h0), (1, .int w1), (2, .int w2)] := hl
      refine lv_goto (tgt := 36) hx hb d_T_storeInCopies_89 rfl ?_
      have hSq : SP = s_T_storeInCopies_cut36_3 v w1 w2 := by rw [hSq0, s_T_storeInCopies_cut36_2]; try (rw [if_neg hc3]); all_goals rfl
      replace hl := lv_sub hl (l' := [(0, .ref h0), (1, .int w1), (2, .int w2), (3, .int 3)]) [1, 2, 3, 0] rfl
      replace hP := hP.sub (ws' := [(h0, .inr (0, oT uT p9 a9 e9 n9 o9)), (a9, .inl (ca, 3, .inr (.inr (.inr (.inr (mo da)))))), (da 0, .inr (2, oD (F 0) (ra 0) (ka 0))), (ka 0, .inl (ck 0, 32, .inl (v 0))), (da 1, .inr (2, oD (F 1) (ra 1) (ka 1))), (ka 1, .inl (ck 1, 32, .inl (v 1))), (da 2, .inr (2, oD (F 2) (ra 2) (ka 2))), (ka 2, .inl (ck 2, 32, .inl (v 2)))]) [0, 1, 2, 3, 4, 5, 6, 7] rfl
      replace hD := hD.sub (ws' := [(h0, .inr (0, oT uT p9 a9 e9 n9 o9)), (a9, .inl (ca, 3, .inr (.inr (.inr (.inr (mo da)))))), (da 0, .inr (2, oD (F 0) (ra 0) (ka 0))), (ka 0, .inl (ck 0, 32, .inl (v 0))), (da 1, .inr (2, oD (F 1) (ra 1) (ka 1))), (ka 1, .inl (ck 1, 32, .inl (v 1))), (da 2, .inr (2, oD (F 2) (ra 2) (ka 2))), (ka 2, .inl (ck 2, 32, .inl (v 2)))]) [0, 1, 2, 3, 4, 5, 6, 7] (by decide) rfl
      exact cut36_3 v w1 w2 _ _ _ h19 h29 hSq hl hP hD hS
    · --  (F 2 8) = 1
      refine lv_iload_n hx hb d_T_storeInCopies_54 rfl (lv_at hl 2 rfl) ?_
      refine lv_aload_n hx hb d_T_storeInCopies_55 rfl (lv_at hl 0 rfl) ?_
      refine va_get (D := (dC, dI)) (ci := 0) (v := .ref a9) (C := "VotedTriple") (T := F_T) (N := 11) hx hb hw in_T hown hK hP 0 rfl rfl 1 (by decide) (hw _ k_195) (fun _ h9 => h9) rfl d_T_storeInCopies_56 ?_
      refine lv_iload_n hx hb d_T_storeInCopies_59 rfl (lv_at hl 3 rfl) ?_
      refine va_aldq hx hb hK hP 1 0 rfl rfl (by unfold vp_in; decide) d_T_storeInCopies_60 ?_
      refine W.eq (g2 := F0 m 61 ls [.ref (da 2), .int w2]) rfl ?_
      refine va_get (D := (dC, dI)) (ci := 2) (v := .int (F 2 9)) (C := "VotedTriple$VotedModule") (T := F_D) (N := 19) hx hb hw in_D hown hK hP 6 rfl rfl 9 (by decide) (hw _ k_145) (fun _ h9 => h9) rfl d_T_storeInCopies_61 ?_
      refine lv_icmp_ge (tgt := 86) hx hb d_T_storeInCopies_64 rfl (fun hc4 => ?_) (fun hc4 => ?_)
      · --  (F 2 9) ≤ w2
        refine lv_iinc (k := 3) (v := 3) hx hb d_T_storeInCopies_86 hl rfl rfl (by decide) rfl (fun ls hl => ?_)
        replace hl : lv_has ls 4 [(3, .int 3), (0, .ref h0), (1, .int w1), (2, .int w2)] := hl
        refine lv_goto (tgt := 36) hx hb d_T_storeInCopies_89 rfl ?_
        have hSq : SP = s_T_storeInCopies_cut36_3 v w1 w2 := by rw [hSq0, s_T_storeInCopies_cut36_2]; try (rw [if_pos hc3]); try (rw [if_pos hc4]); all_goals rfl
        replace hl := lv_sub hl (l' := [(0, .ref h0), (1, .int w1), (2, .int w2), (3, .int 3)]) [1, 2, 3, 0] rfl
        replace hP := hP.sub (ws' := [(h0, .inr (0, oT uT p9 a9 e9 n9 o9)), (a9, .inl (ca, 3, .inr (.inr (.inr (.inr (mo da)))))), (da 0, .inr (2, oD (F 0) (ra 0) (ka 0))), (ka 0, .inl (ck 0, 32, .inl (v 0))), (da 1, .inr (2, oD (F 1) (ra 1) (ka 1))), (ka 1, .inl (ck 1, 32, .inl (v 1))), (da 2, .inr (2, oD (F 2) (ra 2) (ka 2))), (ka 2, .inl (ck 2, 32, .inl (v 2)))]) [0, 1, 2, 3, 4, 5, 6, 7] rfl
        replace hD := hD.sub (ws' := [(h0, .inr (0, oT uT p9 a9 e9 n9 o9)), (a9, .inl (ca, 3, .inr (.inr (.inr (.inr (mo da)))))), (da 0, .inr (2, oD (F 0) (ra 0) (ka 0))), (ka 0, .inl (ck 0, 32, .inl (v 0))), (da 1, .inr (2, oD (F 1) (ra 1) (ka 1))), (ka 1, .inl (ck 1, 32, .inl (v 1))), (da 2, .inr (2, oD (F 2) (ra 2) (ka 2))), (ka 2, .inl (ck 2, 32, .inl (v 2)))]) [0, 1, 2, 3, 4, 5, 6, 7] (by decide) rfl
        exact cut36_3 v w1 w2 _ _ _ h19 h29 hSq hl hP hD hS
      · --  ¬ (F 2 9) ≤ w2
        rcases h19 with rfl | rfl | rfl
        · --  0
          refine lv_aload_n hx hb d_T_storeInCopies_67 rfl (lv_at hl 0 rfl) ?_
          refine va_get (D := (dC, dI)) (ci := 0) (v := .ref a9) (C := "VotedTriple") (T := F_T) (N := 11) hx hb hw in_T hown hK hP 0 rfl rfl 1 (by decide) (hw _ k_195) (fun _ h9 => h9) rfl d_T_storeInCopies_68 ?_
          refine lv_iload_n hx hb d_T_storeInCopies_71 rfl (lv_at hl 3 rfl) ?_
          refine va_aldq hx hb hK hP 1 0 rfl rfl (by unfold vp_in; decide) d_T_storeInCopies_72 ?_
          refine W.eq (g2 := F0 m 73 ls [.ref (da 2)]) rfl ?_
          refine lv_iload_n hx hb d_T_storeInCopies_73 rfl (lv_at hl 2 rfl) ?_
          refine lv_aload_n hx hb d_T_storeInCopies_74 rfl (lv_at hl 0 rfl) ?_
          refine va_get (D := (dC, dI)) (ci := 0) (v := .ref a9) (C := "VotedTriple") (T := F_T) (N := 11) hx hb hw in_T hown hK hP 0 rfl rfl 1 (by decide) (hw _ k_195) (fun _ h9 => h9) rfl d_T_storeInCopies_75 ?_
          refine lv_iload_n hx hb d_T_storeInCopies_78 rfl (lv_at hl 1 rfl) ?_
          refine va_aldq hx hb hK hP 1 0 rfl rfl (by unfold vp_in; decide) d_T_storeInCopies_79 ?_
          refine W.eq (g2 := F0 m 80 ls [.ref (da 0), .int w2, .ref (da 2)]) rfl ?_
          refine va_get (D := (dC, dI)) (ci := 2) (v := .int (F 0 6)) (C := "VotedTriple$VotedModule") (T := F_D) (N := 19) hx hb hw in_D hown hK hP 2 rfl rfl 6 (by decide) (hw _ k_95) (fun x9 h9 => u_same (hw _ k_96) x9 h9) rfl d_T_storeInCopies_80 ?_
          replace hPc := hP.sub (ws' := [(da 2, .inr (2, oD (F 2) (ra 2) (ka 2))), (ka 2, .inl (ck 2, 32, .inl (v 2)))]) [6, 7] rfl
          replace hKc := hK.sub (tys' := [(ck 2, .int)]) [3] rfl
          replace hDc := hD.sub (ws' := [(da 2, .inr (2, oD (F 2) (ra 2) (ka 2))), (ka 2, .inl (ck 2, 32, .inl (v 2)))]) [6, 7] (by decide) rfl
          replace hFc := va_free (wc := [(da 2, .inr (2, oD (F 2) (ra 2) (ka 2))), (ka 2, .inl (ck 2, 32, .inl (v 2)))]) hD hS hA [6, 7] rfl
          refine va_callv (va_runV (C := "VotedTriple$VotedModule") (As := [.int w2, .int (F 0 6)]) (rest := []) ⟨hx, hb, hml, hown, hw⟩ (c_D_writeWord l dC dI (da 2) (ra 2) (ka 2) (F 2) (ck 2) (v 2) w2 (F 0 6) h29 t9 H.size) (cwV 2 hw (gdV (k_275) (k_629) (k_273) (k_274) (k_7)) rfl rfl rfl (by decide +kernel) ⟨Nat.le_of_ble_eq_true rfl, Nat.le_of_ble_eq_true rfl⟩) ⟨fun a U g mk q => by obtain ⟨q0, q1, qP, qK, qD, qB⟩ := q; exact ⟨q0, q1, qP, va_K.moved (u := U) (U := U.calling g mk a) (Vm.Alike.refl U.vm) qK, qD, cb_vm (u := U) (U := U.calling g mk a) rfl qB⟩, va_recv hK hP rfl (q0 := 6) rfl, fun U hU hW => ⟨rfl, by rw [hU], by rw [hU]; exact hPc, va_K.moved hW.alike hKc, hDc.weaken (fun _ _ _ _ => trivial), by rw [hU]; exact cb_narrow (cb_warm hW (cb_kept hcb (fun a h1 h2 => hS.2.1 a h1 h2))) hFc⟩⟩ rfl rfl hl.1 rfl (lv_room (Nat.le_of_ble_eq_true rfl)) d_T_storeInCopies_83 ⟨Nat.le_of_ble_eq_true rfl, Nat.le_of_ble_eq_true rfl⟩) hS (fun q _ h => hFc q h) hFc (fun u9 t H1 locs ht hvm hr6 hB hz1 hk1 hS => ?_)
          obtain ⟨cd27, rfl⟩ : ∃ z, z = u9 := ⟨_, rfl⟩
          obtain ⟨hP1, hK1, hD1⟩ := hB
          rw [ht] at hP1
          replace hK1 := va_K.moved hvm.symm hK1
          try dsimp only at hr6 hP1 hK1 hD1
          obtain ⟨hr6, hr6E⟩ := hr6
          obtain ⟨hPz, hDz⟩ := va_join (wr := [(h0, .inr (0, oT uT p9 a9 e9 n9 o9)), (a9, .inl (ca, 3, .inr (.inr (.inr (.inr (mo da)))))), (da 0, .inr (2, oD (F 0) (ra 0) (ka 0))), (ka 0, .inl (ck 0, 32, .inl (v 0))), (da 1, .inr (2, oD (F 1) (ra 1) (ka 1))), (ka 1, .inl (ck 1, 32, .inl (v 1)))]) (w1 := [(da 2, .inr (2, oD (F 2) (ra 2) (ka 2))), (ka 2, .inl (ck 2, 32, .inl cd27))]) hP hD [6, 7] [0, 1, 2, 3, 4, 5] rfl rfl (by decide) (by decide) hk1 hFc hP1 hD1
          clear hP hD hPc hDc hP1 hD1 hFc
          have hP := hPz
          have hD := hDz
          clear hPz hDz
          replace hK := (hK.sub (tys' := [(ca, .object "VotedTriple$VotedModule"), (ck 0, .int), (ck 1, .int)]) [0, 1, 2] rfl).app hK1
          clear hK1 hKc
          generalize H1 = H at hP hS ⊢
          replace hP : va_P (dC, dI) classes [(h0, .inr (0, oT uT p9 a9 e9 n9 o9)), (a9, .inl (ca, 3, .inr (.inr (.inr (.inr (mo da)))))), (da 0, .inr (2, oD (F 0) (ra 0) (ka 0))), (ka 0, .inl (ck 0, 32, .inl (v 0))), (da 1, .inr (2, oD (F 1) (ra 1) (ka 1))), (ka 1, .inl (ck 1, 32, .inl (v 1))), (da 2, .inr (2, oD (F 2) (ra 2) (ka 2))), (ka 2, .inl (ck 2, 32, .inl cd27))] H := hP
          replace hD : va_D A [(h0, .inr (0, oT uT p9 a9 e9 n9 o9)), (a9, .inl (ca, 3, .inr (.inr (.inr (.inr (mo da)))))), (da 0, .inr (2, oD (F 0) (ra 0) (ka 0))), (ka 0, .inl (ck 0, 32, .inl (v 0))), (da 1, .inr (2, oD (F 1) (ra 1) (ka 1))), (ka 1, .inl (ck 1, 32, .inl (v 1))), (da 2, .inr (2, oD (F 2) (ra 2) (ka 2))), (ka 2, .inl (ck 2, 32, .inl cd27))] := hD
          replace hK : va_K (dC, dI) classes [(ca, .object "VotedTriple$VotedModule"), (ck 0, .int), (ck 1, .int), (ck 2, .int)] s := hK
          refine W.widen (k := 0) (n := 0) (Nat.le_of_ble_eq_true rfl) (Nat.le_of_ble_eq_true rfl) ?_
          refine lv_iinc (k := 3) (v := 3) hx hb d_T_storeInCopies_86 hl rfl rfl (by decide) rfl (fun ls hl => ?_)
          replace hl : lv_has ls 4 [(3, .int 3), (0, .ref h0), (1, .int 0), (2, .int w2)] := hl
          refine lv_goto (tgt := 36) hx hb d_T_storeInCopies_89 rfl ?_
          have hSq : SP = s_T_storeInCopies_cut36_3 (tri (v 0) (v 1) cd27) 0 w2 := by rw [hSq0, s_T_storeInCopies_cut36_2]; try (rw [if_pos hc3]); try (rw [if_neg hc4]); try (rw [if_pos rfl]); try (rw [← hr6E, bnd_eq]); all_goals rfl
          replace hl := lv_sub hl (l' := [(0, .ref h0), (1, .int 0), (2, .int w2), (3, .int 3)]) [1, 2, 3, 0] rfl
          replace hP := hP.sub (ws' := [(h0, .inr (0, oT uT p9 a9 e9 n9 o9)), (a9, .inl (ca, 3, .inr (.inr (.inr (.inr (mo da)))))), (da 0, .inr (2, oD (F 0) (ra 0) (ka 0))), (ka 0, .inl (ck 0, 32, .inl (tri (v 0) (v 1) cd27 0))), (da 1, .inr (2, oD (F 1) (ra 1) (ka 1))), (ka 1, .inl (ck 1, 32, .inl (tri (v 0) (v 1) cd27 1))), (da 2, .inr (2, oD (F 2) (ra 2) (ka 2))), (ka 2, .inl (ck 2, 32, .inl (tri (v 0) (v 1) cd27 2)))]) [0, 1, 2, 3, 4, 5, 6, 7] rfl
          replace hD := hD.sub (ws' := [(h0, .inr (0, oT uT p9 a9 e9 n9 o9)), (a9, .inl (ca, 3, .inr (.inr (.inr (.inr (mo da)))))), (da 0, .inr (2, oD (F 0) (ra 0) (ka 0))), (ka 0, .inl (ck 0, 32, .inl (tri (v 0) (v 1) cd27 0))), (da 1, .inr (2, oD (F 1) (ra 1) (ka 1))), (ka 1, .inl (ck 1, 32, .inl (tri (v 0) (v 1) cd27 1))), (da 2, .inr (2, oD (F 2) (ra 2) (ka 2))), (ka 2, .inl (ck 2, 32, .inl (tri (v 0) (v 1) cd27 2)))]) [0, 1, 2, 3, 4, 5, 6, 7] (by decide) rfl
          exact cut36_3 (tri (v 0) (v 1) cd27) 0 w2 _ _ _ (Or.inl rfl) h29 hSq hl hP hD hS
        · --  1
          refine lv_aload_n hx hb d_T_storeInCopies_67 rfl (lv_at hl 0 rfl) ?_
          refine va_get (D := (dC, dI)) (ci := 0) (v := .ref a9) (C := "VotedTriple") (T := F_T) (N := 11) hx hb hw in_T hown hK hP 0 rfl rfl 1 (by decide) (hw _ k_195) (fun _ h9 => h9) rfl d_T_storeInCopies_68 ?_
          refine lv_iload_n hx hb d_T_storeInCopies_71 rfl (lv_at hl 3 rfl) ?_
          refine va_aldq hx hb hK hP 1 0 rfl rfl (by unfold vp_in; decide) d_T_storeInCopies_72 ?_
          refine W.eq (g2 := F0 m 73 ls [.ref (da 2)]) rfl ?_
          refine lv_iload_n hx hb d_T_storeInCopies_73 rfl (lv_at hl 2 rfl) ?_
          refine lv_aload_n hx hb d_T_storeInCopies_74 rfl (lv_at hl 0 rfl) ?_
          refine va_get (D := (dC, dI)) (ci := 0) (v := .ref a9) (C := "VotedTriple") (T := F_T) (N := 11) hx hb hw in_T hown hK hP 0 rfl rfl 1 (by decide) (hw _ k_195) (fun _ h9 => h9) rfl d_T_storeInCopies_75 ?_
          refine lv_iload_n hx hb d_T_storeInCopies_78 rfl (lv_at hl 1 rfl) ?_
          refine va_aldq hx hb hK hP 1 0 rfl rfl (by unfold vp_in; decide) d_T_storeInCopies_79 ?_
          refine W.eq (g2 := F0 m 80 ls [.ref (da 1), .int w2, .ref (da 2)]) rfl ?_
          refine va_get (D := (dC, dI)) (ci := 2) (v := .int (F 1 6)) (C := "VotedTriple$VotedModule") (T := F_D) (N := 19) hx hb hw in_D hown hK hP 4 rfl rfl 6 (by decide) (hw _ k_95) (fun x9 h9 => u_same (hw _ k_96) x9 h9) rfl d_T_storeInCopies_80 ?_
          replace hPc := hP.sub (ws' := [(da 2, .inr (2, oD (F 2) (ra 2) (ka 2))), (ka 2, .inl (ck 2, 32, .inl (v 2)))]) [6, 7] rfl
          replace hKc := hK.sub (tys' := [(ck 2, .int)]) [3] rfl
          replace hDc := hD.sub (ws' := [(da 2, .inr (2, oD (F 2) (ra 2) (ka 2))), (ka 2, .inl (ck 2, 32, .inl (v 2)))]) [6, 7] (by decide) rfl
          replace hFc := va_free (wc := [(da 2, .inr (2, oD (F 2) (ra 2) (ka 2))), (ka 2, .inl (ck 2, 32, .inl (v 2)))]) hD hS hA [6, 7] rfl
          refine va_callv (va_runV (C := "VotedTriple$VotedModule") (As := [.int w2, .int (F 1 6)]) (rest := []) ⟨hx, hb, hml, hown, hw⟩ (c_D_writeWord l dC dI (da 2) (ra 2) (ka 2) (F 2) (ck 2) (v 2) w2 (F 1 6) h29 t9 H.size) (cwV 2 hw (gdV (k_275) (k_629) (k_273) (k_274) (k_7)) rfl rfl rfl (by decide +kernel) ⟨Nat.le_of_ble_eq_true rfl, Nat.le_of_ble_eq_true rfl⟩) ⟨fun a U g mk q => by obtain ⟨q0, q1, qP, qK, qD, qB⟩ := q; exact ⟨q0, q1, qP, va_K.moved (u := U) (U := U.calling g mk a) (Vm.Alike.refl U.vm) qK, qD, cb_vm (u := U) (U := U.calling g mk a) rfl qB⟩, va_recv hK hP rfl (q0 := 6) rfl, fun U hU hW => ⟨rfl, by rw [hU], by rw [hU]; exact hPc, va_K.moved hW.alike hKc, hDc.weaken (fun _ _ _ _ => trivial), by rw [hU]; exact cb_narrow (cb_warm hW (cb_kept hcb (fun a h1 h2 => hS.2.1 a h1 h2))) hFc⟩⟩ rfl rfl hl.1 rfl (lv_room (Nat.le_of_ble_eq_true rfl)) d_T_storeInCopies_83 ⟨Nat.le_of_ble_eq_true rfl, Nat.le_of_ble_eq_true rfl⟩) hS (fun q _ h => hFc q h) hFc (fun u9 t H1 locs ht hvm hr9 hB hz1 hk1 hS => ?_)
          obtain ⟨cd210, rfl⟩ : ∃ z, z = u9 := ⟨_, rfl⟩
          obtain ⟨hP1, hK1, hD1⟩ := hB
          rw [ht] at hP1
          replace hK1 := va_K.moved hvm.symm hK1
          try dsimp only at hr9 hP1 hK1 hD1
          obtain ⟨hr9, hr9E⟩ := hr9
          obtain ⟨hPz, hDz⟩ := va_join (wr := [(h0, .inr (0, oT uT p9 a9 e9 n9 o9)), (a9, .inl (ca, 3, .inr (.inr (.inr (.inr (mo da)))))), (da 0, .inr (2, oD (F 0) (ra 0) (ka 0))), (ka 0, .inl (ck 0, 32, .inl (v 0))), (da 1, .inr (2, oD (F 1) (ra 1) (ka 1))), (ka 1, .inl (ck 1, 32, .inl (v 1)))]) (w1 := [(da 2, .inr (2, oD (F 2) (ra 2) (ka 2))), (ka 2, .inl (ck 2, 32, .inl cd210))]) hP hD [6, 7] [0, 1, 2, 3, 4, 5] rfl rfl (by decide) (by decide) hk1 hFc hP1 hD1
          clear hP hD hPc hDc hP1 hD1 hFc
          have hP := hPz
          have hD := hDz
          clear hPz hDz
          replace hK := (hK.sub (tys' := [(ca, .object "VotedTriple$VotedModule"), (ck 0, .int), (ck 1, .int)]) [0, 1, 2] rfl).app hK1
          clear hK1 hKc
          generalize H1 = H at hP hS ⊢
          replace hP : va_P (dC, dI) classes [(h0, .inr (0, oT uT p9 a9 e9 n9 o9)), (a9, .inl (ca, 3, .inr (.inr (.inr (.inr (mo da)))))), (da 0, .inr (2, oD (F 0) (ra 0) (ka 0))), (ka 0, .inl (ck 0, 32, .inl (v 0))), (da 1, .inr (2, oD (F 1) (ra 1) (ka 1))), (ka 1, .inl (ck 1, 32, .inl (v 1))), (da 2, .inr (2, oD (F 2) (ra 2) (ka 2))), (ka 2, .inl (ck 2, 32, .inl cd210))] H := hP
          replace hD : va_D A [(h0, .inr (0, oT uT p9 a9 e9 n9 o9)), (a9, .inl (ca, 3, .inr (.inr (.inr (.inr (mo da)))))), (da 0, .inr (2, oD (F 0) (ra 0) (ka 0))), (ka 0, .inl (ck 0, 32, .inl (v 0))), (da 1, .inr (2, oD (F 1) (ra 1) (ka 1))), (ka 1, .inl (ck 1, 32, .inl (v 1))), (da 2, .inr (2, oD (F 2) (ra 2) (ka 2))), (ka 2, .inl (ck 2, 32, .inl cd210))] := hD
          replace hK : va_K (dC, dI) classes [(ca, .object "VotedTriple$VotedModule"), (ck 0, .int), (ck 1, .int), (ck 2, .int)] s := hK
          refine W.widen (k := 0) (n := 0) (Nat.le_of_ble_eq_true rfl) (Nat.le_of_ble_eq_true rfl) ?_
          refine lv_iinc (k := 3) (v := 3) hx hb d_T_storeInCopies_86 hl rfl rfl (by decide) rfl (fun ls hl => ?_)
          replace hl : lv_has ls 4 [(3, .int 3), (0, .ref h0), (1, .int 1), (2, .int w2)] := hl
          refine lv_goto (tgt := 36) hx hb d_T_storeInCopies_89 rfl ?_
          have hSq : SP = s_T_storeInCopies_cut36_3 (tri (v 0) (v 1) cd210) 1 w2 := by rw [hSq0, s_T_storeInCopies_cut36_2]; try (rw [if_pos hc3]); try (rw [if_neg hc4]); try (rw [if_neg (by decide)]); try (rw [if_pos rfl]); try (rw [← hr9E, bnd_eq]); all_goals rfl
          replace hl := lv_sub hl (l' := [(0, .ref h0), (1, .int 1), (2, .int w2), (3, .int 3)]) [1, 2, 3, 0] rfl
          replace hP := hP.sub (ws' := [(h0, .inr (0, oT uT p9 a9 e9 n9 o9)), (a9, .inl (ca, 3, .inr (.inr (.inr (.inr (mo da)))))), (da 0, .inr (2, oD (F 0) (ra 0) (ka 0))), (ka 0, .inl (ck 0, 32, .inl (tri (v 0) (v 1) cd210 0))), (da 1, .inr (2, oD (F 1) (ra 1) (ka 1))), (ka 1, .inl (ck 1, 32, .inl (tri (v 0) (v 1) cd210 1))), (da 2, .inr (2, oD (F 2) (ra 2) (ka 2))), (ka 2, .inl (ck 2, 32, .inl (tri (v 0) (v 1) cd210 2)))]) [0, 1, 2, 3, 4, 5, 6, 7] rfl
          replace hD := hD.sub (ws' := [(h0, .inr (0, oT uT p9 a9 e9 n9 o9)), (a9, .inl (ca, 3, .inr (.inr (.inr (.inr (mo da)))))), (da 0, .inr (2, oD (F 0) (ra 0) (ka 0))), (ka 0, .inl (ck 0, 32, .inl (tri (v 0) (v 1) cd210 0))), (da 1, .inr (2, oD (F 1) (ra 1) (ka 1))), (ka 1, .inl (ck 1, 32, .inl (tri (v 0) (v 1) cd210 1))), (da 2, .inr (2, oD (F 2) (ra 2) (ka 2))), (ka 2, .inl (ck 2, 32, .inl (tri (v 0) (v 1) cd210 2)))]) [0, 1, 2, 3, 4, 5, 6, 7] (by decide) rfl
          exact cut36_3 (tri (v 0) (v 1) cd210) 1 w2 _ _ _ (Or.inr (Or.inl rfl)) h29 hSq hl hP hD hS
        · --  2
          refine lv_aload_n hx hb d_T_storeInCopies_67 rfl (lv_at hl 0 rfl) ?_
          refine va_get (D := (dC, dI)) (ci := 0) (v := .ref a9) (C := "VotedTriple") (T := F_T) (N := 11) hx hb hw in_T hown hK hP 0 rfl rfl 1 (by decide) (hw _ k_195) (fun _ h9 => h9) rfl d_T_storeInCopies_68 ?_
          refine lv_iload_n hx hb d_T_storeInCopies_71 rfl (lv_at hl 3 rfl) ?_
          refine va_aldq hx hb hK hP 1 0 rfl rfl (by unfold vp_in; decide) d_T_storeInCopies_72 ?_
          refine W.eq (g2 := F0 m 73 ls [.ref (da 2)]) rfl ?_
          refine lv_iload_n hx hb d_T_storeInCopies_73 rfl (lv_at hl 2 rfl) ?_
          refine lv_aload_n hx hb d_T_storeInCopies_74 rfl (lv_at hl 0 rfl) ?_
          refine va_get (D := (dC, dI)) (ci := 0) (v := .ref a9) (C := "VotedTriple") (T := F_T) (N := 11) hx hb hw in_T hown hK hP 0 rfl rfl 1 (by decide) (hw _ k_195) (fun _ h9 => h9) rfl d_T_storeInCopies_75 ?_
          refine lv_iload_n hx hb d_T_storeInCopies_78 rfl (lv_at hl 1 rfl) ?_
          refine va_aldq hx hb hK hP 1 0 rfl rfl (by unfold vp_in; decide) d_T_storeInCopies_79 ?_
          refine W.eq (g2 := F0 m 80 ls [.ref (da 2), .int w2, .ref (da 2)]) rfl ?_
          refine va_get (D := (dC, dI)) (ci := 2) (v := .int (F 2 6)) (C := "VotedTriple$VotedModule") (T := F_D) (N := 19) hx hb hw in_D hown hK hP 6 rfl rfl 6 (by decide) (hw _ k_95) (fun x9 h9 => u_same (hw _ k_96) x9 h9) rfl d_T_storeInCopies_80 ?_
          replace hPc := hP.sub (ws' := [(da 2, .inr (2, oD (F 2) (ra 2) (ka 2))), (ka 2, .inl (ck 2, 32, .inl (v 2)))]) [6, 7] rfl
          replace hKc := hK.sub (tys' := [(ck 2, .int)]) [3] rfl
          replace hDc := hD.sub (ws' := [(da 2, .inr (2, oD (F 2) (ra 2) (ka 2))), (ka 2, .inl (ck 2, 32, .inl (v 2)))]) [6, 7] (by decide) rfl
          replace hFc := va_free (wc := [(da 2, .inr (2, oD (F 2) (ra 2) (ka 2))), (ka 2, .inl (ck 2, 32, .inl (v 2)))]) hD hS hA [6, 7] rfl
          refine va_callv (va_runV (C := "VotedTriple$VotedModule") (As := [.int w2, .int (F 2 6)]) (rest := []) ⟨hx, hb, hml, hown, hw⟩ (c_D_writeWord l dC dI (da 2) (ra 2) (ka 2) (F 2) (ck 2) (v 2) w2 (F 2 6) h29 t9 H.size) (cwV 2 hw (gdV (k_275) (k_629) (k_273) (k_274) (k_7)) rfl rfl rfl (by decide +kernel) ⟨Nat.le_of_ble_eq_true rfl, Nat.le_of_ble_eq_true rfl⟩) ⟨fun a U g mk q => by obtain ⟨q0, q1, qP, qK, qD, qB⟩ := q; exact ⟨q0, q1, qP, va_K.moved (u := U) (U := U.calling g mk a) (Vm.Alike.refl U.vm) qK, qD, cb_vm (u := U) (U := U.calling g mk a) rfl qB⟩, va_recv hK hP rfl (q0 := 6) rfl, fun U hU hW => ⟨rfl, by rw [hU], by rw [hU]; exact hPc, va_K.moved hW.alike hKc, hDc.weaken (fun _ _ _ _ => trivial), by rw [hU]; exact cb_narrow (cb_warm hW (cb_kept hcb (fun a h1 h2 => hS.2.1 a h1 h2))) hFc⟩⟩ rfl rfl hl.1 rfl (lv_room (Nat.le_of_ble_eq_true rfl)) d_T_storeInCopies_83 ⟨Nat.le_of_ble_eq_true rfl, Nat.le_of_ble_eq_true rfl⟩) hS (fun q _ h => hFc q h) hFc (fun u9 t H1 locs ht hvm hr12 hB hz1 hk1 hS => ?_)
          obtain ⟨cd213, rfl⟩ : ∃ z, z = u9 := ⟨_, rfl⟩
          obtain ⟨hP1, hK1, hD1⟩ := hB
          rw [ht] at hP1
          replace hK1 := va_K.moved hvm.symm hK1
          try dsimp only at hr12 hP1 hK1 hD1
          obtain ⟨hr12, hr12E⟩ := hr12
          obtain ⟨hPz, hDz⟩ := va_join (wr := [(h0, .inr (0, oT uT p9 a9 e9 n9 o9)), (a9, .inl (ca, 3, .inr (.inr (.inr (.inr (mo da)))))), (da 0, .inr (2, oD (F 0) (ra 0) (ka 0))), (ka 0, .inl (ck 0, 32, .inl (v 0))), (da 1, .inr (2, oD (F 1) (ra 1) (ka 1))), (ka 1, .inl (ck 1, 32, .inl (v 1)))]) (w1 := [(da 2, .inr (2, oD (F 2) (ra 2) (ka 2))), (ka 2, .inl (ck 2, 32, .inl cd213))]) hP hD [6, 7] [0, 1, 2, 3, 4, 5] rfl rfl (by decide) (by decide) hk1 hFc hP1 hD1
          clear hP hD hPc hDc hP1 hD1 hFc
          have hP := hPz
          have hD := hDz
          clear hPz hDz
          replace hK := (hK.sub (tys' := [(ca, .object "VotedTriple$VotedModule"), (ck 0, .int), (ck 1, .int)]) [0, 1, 2] rfl).app hK1
          clear hK1 hKc
          generalize H1 = H at hP hS ⊢
          replace hP : va_P (dC, dI) classes [(h0, .inr (0, oT uT p9 a9 e9 n9 o9)), (a9, .inl (ca, 3, .inr (.inr (.inr (.inr (mo da)))))), (da 0, .inr (2, oD (F 0) (ra 0) (ka 0))), (ka 0, .inl (ck 0, 32, .inl (v 0))), (da 1, .inr (2, oD (F 1) (ra 1) (ka 1))), (ka 1, .inl (ck 1, 32, .inl (v 1))), (da 2, .inr (2, oD (F 2) (ra 2) (ka 2))), (ka 2, .inl (ck 2, 32, .inl cd213))] H := hP
          replace hD : va_D A [(h0, .inr (0, oT uT p9 a9 e9 n9 o9)), (a9, .inl (ca, 3, .inr (.inr (.inr (.inr (mo da)))))), (da 0, .inr (2, oD (F 0) (ra 0) (ka 0))), (ka 0, .inl (ck 0, 32, .inl (v 0))), (da 1, .inr (2, oD (F 1) (ra 1) (ka 1))), (ka 1, .inl (ck 1, 32, .inl (v 1))), (da 2, .inr (2, oD (F 2) (ra 2) (ka 2))), (ka 2, .inl (ck 2, 32, .inl cd213))] := hD
          replace hK : va_K (dC, dI) classes [(ca, .object "VotedTriple$VotedModule"), (ck 0, .int), (ck 1, .int), (ck 2, .int)] s := hK
          refine W.widen (k := 0) (n := 0) (Nat.le_of_ble_eq_true rfl) (Nat.le_of_ble_eq_true rfl) ?_
          refine lv_iinc (k := 3) (v := 3) hx hb d_T_storeInCopies_86 hl rfl rfl (by decide) rfl (fun ls hl => ?_)
          replace hl : lv_has ls 4 [(3, .int 3), (0, .ref h0), (1, .int 2), (2, .int w2)] := hl
          refine lv_goto (tgt := 36) hx hb d_T_storeInCopies_89 rfl ?_
          have hSq : SP = s_T_storeInCopies_cut36_3 (tri (v 0) (v 1) cd213) 2 w2 := by rw [hSq0, s_T_storeInCopies_cut36_2]; try (rw [if_pos hc3]); try (rw [if_neg hc4]); try (rw [if_neg (by decide)]); try (rw [if_neg (by decide)]); try (rw [← hr12E, bnd_eq]); all_goals rfl
          replace hl := lv_sub hl (l' := [(0, .ref h0), (1, .int 2), (2, .int w2), (3, .int 3)]) [1, 2, 3, 0] rfl
          replace hP := hP.sub (ws' := [(h0, .inr (0, oT uT p9 a9 e9 n9 o9)), (a9, .inl (ca, 3, .inr (.inr (.inr (.inr (mo da)))))), (da 0, .inr (2, oD (F 0) (ra 0) (ka 0))), (ka 0, .inl (ck 0, 32, .inl (tri (v 0) (v 1) cd213 0))), (da 1, .inr (2, oD (F 1) (ra 1) (ka 1))), (ka 1, .inl (ck 1, 32, .inl (tri (v 0) (v 1) cd213 1))), (da 2, .inr (2, oD (F 2) (ra 2) (ka 2))), (ka 2, .inl (ck 2, 32, .inl (tri (v 0) (v 1) cd213 2)))]) [0, 1, 2, 3, 4, 5, 6, 7] rfl
          replace hD := hD.sub (ws' := [(h0, .inr (0, oT uT p9 a9 e9 n9 o9)), (a9, .inl (ca, 3, .inr (.inr (.inr (.inr (mo da)))))), (da 0, .inr (2, oD (F 0) (ra 0) (ka 0))), (ka 0, .inl (ck 0, 32, .inl (tri (v 0) (v 1) cd213 0))), (da 1, .inr (2, oD (F 1) (ra 1) (ka 1))), (ka 1, .inl (ck 1, 32, .inl (tri (v 0) (v 1) cd213 1))), (da 2, .inr (2, oD (F 2) (ra 2) (ka 2))), (ka 2, .inl (ck 2, 32, .inl (tri (v 0) (v 1) cd213 2)))]) [0, 1, 2, 3, 4, 5, 6, 7] (by decide) rfl
          exact cut36_3 (tri (v 0) (v 1) cd213) 2 w2 _ _ _ (Or.inr (Or.inr rfl)) h29 hSq hl hP hD hS
  have cut36_1 : ∀ (v : Nat → Nat → Int32) (w1 : Int32) (w2 : Int32) (ls : Array Slot) (H : Heap) (locs : List Loc), (w1 = 0 ∨ w1 = 1 ∨ w1 = 2) → vp_in w2 32 → SP = s_T_storeInCopies_cut36_1 F v w1 w2 →  lv_has ls 4 [(0, .ref h0), (1, .int w1), (2, .int w2), (3, .int 1)] → va_P (dC, dI) classes [(h0, .inr (0, oT uT p9 a9 e9 n9 o9)), (a9, .inl (ca, 3, .inr (.inr (.inr (.inr (mo da)))))), (da 0, .inr (2, oD (F 0) (ra 0) (ka 0))), (ka 0, .inl (ck 0, 32, .inl (v 0))), (da 1, .inr (2, oD (F 1) (ra 1) (ka 1))), (ka 1, .inl (ck 1, 32, .inl (v 1))), (da 2, .inr (2, oD (F 2) (ra 2) (ka 2))), (ka 2, .inl (ck 2, 32, .inl (v 2)))] H → va_D A [(h0, .inr (0, oT uT p9 a9 e9 n9 o9)), (a9, .inl (ca, 3, .inr (.inr (.inr (.inr (mo da)))))), (da 0, .inr (2, oD (F 0) (ra 0) (ka 0))), (ka 0, .inl (ck 0, 32, .inl (v 0))), (da 1, .inr (2, oD (F 1) (ra 1) (ka 1))), (ka 1, .inl (ck 1, 32, .inl (v 1))), (da 2, .inr (2, oD (F 2) (ra 2) (ka 2))), (ka 2, .inl (ck 2, 32, .inl (v 2)))] → va_S A s.heap H locs → W p l e (headSpec (tbw y_T_storeInCopies b_T_storeInCopies 4 none) ({ frames := 4, cells := 0, slots := 0, locals := 87 })).room s m ([.ref h0] : List Value).toArray below meth c H locs 0 0 (MQ below (va_Qv (fun (u9 : (Nat → Nat → Int32)) => match u9 with | v2 => (True) ∧ (v2) = SP) (fun (u9 : (Nat → Nat → Int32)) t => match u9 with | v2 => va_P (dC, dI) classes [(h0, .inr (0, oT uT p9 a9 e9 n9 o9)), (a9, .inl (ca, 3, .inr (.inr (.inr (.inr (mo da)))))), (da 0, .inr (2, oD (F 0) (ra 0) (ka 0))), (ka 0, .inl (ck 0, 32, .inl (v2 0))), (da 1, .inr (2, oD (F 1) (ra 1) (ka 1))), (ka 1, .inl (ck 1, 32, .inl (v2 1))), (da 2, .inr (2, oD (F 2) (ra 2) (ka 2))), (ka 2, .inl (ck 2, 32, .inl (v2 2)))] t.heap ∧ va_K (dC, dI) classes [(ca, .object "VotedTriple$VotedModule"), (ck 0, .int), (ck 1, .int), (ck 2, .int)] t ∧ va_D A [(h0, .inr (0, oT uT p9 a9 e9 n9 o9)), (a9, .inl (ca, 3, .inr (.inr (.inr (.inr (mo da)))))), (da 0, .inr (2, oD (F 0) (ra 0) (ka 0))), (ka 0, .inl (ck 0, 32, .inl (v2 0))), (da 1, .inr (2, oD (F 1) (ra 1) (ka 1))), (ka 1, .inl (ck 1, 32, .inl (v2 1))), (da 2, .inr (2, oD (F 2) (ra 2) (ka 2))), (ka 2, .inl (ck 2, 32, .inl (v2 2)))]) A) ([.ref h0] : List Value).toArray s 0 0 A) (F0 m 36 ls []) := by
    intro v w1 w2 ls H locs h19 h29 hSq0 hl hP hD hS
    clear cut36_3
    refine lv_iload_n hx hb d_T_storeInCopies_36 rfl (lv_at hl 3 rfl) ?_
    refine lv_iconst (v := 3) hx hb d_T_storeInCopies_37 (by decide) ?_
    refine lv_icmp_ge (tgt := 92) hx hb d_T_storeInCopies_38 rfl (fun hc14 => by first | exact absurd hc14 (by decide) | exact absurd (by decide) hc14) (fun hc14 => ?_)
    refine lv_aload_n hx hb d_T_storeInCopies_41 rfl (lv_at hl 0 rfl) ?_
    refine va_get (D := (dC, dI)) (ci := 0) (v := .ref a9) (C := "VotedTriple") (T := F_T) (N := 11) hx hb hw in_T hown hK hP 0 rfl rfl 1 (by decide) (hw _ k_195) (fun _ h9 => h9) rfl d_T_storeInCopies_42 ?_
    refine lv_iload_n hx hb d_T_storeInCopies_45 rfl (lv_at hl 3 rfl) ?_
    refine va_aldq hx hb hK hP 1 0 rfl rfl (by unfold vp_in; decide) d_T_storeInCopies_46 ?_
    refine W.eq (g2 := F0 m 47 ls [.ref (da 1)]) rfl ?_
    refine va_get (D := (dC, dI)) (ci := 2) (v := .int (F 1 8)) (C := "VotedTriple$VotedModule") (T := F_D) (N := 19) hx hb hw in_D hown hK hP 4 rfl rfl 8 (by decide) (hw _ k_143) (fun _ h9 => h9) rfl d_T_storeInCopies_47 ?_
    refine lv_iconst (v := 1) hx hb d_T_storeInCopies_50 (by decide) ?_
    refine lv_icmp_ne (tgt := 86) hx hb d_T_storeInCopies_51 rfl (fun hc15 => ?_) (fun hc15 => ?_)
    · --  ¬ (F 1 8) = 1
      refine lv_iinc (k := 3) (v := 2) hx hb d_T_storeInCopies_86 hl rfl rfl (by decide) rfl (fun ls hl => ?_)
      replace hl : lv_has ls 4 [(3, .int 2), (0, .ref h0), (1, .int w1), (2, .int w2)] := hl
      refine lv_goto (tgt := 36) hx hb d_T_storeInCopies_89 rfl ?_
      have hSq : SP = s_T_storeInCopies_cut36_2 F v w1 w2 := by rw [hSq0, s_T_storeInCopies_cut36_1]; try (rw [if_neg hc15]); all_goals rfl
      replace hl := lv_sub hl (l' := [(0, .ref h0), (1, .int w1), (2, .int w2), (3, .int 2)]) [1, 2, 3, 0] rfl
      replace hP := hP.sub (ws' := [(h0, .inr (0, oT uT p9 a9 e9 n9 o9)), (a9, .inl (ca, 3, .inr (.inr (.inr (.inr (mo da)))))), (da 0, .inr (2, oD (F 0) (ra 0) (ka 0))), (ka 0, .inl (ck 0, 32, .inl (v 0))), (da 1, .inr (2, oD (F 1) (ra 1) (ka 1))), (ka 1, .inl (ck 1, 32, .inl (v 1))), (da 2, .inr (2, oD (F 2) (ra 2) (ka 2))), (ka 2, .inl (ck 2, 32, .inl (v 2)))]) [0, 1, 2, 3, 4, 5, 6, 7] rfl
      replace hD := hD.sub (ws' := [(h0, .inr (0, oT uT p9 a9 e9 n9 o9)), (a9, .inl (ca, 3, .inr (.inr (.inr (.inr (mo da)))))), (da 0, .inr (2, oD (F 0) (ra 0) (ka 0))), (ka 0, .inl (ck 0, 32, .inl (v 0))), (da 1, .inr (2, oD (F 1) (ra 1) (ka 1))), (ka 1, .inl (ck 1, 32, .inl (v 1))), (da 2, .inr (2, oD (F 2) (ra 2) (ka 2))), (ka 2, .inl (ck 2, 32, .inl (v 2)))]) [0, 1, 2, 3, 4, 5, 6, 7] (by decide) rfl
      exact cut36_2 v w1 w2 _ _ _ h19 h29 hSq hl hP hD hS
    · --  (F 1 8) = 1
      refine lv_iload_n hx hb d_T_storeInCopies_54 rfl (lv_at hl 2 rfl) ?_
      refine lv_aload_n hx hb d_T_storeInCopies_55 rfl (lv_at hl 0 rfl) ?_
      refine va_get (D := (dC, dI)) (ci := 0) (v := .ref a9) (C := "VotedTriple") (T := F_T) (N := 11) hx hb hw in_T hown hK hP 0 rfl rfl 1 (by decide) (hw _ k_195) (fun _ h9 => h9) rfl d_T_storeInCopies_56 ?_
      refine lv_iload_n hx hb d_T_storeInCopies_59 rfl (lv_at hl 3 rfl) ?_
      refine va_aldq hx hb hK hP 1 0 rfl rfl (by unfold vp_in; decide) d_T_storeInCopies_60 ?_
      refine W.eq (g2 := F0 m 61 ls [.ref (da 1), .int w2]) rfl ?_
      refine va_get (D := (dC, dI)) (ci := 2) (v := .int (F 1 9)) (C := "VotedTriple$VotedModule") (T := F_D) (N := 19) hx hb hw in_D hown hK hP 4 rfl rfl 9 (by decide) (hw _ k_145) (fun _ h9 => h9) rfl d_T_storeInCopies_61 ?_
      refine lv_icmp_ge (tgt := 86) hx hb d_T_storeInCopies_64 rfl (fun hc16 => ?_) (fun hc16 => ?_)
      · --  (F 1 9) ≤ w2
        refine lv_iinc (k := 3) (v := 2) hx hb d_T_storeInCopies_86 hl rfl rfl (by decide) rfl (fun ls hl => ?_)
        replace hl : lv_has ls 4 [(3, .int 2), (0, .ref h0), (1, .int w1), (2, .int w2)] := hl
        refine lv_goto (tgt := 36) hx hb d_T_storeInCopies_89 rfl ?_
        have hSq : SP = s_T_storeInCopies_cut36_2 F v w1 w2 := by rw [hSq0, s_T_storeInCopies_cut36_1]; try (rw [if_pos hc15]); try (rw [if_pos hc16]); all_goals rfl
        replace hl := lv_sub hl (l' := [(0, .ref h0), (1, .int w1), (2, .int w2), (3, .int 2)]) [1, 2, 3, 0] rfl
        replace hP := hP.sub (ws' := [(h0, .inr (0, oT uT p9 a9 e9 n9 o9)), (a9, .inl (ca, 3, .inr (.inr (.inr (.inr (mo da)))))), (da 0, .inr (2, oD (F 0) (ra 0) (ka 0))), (ka 0, .inl (ck 0, 32, .inl (v 0))), (da 1, .inr (2, oD (F 1) (ra 1) (ka 1))), (ka 1, .inl (ck 1, 32, .inl (v 1))), (da 2, .inr (2, oD (F 2) (ra 2) (ka 2))), (ka 2, .inl (ck 2, 32, .inl (v 2)))]) [0, 1, 2, 3, 4, 5, 6, 7] rfl
        replace hD := hD.sub (ws' := [(h0, .inr (0, oT uT p9 a9 e9 n9 o9)), (a9, .inl (ca, 3, .inr (.inr (.inr (.inr (mo da)))))), (da 0, .inr (2, oD (F 0) (ra 0) (ka 0))), (ka 0, .inl (ck 0, 32, .inl (v 0))), (da 1, .inr (2, oD (F 1) (ra 1) (ka 1))), (ka 1, .inl (ck 1, 32, .inl (v 1))), (da 2, .inr (2, oD (F 2) (ra 2) (ka 2))), (ka 2, .inl (ck 2, 32, .inl (v 2)))]) [0, 1, 2, 3, 4, 5, 6, 7] (by decide) rfl
        exact cut36_2 v w1 w2 _ _ _ h19 h29 hSq hl hP hD hS
      · --  ¬ (F 1 9) ≤ w2
        rcases h19 with rfl | rfl | rfl
        · --  0
          refine lv_aload_n hx hb d_T_storeInCopies_67 rfl (lv_at hl 0 rfl) ?_
          refine va_get (D := (dC, dI)) (ci := 0) (v := .ref a9) (C := "VotedTriple") (T := F_T) (N := 11) hx hb hw in_T hown hK hP 0 rfl rfl 1 (by decide) (hw _ k_195) (fun _ h9 => h9) rfl d_T_storeInCopies_68 ?_
          refine lv_iload_n hx hb d_T_storeInCopies_71 rfl (lv_at hl 3 rfl) ?_
          refine va_aldq hx hb hK hP 1 0 rfl rfl (by unfold vp_in; decide) d_T_storeInCopies_72 ?_
          refine W.eq (g2 := F0 m 73 ls [.ref (da 1)]) rfl ?_
          refine lv_iload_n hx hb d_T_storeInCopies_73 rfl (lv_at hl 2 rfl) ?_
          refine lv_aload_n hx hb d_T_storeInCopies_74 rfl (lv_at hl 0 rfl) ?_
          refine va_get (D := (dC, dI)) (ci := 0) (v := .ref a9) (C := "VotedTriple") (T := F_T) (N := 11) hx hb hw in_T hown hK hP 0 rfl rfl 1 (by decide) (hw _ k_195) (fun _ h9 => h9) rfl d_T_storeInCopies_75 ?_
          refine lv_iload_n hx hb d_T_storeInCopies_78 rfl (lv_at hl 1 rfl) ?_
          refine va_aldq hx hb hK hP 1 0 rfl rfl (by unfold vp_in; decide) d_T_storeInCopies_79 ?_
          refine W.eq (g2 := F0 m 80 ls [.ref (da 0), .int w2, .ref (da 1)]) rfl ?_
          refine va_get (D := (dC, dI)) (ci := 2) (v := .int (F 0 6)) (C := "VotedTriple$VotedModule") (T := F_D) (N := 19) hx hb hw in_D hown hK hP 2 rfl rfl 6 (by decide) (hw _ k_95) (fun x9 h9 => u_same (hw _ k_96) x9 h9) rfl d_T_storeInCopies_80 ?_
          replace hPc := hP.sub (ws' := [(da 1, .inr (2, oD (F 1) (ra 1) (ka 1))), (ka 1, .inl (ck 1, 32, .inl (v 1)))]) [4, 5] rfl
          replace hKc := hK.sub (tys' := [(ck 1, .int)]) [2] rfl
          replace hDc := hD.sub (ws' := [(da 1, .inr (2, oD (F 1) (ra 1) (ka 1))), (ka 1, .inl (ck 1, 32, .inl (v 1)))]) [4, 5] (by decide) rfl
          replace hFc := va_free (wc := [(da 1, .inr (2, oD (F 1) (ra 1) (ka 1))), (ka 1, .inl (ck 1, 32, .inl (v 1)))]) hD hS hA [4, 5] rfl
          refine va_callv (va_runV (C := "VotedTriple$VotedModule") (As := [.int w2, .int (F 0 6)]) (rest := []) ⟨hx, hb, hml, hown, hw⟩ (c_D_writeWord l dC dI (da 1) (ra 1) (ka 1) (F 1) (ck 1) (v 1) w2 (F 0 6) h29 t9 H.size) (cwV 2 hw (gdV (k_275) (k_629) (k_273) (k_274) (k_7)) rfl rfl rfl (by decide +kernel) ⟨Nat.le_of_ble_eq_true rfl, Nat.le_of_ble_eq_true rfl⟩) ⟨fun a U g mk q => by obtain ⟨q0, q1, qP, qK, qD, qB⟩ := q; exact ⟨q0, q1, qP, va_K.moved (u := U) (U := U.calling g mk a) (Vm.Alike.refl U.vm) qK, qD, cb_vm (u := U) (U := U.calling g mk a) rfl qB⟩, va_recv hK hP rfl (q0 := 4) rfl, fun U hU hW => ⟨rfl, by rw [hU], by rw [hU]; exact hPc, va_K.moved hW.alike hKc, hDc.weaken (fun _ _ _ _ => trivial), by rw [hU]; exact cb_narrow (cb_warm hW (cb_kept hcb (fun a h1 h2 => hS.2.1 a h1 h2))) hFc⟩⟩ rfl rfl hl.1 rfl (lv_room (Nat.le_of_ble_eq_true rfl)) d_T_storeInCopies_83 ⟨Nat.le_of_ble_eq_true rfl, Nat.le_of_ble_eq_true rfl⟩) hS (fun q _ h => hFc q h) hFc (fun u9 t H1 locs ht hvm hr18 hB hz1 hk1 hS => ?_)
          obtain ⟨cd219, rfl⟩ : ∃ z, z = u9 := ⟨_, rfl⟩
          obtain ⟨hP1, hK1, hD1⟩ := hB
          rw [ht] at hP1
          replace hK1 := va_K.moved hvm.symm hK1
          try dsimp only at hr18 hP1 hK1 hD1
          obtain ⟨hr18, hr18E⟩ := hr18
          obtain ⟨hPz, hDz⟩ := va_join (wr := [(h0, .inr (0, oT uT p9 a9 e9 n9 o9)), (a9, .inl (ca, 3, .inr (.inr (.inr (.inr (mo da)))))), (da 0, .inr (2, oD (F 0) (ra 0) (ka 0))), (ka 0, .inl (ck 0, 32, .inl (v 0))), (da 2, .inr (2, oD (F 2) (ra 2) (ka 2))), (ka 2, .inl (ck 2, 32, .inl (v 2)))]) (w1 := [(da 1, .inr (2, oD (F 1) (ra 1) (ka 1))), (ka 1, .inl (ck 1, 32, .inl cd219))]) hP hD [4, 5] [0, 1, 2, 3, 6, 7] rfl rfl (by decide) (by decide) hk1 hFc hP1 hD1
          clear hP hD hPc hDc hP1 hD1 hFc
          have hP := hPz
          have hD := hDz
          clear hPz hDz
          replace hK := (hK.sub (tys' := [(ca, .object "VotedTriple$VotedModule"), (ck 0, .int), (ck 2, .int)]) [0, 1, 3] rfl).app hK1
          clear hK1 hKc
          generalize H1 = H at hP hS ⊢
          replace hP : va_P (dC, dI) classes [(h0, .inr (0, oT uT p9 a9 e9 n9 o9)), (a9, .inl (ca, 3, .inr (.inr (.inr (.inr (mo da)))))), (da 0, .inr (2, oD (F 0) (ra 0) (ka 0))), (ka 0, .inl (ck 0, 32, .inl (v 0))), (da 2, .inr (2, oD (F 2) (ra 2) (ka 2))), (ka 2, .inl (ck 2, 32, .inl (v 2))), (da 1, .inr (2, oD (F 1) (ra 1) (ka 1))), (ka 1, .inl (ck 1, 32, .inl cd219))] H := hP
          replace hD : va_D A [(h0, .inr (0, oT uT p9 a9 e9 n9 o9)), (a9, .inl (ca, 3, .inr (.inr (.inr (.inr (mo da)))))), (da 0, .inr (2, oD (F 0) (ra 0) (ka 0))), (ka 0, .inl (ck 0, 32, .inl (v 0))), (da 2, .inr (2, oD (F 2) (ra 2) (ka 2))), (ka 2, .inl (ck 2, 32, .inl (v 2))), (da 1, .inr (2, oD (F 1) (ra 1) (ka 1))), (ka 1, .inl (ck 1, 32, .inl cd219))] := hD
          replace hK : va_K (dC, dI) classes [(ca, .object "VotedTriple$VotedModule"), (ck 0, .int), (ck 2, .int), (ck 1, .int)] s := hK
          refine W.widen (k := 0) (n := 0) (Nat.le_of_ble_eq_true rfl) (Nat.le_of_ble_eq_true rfl) ?_
          refine lv_iinc (k := 3) (v := 2) hx hb d_T_storeInCopies_86 hl rfl rfl (by decide) rfl (fun ls hl => ?_)
          replace hl : lv_has ls 4 [(3, .int 2), (0, .ref h0), (1, .int 0), (2, .int w2)] := hl
          refine lv_goto (tgt := 36) hx hb d_T_storeInCopies_89 rfl ?_
          have hSq : SP = s_T_storeInCopies_cut36_2 F (tri (v 0) cd219 (v 2)) 0 w2 := by rw [hSq0, s_T_storeInCopies_cut36_1]; try (rw [if_pos hc15]); try (rw [if_neg hc16]); try (rw [if_pos rfl]); try (rw [← hr18E, bnd_eq]); all_goals rfl
          replace hl := lv_sub hl (l' := [(0, .ref h0), (1, .int 0), (2, .int w2), (3, .int 2)]) [1, 2, 3, 0] rfl
          replace hP := hP.sub (ws' := [(h0, .inr (0, oT uT p9 a9 e9 n9 o9)), (a9, .inl (ca, 3, .inr (.inr (.inr (.inr (mo da)))))), (da 0, .inr (2, oD (F 0) (ra 0) (ka 0))), (ka 0, .inl (ck 0, 32, .inl (tri (v 0) cd219 (v 2) 0))), (da 1, .inr (2, oD (F 1) (ra 1) (ka 1))), (ka 1, .inl (ck 1, 32, .inl (tri (v 0) cd219 (v 2) 1))), (da 2, .inr (2, oD (F 2) (ra 2) (ka 2))), (ka 2, .inl (ck 2, 32, .inl (tri (v 0) cd219 (v 2) 2)))]) [0, 1, 2, 3, 6, 7, 4, 5] rfl
          replace hD := hD.sub (ws' := [(h0, .inr (0, oT uT p9 a9 e9 n9 o9)), (a9, .inl (ca, 3, .inr (.inr (.inr (.inr (mo da)))))), (da 0, .inr (2, oD (F 0) (ra 0) (ka 0))), (ka 0, .inl (ck 0, 32, .inl (tri (v 0) cd219 (v 2) 0))), (da 1, .inr (2, oD (F 1) (ra 1) (ka 1))), (ka 1, .inl (ck 1, 32, .inl (tri (v 0) cd219 (v 2) 1))), (da 2, .inr (2, oD (F 2) (ra 2) (ka 2))), (ka 2, .inl (ck 2, 32, .inl (tri (v 0) cd219 (v 2) 2)))]) [0, 1, 2, 3, 6, 7, 4, 5] (by decide) rfl
          exact cut36_2 (tri (v 0) cd219 (v 2)) 0 w2 _ _ _ (Or.inl rfl) h29 hSq hl hP hD hS
        · --  1
          refine lv_aload_n hx hb d_T_storeInCopies_67 rfl (lv_at hl 0 rfl) ?_
          refine va_get (D := (dC, dI)) (ci := 0) (v := .ref a9) (C := "VotedTriple") (T := F_T) (N := 11) hx hb hw in_T hown hK hP 0 rfl rfl 1 (by decide) (hw _ k_195) (fun _ h9 => h9) rfl d_T_storeInCopies_68 ?_
          refine lv_iload_n hx hb d_T_storeInCopies_71 rfl (lv_at hl 3 rfl) ?_
          refine va_aldq hx hb hK hP 1 0 rfl rfl (by unfold vp_in; decide) d_T_storeInCopies_72 ?_
          refine W.eq (g2 := F0 m 73 ls [.ref (da 1)]) rfl ?_
          refine lv_iload_n hx hb d_T_storeInCopies_73 rfl (lv_at hl 2 rfl) ?_
          refine lv_aload_n hx hb d_T_storeInCopies_74 rfl (lv_at hl 0 rfl) ?_
          refine va_get (D := (dC, dI)) (ci := 0) (v := .ref a9) (C := "VotedTriple") (T := F_T) (N := 11) hx hb hw in_T hown hK hP 0 rfl rfl 1 (by decide) (hw _ k_195) (fun _ h9 => h9) rfl d_T_storeInCopies_75 ?_
          refine lv_iload_n hx hb d_T_storeInCopies_78 rfl (lv_at hl 1 rfl) ?_
          refine va_aldq hx hb hK hP 1 0 rfl rfl (by unfold vp_in; decide) d_T_storeInCopies_79 ?_
          refine W.eq (g2 := F0 m 80 ls [.ref (da 1), .int w2, .ref (da 1)]) rfl ?_
          refine va_get (D := (dC, dI)) (ci := 2) (v := .int (F 1 6)) (C := "VotedTriple$VotedModule") (T := F_D) (N := 19) hx hb hw in_D hown hK hP 4 rfl rfl 6 (by decide) (hw _ k_95) (fun x9 h9 => u_same (hw _ k_96) x9 h9) rfl d_T_storeInCopies_80 ?_
          replace hPc := hP.sub (ws' := [(da 1, .inr (2, oD (F 1) (ra 1) (ka 1))), (ka 1, .inl (ck 1, 32, .inl (v 1)))]) [4, 5] rfl
          replace hKc := hK.sub (tys' := [(ck 1, .int)]) [2] rfl
          replace hDc := hD.sub (ws' := [(da 1, .inr (2, oD (F 1) (ra 1) (ka 1))), (ka 1, .inl (ck 1, 32, .inl (v 1)))]) [4, 5] (by decide) rfl
          replace hFc := va_free (wc := [(da 1, .inr (2, oD (F 1) (ra 1) (ka 1))), (ka 1, .inl (ck 1, 32, .inl (v 1)))]) hD hS hA [4, 5] rfl
          refine va_callv (va_runV (C := "VotedTriple$VotedModule") (As := [.int w2, .int (F 1 6)]) (rest := []) ⟨hx, hb, hml, hown, hw⟩ (c_D_writeWord l dC dI (da 1) (ra 1) (ka 1) (F 1) (ck 1) (v 1) w2 (F 1 6) h29 t9 H.size) (cwV 2 hw (gdV (k_275) (k_629) (k_273) (k_274) (k_7)) rfl rfl rfl (by decide +kernel) ⟨Nat.le_of_ble_eq_true rfl, Nat.le_of_ble_eq_true rfl⟩) ⟨fun a U g mk q => by obtain ⟨q0, q1, qP, qK, qD, qB⟩ := q; exact ⟨q0, q1, qP, va_K.moved (u := U) (U := U.calling g mk a) (Vm.Alike.refl U.vm) qK, qD, cb_vm (u := U) (U := U.calling g mk a) rfl qB⟩, va_recv hK hP rfl (q0 := 4) rfl, fun U hU hW => ⟨rfl, by rw [hU], by rw [hU]; exact hPc, va_K.moved hW.alike hKc, hDc.weaken (fun _ _ _ _ => trivial), by rw [hU]; exact cb_narrow (cb_warm hW (cb_kept hcb (fun a h1 h2 => hS.2.1 a h1 h2))) hFc⟩⟩ rfl rfl hl.1 rfl (lv_room (Nat.le_of_ble_eq_true rfl)) d_T_storeInCopies_83 ⟨Nat.le_of_ble_eq_true rfl, Nat.le_of_ble_eq_true rfl⟩) hS (fun q _ h => hFc q h) hFc (fun u9 t H1 locs ht hvm hr21 hB hz1 hk1 hS => ?_)
          obtain ⟨cd222, rfl⟩ : ∃ z, z = u9 := ⟨_, rfl⟩
          obtain ⟨hP1, hK1, hD1⟩ := hB
          rw [ht] at hP1
          replace hK1 := va_K.moved hvm.symm hK1
          try dsimp only at hr21 hP1 hK1 hD1
          obtain ⟨hr21, hr21E⟩ := hr21
          obtain ⟨hPz, hDz⟩ := va_join (wr := [(h0, .inr (0, oT uT p9 a9 e9 n9 o9)), (a9, .inl (ca, 3, .inr (.inr (.inr (.inr (mo da)))))), (da 0, .inr (2, oD (F 0) (ra 0) (ka 0))), (ka 0, .inl (ck 0, 32, .inl (v 0))), (da 2, .inr (2, oD (F 2) (ra 2) (ka 2))), (ka 2, .inl (ck 2, 32, .inl (v 2)))]) (w1 := [(da 1, .inr (2, oD (F 1) (ra 1) (ka 1))), (ka 1, .inl (ck 1, 32, .inl cd222))]) hP hD [4, 5] [0, 1, 2, 3, 6, 7] rfl rfl (by decide) (by decide) hk1 hFc hP1 hD1
          clear hP hD hPc hDc hP1 hD1 hFc
          have hP := hPz
          have hD := hDz
          clear hPz hDz
          replace hK := (hK.sub (tys' := [(ca, .object "VotedTriple$VotedModule"), (ck 0, .int), (ck 2, .int)]) [0, 1, 3] rfl).app hK1
          clear hK1 hKc
          generalize H1 = H at hP hS ⊢
          replace hP : va_P (dC, dI) classes [(h0, .inr (0, oT uT p9 a9 e9 n9 o9)), (a9, .inl (ca, 3, .inr (.inr (.inr (.inr (mo da)))))), (da 0, .inr (2, oD (F 0) (ra 0) (ka 0))), (ka 0, .inl (ck 0, 32, .inl (v 0))), (da 2, .inr (2, oD (F 2) (ra 2) (ka 2))), (ka 2, .inl (ck 2, 32, .inl (v 2))), (da 1, .inr (2, oD (F 1) (ra 1) (ka 1))), (ka 1, .inl (ck 1, 32, .inl cd222))] H := hP
          replace hD : va_D A [(h0, .inr (0, oT uT p9 a9 e9 n9 o9)), (a9, .inl (ca, 3, .inr (.inr (.inr (.inr (mo da)))))), (da 0, .inr (2, oD (F 0) (ra 0) (ka 0))), (ka 0, .inl (ck 0, 32, .inl (v 0))), (da 2, .inr (2, oD (F 2) (ra 2) (ka 2))), (ka 2, .inl (ck 2, 32, .inl (v 2))), (da 1, .inr (2, oD (F 1) (ra 1) (ka 1))), (ka 1, .inl (ck 1, 32, .inl cd222))] := hD
          replace hK : va_K (dC, dI) classes [(ca, .object "VotedTriple$VotedModule"), (ck 0, .int), (ck 2, .int), (ck 1, .int)] s := hK
          refine W.widen (k := 0) (n := 0) (Nat.le_of_ble_eq_true rfl) (Nat.le_of_ble_eq_true rfl) ?_
          refine lv_iinc (k := 3) (v := 2) hx hb d_T_storeInCopies_86 hl rfl rfl (by decide) rfl (fun ls hl => ?_)
          replace hl : lv_has ls 4 [(3, .int 2), (0, .ref h0), (1, .int 1), (2, .int w2)] := hl
          refine lv_goto (tgt := 36) hx hb d_T_storeInCopies_89 rfl ?_
          have hSq : SP = s_T_storeInCopies_cut36_2 F (tri (v 0) cd222 (v 2)) 1 w2 := by rw [hSq0, s_T_storeInCopies_cut36_1]; try (rw [if_pos hc15]); try (rw [if_neg hc16]); try (rw [if_neg (by decide)]); try (rw [if_pos rfl]); try (rw [← hr21E, bnd_eq]); all_goals rfl
          replace hl := lv_sub hl (l' := [(0, .ref h0), (1, .int 1), (2, .int w2), (3, .int 2)]) [1, 2, 3, 0] rfl
          replace hP := hP.sub (ws' := [(h0, .inr (0, oT uT p9 a9 e9 n9 o9)), (a9, .inl (ca, 3, .inr (.inr (.inr (.inr (mo da)))))), (da 0, .inr (2, oD (F 0) (ra 0) (ka 0))), (ka 0, .inl (ck 0, 32, .inl (tri (v 0) cd222 (v 2) 0))), (da 1, .inr (2, oD (F 1) (ra 1) (ka 1))), (ka 1, .inl (ck 1, 32, .inl (tri (v 0) cd222 (v 2) 1))), (da 2, .inr (2, oD (F 2) (ra 2) (ka 2))), (ka 2, .inl (ck 2, 32, .inl (tri (v 0) cd222 (v 2) 2)))]) [0, 1, 2, 3, 6, 7, 4, 5] rfl
          replace hD := hD.sub (ws' := [(h0, .inr (0, oT uT p9 a9 e9 n9 o9)), (a9, .inl (ca, 3, .inr (.inr (.inr (.inr (mo da)))))), (da 0, .inr (2, oD (F 0) (ra 0) (ka 0))), (ka 0, .inl (ck 0, 32, .inl (tri (v 0) cd222 (v 2) 0))), (da 1, .inr (2, oD (F 1) (ra 1) (ka 1))), (ka 1, .inl (ck 1, 32, .inl (tri (v 0) cd222 (v 2) 1))), (da 2, .inr (2, oD (F 2) (ra 2) (ka 2))), (ka 2, .inl (ck 2, 32, .inl (tri (v 0) cd222 (v 2) 2)))]) [0, 1, 2, 3, 6, 7, 4, 5] (by decide) rfl
          exact cut36_2 (tri (v 0) cd222 (v 2)) 1 w2 _ _ _ (Or.inr (Or.inl rfl)) h29 hSq hl hP hD hS
        · --  2
          refine lv_aload_n hx hb d_T_storeInCopies_67 rfl (lv_at hl 0 rfl) ?_
          refine va_get (D := (dC, dI)) (ci := 0) (v := .ref a9) (C := "VotedTriple") (T := F_T) (N := 11) hx hb hw in_T hown hK hP 0 rfl rfl 1 (by decide) (hw _ k_195) (fun _ h9 => h9) rfl d_T_storeInCopies_68 ?_
          refine lv_iload_n hx hb d_T_storeInCopies_71 rfl (lv_at hl 3 rfl) ?_
          refine va_aldq hx hb hK hP 1 0 rfl rfl (by unfold vp_in; decide) d_T_storeInCopies_72 ?_
          refine W.eq (g2 := F0 m 73 ls [.ref (da 1)]) rfl ?_
          refine lv_iload_n hx hb d_T_storeInCopies_73 rfl (lv_at hl 2 rfl) ?_
          refine lv_aload_n hx hb d_T_storeInCopies_74 rfl (lv_at hl 0 rfl) ?_
          refine va_get (D := (dC, dI)) (ci := 0) (v := .ref a9) (C := "VotedTriple") (T := F_T) (N := 11) hx hb hw in_T hown hK hP 0 rfl rfl 1 (by decide) (hw _ k_195) (fun _ h9 => h9) rfl d_T_storeInCopies_75 ?_
          refine lv_iload_n hx hb d_T_storeInCopies_78 rfl (lv_at hl 1 rfl) ?_
          refine va_aldq hx hb hK hP 1 0 rfl rfl (by unfold vp_in; decide) d_T_storeInCopies_79 ?_
          refine W.eq (g2 := F0 m 80 ls [.ref (da 2), .int w2, .ref (da 1)]) rfl ?_
          refine va_get (D := (dC, dI)) (ci := 2) (v := .int (F 2 6)) (C := "VotedTriple$VotedModule") (T := F_D) (N := 19) hx hb hw in_D hown hK hP 6 rfl rfl 6 (by decide) (hw _ k_95) (fun x9 h9 => u_same (hw _ k_96) x9 h9) rfl d_T_storeInCopies_80 ?_
          replace hPc := hP.sub (ws' := [(da 1, .inr (2, oD (F 1) (ra 1) (ka 1))), (ka 1, .inl (ck 1, 32, .inl (v 1)))]) [4, 5] rfl
          replace hKc := hK.sub (tys' := [(ck 1, .int)]) [2] rfl
          replace hDc := hD.sub (ws' := [(da 1, .inr (2, oD (F 1) (ra 1) (ka 1))), (ka 1, .inl (ck 1, 32, .inl (v 1)))]) [4, 5] (by decide) rfl
          replace hFc := va_free (wc := [(da 1, .inr (2, oD (F 1) (ra 1) (ka 1))), (ka 1, .inl (ck 1, 32, .inl (v 1)))]) hD hS hA [4, 5] rfl
          refine va_callv (va_runV (C := "VotedTriple$VotedModule") (As := [.int w2, .int (F 2 6)]) (rest := []) ⟨hx, hb, hml, hown, hw⟩ (c_D_writeWord l dC dI (da 1) (ra 1) (ka 1) (F 1) (ck 1) (v 1) w2 (F 2 6) h29 t9 H.size) (cwV 2 hw (gdV (k_275) (k_629) (k_273) (k_274) (k_7)) rfl rfl rfl (by decide +kernel) ⟨Nat.le_of_ble_eq_true rfl, Nat.le_of_ble_eq_true rfl⟩) ⟨fun a U g mk q => by obtain ⟨q0, q1, qP, qK, qD, qB⟩ := q; exact ⟨q0, q1, qP, va_K.moved (u := U) (U := U.calling g mk a) (Vm.Alike.refl U.vm) qK, qD, cb_vm (u := U) (U := U.calling g mk a) rfl qB⟩, va_recv hK hP rfl (q0 := 4) rfl, fun U hU hW => ⟨rfl, by rw [hU], by rw [hU]; exact hPc, va_K.moved hW.alike hKc, hDc.weaken (fun _ _ _ _ => trivial), by rw [hU]; exact cb_narrow (cb_warm hW (cb_kept hcb (fun a h1 h2 => hS.2.1 a h1 h2))) hFc⟩⟩ rfl rfl hl.1 rfl (lv_room (Nat.le_of_ble_eq_true rfl)) d_T_storeInCopies_83 ⟨Nat.le_of_ble_eq_true rfl, Nat.le_of_ble_eq_true rfl⟩) hS (fun q _ h => hFc q h) hFc (fun u9 t H1 locs ht hvm hr24 hB hz1 hk1 hS => ?_)
          obtain ⟨cd225, rfl⟩ : ∃ z, z = u9 := ⟨_, rfl⟩
          obtain ⟨hP1, hK1, hD1⟩ := hB
          rw [ht] at hP1
          replace hK1 := va_K.moved hvm.symm hK1
          try dsimp only at hr24 hP1 hK1 hD1
          obtain ⟨hr24, hr24E⟩ := hr24
          obtain ⟨hPz, hDz⟩ := va_join (wr := [(h0, .inr (0, oT uT p9 a9 e9 n9 o9)), (a9, .inl (ca, 3, .inr (.inr (.inr (.inr (mo da)))))), (da 0, .inr (2, oD (F 0) (ra 0) (ka 0))), (ka 0, .inl (ck 0, 32, .inl (v 0))), (da 2, .inr (2, oD (F 2) (ra 2) (ka 2))), (ka 2, .inl (ck 2, 32, .inl (v 2)))]) (w1 := [(da 1, .inr (2, oD (F 1) (ra 1) (ka 1))), (ka 1, .inl (ck 1, 32, .inl cd225))]) hP hD [4, 5] [0, 1, 2, 3, 6, 7] rfl rfl (by decide) (by decide) hk1 hFc hP1 hD1
          clear hP hD hPc hDc hP1 hD1 hFc
          have hP := hPz
          have hD := hDz
          clear hPz hDz
          replace hK := (hK.sub (tys' := [(ca, .object "VotedTriple$VotedModule"), (ck 0, .int), (ck 2, .int)]) [0, 1, 3] rfl).app hK1
          clear hK1 hKc
          generalize H1 = H at hP hS ⊢
          replace hP : va_P (dC, dI) classes [(h0, .inr (0, oT uT p9 a9 e9 n9 o9)), (a9, .inl (ca, 3, .inr (.inr (.inr (.inr (mo da)))))), (da 0, .inr (2, oD (F 0) (ra 0) (ka 0))), (ka 0, .inl (ck 0, 32, .inl (v 0))), (da 2, .inr (2, oD (F 2) (ra 2) (ka 2))), (ka 2, .inl (ck 2, 32, .inl (v 2))), (da 1, .inr (2, oD (F 1) (ra 1) (ka 1))), (ka 1, .inl (ck 1, 32, .inl cd225))] H := hP
          replace hD : va_D A [(h0, .inr (0, oT uT p9 a9 e9 n9 o9)), (a9, .inl (ca, 3, .inr (.inr (.inr (.inr (mo da)))))), (da 0, .inr (2, oD (F 0) (ra 0) (ka 0))), (ka 0, .inl (ck 0, 32, .inl (v 0))), (da 2, .inr (2, oD (F 2) (ra 2) (ka 2))), (ka 2, .inl (ck 2, 32, .inl (v 2))), (da 1, .inr (2, oD (F 1) (ra 1) (ka 1))), (ka 1, .inl (ck 1, 32, .inl cd225))] := hD
          replace hK : va_K (dC, dI) classes [(ca, .object "VotedTriple$VotedModule"), (ck 0, .int), (ck 2, .int), (ck 1, .int)] s := hK
          refine W.widen (k := 0) (n := 0) (Nat.le_of_ble_eq_true rfl) (Nat.le_of_ble_eq_true rfl) ?_
          refine lv_iinc (k := 3) (v := 2) hx hb d_T_storeInCopies_86 hl rfl rfl (by decide) rfl (fun ls hl => ?_)
          replace hl : lv_has ls 4 [(3, .int 2), (0, .ref h0), (1, .int 2), (2, .int w2)] := hl
          refine lv_goto (tgt := 36) hx hb d_T_storeInCopies_89 rfl ?_
          have hSq : SP = s_T_storeInCopies_cut36_2 F (tri (v 0) cd225 (v 2)) 2 w2 := by rw [hSq0, s_T_storeInCopies_cut36_1]; try (rw [if_pos hc15]); try (rw [if_neg hc16]); try (rw [if_neg (by decide)]); try (rw [if_neg (by decide)]); try (rw [← hr24E, bnd_eq]); all_goals rfl
          replace hl := lv_sub hl (l' := [(0, .ref h0), (1, .int 2), (2, .int w2), (3, .int 2)]) [1, 2, 3, 0] rfl
          replace hP := hP.sub (ws' := [(h0, .inr (0, oT uT p9 a9 e9 n9 o9)), (a9, .inl (ca, 3, .inr (.inr (.inr (.inr (mo da)))))), (da 0, .inr (2, oD (F 0) (ra 0) (ka 0))), (ka 0, .inl (ck 0, 32, .inl (tri (v 0) cd225 (v 2) 0))), (da 1, .inr (2, oD (F 1) (ra 1) (ka 1))), (ka 1, .inl (ck 1, 32, .inl (tri (v 0) cd225 (v 2) 1))), (da 2, .inr (2, oD (F 2) (ra 2) (ka 2))), (ka 2, .inl (ck 2, 32, .inl (tri (v 0) cd225 (v 2) 2)))]) [0, 1, 2, 3, 6, 7, 4, 5] rfl
          replace hD := hD.sub (ws' := [(h0, .inr (0, oT uT p9 a9 e9 n9 o9)), (a9, .inl (ca, 3, .inr (.inr (.inr (.inr (mo da)))))), (da 0, .inr (2, oD (F 0) (ra 0) (ka 0))), (ka 0, .inl (ck 0, 32, .inl (tri (v 0) cd225 (v 2) 0))), (da 1, .inr (2, oD (F 1) (ra 1) (ka 1))), (ka 1, .inl (ck 1, 32, .inl (tri (v 0) cd225 (v 2) 1))), (da 2, .inr (2, oD (F 2) (ra 2) (ka 2))), (ka 2, .inl (ck 2, 32, .inl (tri (v 0) cd225 (v 2) 2)))]) [0, 1, 2, 3, 6, 7, 4, 5] (by decide) rfl
          exact cut36_2 (tri (v 0) cd225 (v 2)) 2 w2 _ _ _ (Or.inr (Or.inr rfl)) h29 hSq hl hP hD hS
  have cut36_0 : ∀ (v : Nat → Nat → Int32) (w1 : Int32) (w2 : Int32) (ls : Array Slot) (H : Heap) (locs : List Loc), (w1 = 0 ∨ w1 = 1 ∨ w1 = 2) → vp_in w2 32 → SP = s_T_storeInCopies_cut36_0 F v w1 w2 →  lv_has ls 4 [(0, .ref h0), (1, .int w1), (2, .int w2), (3, .int 0)] → va_P (dC, dI) classes [(h0, .inr (0, oT uT p9 a9 e9 n9 o9)), (a9, .inl (ca, 3, .inr (.inr (.inr (.inr (mo da)))))), (da 0, .inr (2, oD (F 0) (ra 0) (ka 0))), (ka 0, .inl (ck 0, 32, .inl (v 0))), (da 1, .inr (2, oD (F 1) (ra 1) (ka 1))), (ka 1, .inl (ck 1, 32, .inl (v 1))), (da 2, .inr (2, oD (F 2) (ra 2) (ka 2))), (ka 2, .inl (ck 2, 32, .inl (v 2)))] H → va_D A [(h0, .inr (0, oT uT p9 a9 e9 n9 o9)), (a9, .inl (ca, 3, .inr (.inr (.inr (.inr (mo da)))))), (da 0, .inr (2, oD (F 0) (ra 0) (ka 0))), (ka 0, .inl (ck 0, 32, .inl (v 0))), (da 1, .inr (2, oD (F 1) (ra 1) (ka 1))), (ka 1, .inl (ck 1, 32, .inl (v 1))), (da 2, .inr (2, oD (F 2) (ra 2) (ka 2))), (ka 2, .inl (ck 2, 32, .inl (v 2)))] → va_S A s.heap H locs → W p l e (headSpec (tbw y_T_storeInCopies b_T_storeInCopies 4 none) ({ frames := 4, cells := 0, slots := 0, locals := 87 })).room s m ([.ref h0] : List Value).toArray below meth c H locs 0 0 (MQ below (va_Qv (fun (u9 : (Nat → Nat → Int32)) => match u9 with | v2 => (True) ∧ (v2) = SP) (fun (u9 : (Nat → Nat → Int32)) t => match u9 with | v2 => va_P (dC, dI) classes [(h0, .inr (0, oT uT p9 a9 e9 n9 o9)), (a9, .inl (ca, 3, .inr (.inr (.inr (.inr (mo da)))))), (da 0, .inr (2, oD (F 0) (ra 0) (ka 0))), (ka 0, .inl (ck 0, 32, .inl (v2 0))), (da 1, .inr (2, oD (F 1) (ra 1) (ka 1))), (ka 1, .inl (ck 1, 32, .inl (v2 1))), (da 2, .inr (2, oD (F 2) (ra 2) (ka 2))), (ka 2, .inl (ck 2, 32, .inl (v2 2)))] t.heap ∧ va_K (dC, dI) classes [(ca, .object "VotedTriple$VotedModule"), (ck 0, .int), (ck 1, .int), (ck 2, .int)] t ∧ va_D A [(h0, .inr (0, oT uT p9 a9 e9 n9 o9)), (a9, .inl (ca, 3, .inr (.inr (.inr (.inr (mo da)))))), (da 0, .inr (2, oD (F 0) (ra 0) (ka 0))), (ka 0, .inl (ck 0, 32, .inl (v2 0))), (da 1, .inr (2, oD (F 1) (ra 1) (ka 1))), (ka 1, .inl (ck 1, 32, .inl (v2 1))), (da 2, .inr (2, oD (F 2) (ra 2) (ka 2))), (ka 2, .inl (ck 2, 32, .inl (v2 2)))]) A) ([.ref h0] : List Value).toArray s 0 0 A) (F0 m 36 ls []) := by
    intro v w1 w2 ls H locs h19 h29 hSq0 hl hP hD hS
    clear cut36_3 cut36_2
    refine lv_iload_n hx hb d_T_storeInCopies_36 rfl (lv_at hl 3 rfl) ?_
    refine lv_iconst (v := 3) hx hb d_T_storeInCopies_37 (by decide) ?_
    refine lv_icmp_ge (tgt := 92) hx hb d_T_storeInCopies_38 rfl (fun hc26 => by first | exact absurd hc26 (by decide) | exact absurd (by decide) hc26) (fun hc26 => ?_)
    refine lv_aload_n hx hb d_T_storeInCopies_41 rfl (lv_at hl 0 rfl) ?_
    refine va_get (D := (dC, dI)) (ci := 0) (v := .ref a9) (C := "VotedTriple") (T := F_T) (N := 11) hx hb hw in_T hown hK hP 0 rfl rfl 1 (by decide) (hw _ k_195) (fun _ h9 => h9) rfl d_T_storeInCopies_42 ?_
    refine lv_iload_n hx hb d_T_storeInCopies_45 rfl (lv_at hl 3 rfl) ?_
    refine va_aldq hx hb hK hP 1 0 rfl rfl (by unfold vp_in; decide) d_T_storeInCopies_46 ?_
    refine W.eq (g2 := F0 m 47 ls [.ref (da 0)]) rfl ?_
    refine va_get (D := (dC, dI)) (ci := 2) (v := .int (F 0 8)) (C := "VotedTriple$VotedModule") (T := F_D) (N := 19) hx hb hw in_D hown hK hP 2 rfl rfl 8 (by decide) (hw _ k_143) (fun _ h9 => h9) rfl d_T_storeInCopies_47 ?_
    refine lv_iconst (v := 1) hx hb d_T_storeInCopies_50 (by decide) ?_
    refine lv_icmp_ne (tgt := 86) hx hb d_T_storeInCopies_51 rfl (fun hc27 => ?_) (fun hc27 => ?_)
    · --  ¬ (F 0 8) = 1
      refine lv_iinc (k := 3) (v := 1) hx hb d_T_storeInCopies_86 hl rfl rfl (by decide) rfl (fun ls hl => ?_)
      replace hl : lv_has ls 4 [(3, .int 1), (0, .ref h0), (1, .int w1), (2, .int w2)] := hl
      refine lv_goto (tgt := 36) hx hb d_T_storeInCopies_89 rfl ?_
      have hSq : SP = s_T_storeInCopies_cut36_1 F v w1 w2 := by rw [hSq0, s_T_storeInCopies_cut36_0]; try (rw [if_neg hc27]); all_goals rfl
      replace hl := lv_sub hl (l' := [(0, .ref h0), (1, .int w1), (2, .int w2), (3, .int 1)]) [1, 2, 3, 0] rfl
      replace hP := hP.sub (ws' := [(h0, .inr (0, oT uT p9 a9 e9 n9 o9)), (a9, .inl (ca, 3, .inr (.inr (.inr (.inr (mo da)))))), (da 0, .inr (2, oD (F 0) (ra 0) (ka 0))), (ka 0, .inl (ck 0, 32, .inl (v 0))), (da 1, .inr (2, oD (F 1) (ra 1) (ka 1))), (ka 1, .inl (ck 1, 32, .inl (v 1))), (da 2, .inr (2, oD (F 2) (ra 2) (ka 2))), (ka 2, .inl (ck 2, 32, .inl (v 2)))]) [0, 1, 2, 3, 4, 5, 6, 7] rfl
      replace hD := hD.sub (ws' := [(h0, .inr (0, oT uT p9 a9 e9 n9 o9)), (a9, .inl (ca, 3, .inr (.inr (.inr (.inr (mo da)))))), (da 0, .inr (2, oD (F 0) (ra 0) (ka 0))), (ka 0, .inl (ck 0, 32, .inl (v 0))), (da 1, .inr (2, oD (F 1) (ra 1) (ka 1))), (ka 1, .inl (ck 1, 32, .inl (v 1))), (da 2, .inr (2, oD (F 2) (ra 2) (ka 2))), (ka 2, .inl (ck 2, 32, .inl (v 2)))]) [0, 1, 2, 3, 4, 5, 6, 7] (by decide) rfl
      exact cut36_1 v w1 w2 _ _ _ h19 h29 hSq hl hP hD hS
    · --  (F 0 8) = 1
      refine lv_iload_n hx hb d_T_storeInCopies_54 rfl (lv_at hl 2 rfl) ?_
      refine lv_aload_n hx hb d_T_storeInCopies_55 rfl (lv_at hl 0 rfl) ?_
      refine va_get (D := (dC, dI)) (ci := 0) (v := .ref a9) (C := "VotedTriple") (T := F_T) (N := 11) hx hb hw in_T hown hK hP 0 rfl rfl 1 (by decide) (hw _ k_195) (fun _ h9 => h9) rfl d_T_storeInCopies_56 ?_
      refine lv_iload_n hx hb d_T_storeInCopies_59 rfl (lv_at hl 3 rfl) ?_
      refine va_aldq hx hb hK hP 1 0 rfl rfl (by unfold vp_in; decide) d_T_storeInCopies_60 ?_
      refine W.eq (g2 := F0 m 61 ls [.ref (da 0), .int w2]) rfl ?_
      refine va_get (D := (dC, dI)) (ci := 2) (v := .int (F 0 9)) (C := "VotedTriple$VotedModule") (T := F_D) (N := 19) hx hb hw in_D hown hK hP 2 rfl rfl 9 (by decide) (hw _ k_145) (fun _ h9 => h9) rfl d_T_storeInCopies_61 ?_
      refine lv_icmp_ge (tgt := 86) hx hb d_T_storeInCopies_64 rfl (fun hc28 => ?_) (fun hc28 => ?_)
      · --  (F 0 9) ≤ w2
        refine lv_iinc (k := 3) (v := 1) hx hb d_T_storeInCopies_86 hl rfl rfl (by decide) rfl (fun ls hl => ?_)
        replace hl : lv_has ls 4 [(3, .int 1), (0, .ref h0), (1, .int w1), (2, .int w2)] := hl
        refine lv_goto (tgt := 36) hx hb d_T_storeInCopies_89 rfl ?_
        have hSq : SP = s_T_storeInCopies_cut36_1 F v w1 w2 := by rw [hSq0, s_T_storeInCopies_cut36_0]; try (rw [if_pos hc27]); try (rw [if_pos hc28]); all_goals rfl
        replace hl := lv_sub hl (l' := [(0, .ref h0), (1, .int w1), (2, .int w2), (3, .int 1)]) [1, 2, 3, 0] rfl
        replace hP := hP.sub (ws' := [(h0, .inr (0, oT uT p9 a9 e9 n9 o9)), (a9, .inl (ca, 3, .inr (.inr (.inr (.inr (mo da)))))), (da 0, .inr (2, oD (F 0) (ra 0) (ka 0))), (ka 0, .inl (ck 0, 32, .inl (v 0))), (da 1, .inr (2, oD (F 1) (ra 1) (ka 1))), (ka 1, .inl (ck 1, 32, .inl (v 1))), (da 2, .inr (2, oD (F 2) (ra 2) (ka 2))), (ka 2, .inl (ck 2, 32, .inl (v 2)))]) [0, 1, 2, 3, 4, 5, 6, 7] rfl
        replace hD := hD.sub (ws' := [(h0, .inr (0, oT uT p9 a9 e9 n9 o9)), (a9, .inl (ca, 3, .inr (.inr (.inr (.inr (mo da)))))), (da 0, .inr (2, oD (F 0) (ra 0) (ka 0))), (ka 0, .inl (ck 0, 32, .inl (v 0))), (da 1, .inr (2, oD (F 1) (ra 1) (ka 1))), (ka 1, .inl (ck 1, 32, .inl (v 1))), (da 2, .inr (2, oD (F 2) (ra 2) (ka 2))), (ka 2, .inl (ck 2, 32, .inl (v 2)))]) [0, 1, 2, 3, 4, 5, 6, 7] (by decide) rfl
        exact cut36_1 v w1 w2 _ _ _ h19 h29 hSq hl hP hD hS
      · --  ¬ (F 0 9) ≤ w2
        rcases h19 with rfl | rfl | rfl
        · --  0
          refine lv_aload_n hx hb d_T_storeInCopies_67 rfl (lv_at hl 0 rfl) ?_
          refine va_get (D := (dC, dI)) (ci := 0) (v := .ref a9) (C := "VotedTriple") (T := F_T) (N := 11) hx hb hw in_T hown hK hP 0 rfl rfl 1 (by decide) (hw _ k_195) (fun _ h9 => h9) rfl d_T_storeInCopies_68 ?_
          refine lv_iload_n hx hb d_T_storeInCopies_71 rfl (lv_at hl 3 rfl) ?_
          refine va_aldq hx hb hK hP 1 0 rfl rfl (by unfold vp_in; decide) d_T_storeInCopies_72 ?_
          refine W.eq (g2 := F0 m 73 ls [.ref (da 0)]) rfl ?_
          refine lv_iload_n hx hb d_T_storeInCopies_73 rfl (lv_at hl 2 rfl) ?_
          refine lv_aload_n hx hb d_T_storeInCopies_74 rfl (lv_at hl 0 rfl) ?_
          refine va_get (D := (dC, dI)) (ci := 0) (v := .ref a9) (C := "VotedTriple") (T := F_T) (N := 11) hx hb hw in_T hown hK hP 0 rfl rfl 1 (by decide) (hw _ k_195) (fun _ h9 => h9) rfl d_T_storeInCopies_75 ?_
          refine lv_iload_n hx hb d_T_storeInCopies_78 rfl (lv_at hl 1 rfl) ?_
          refine va_aldq hx hb hK hP 1 0 rfl rfl (by unfold vp_in; decide) d_T_storeInCopies_79 ?_
          refine W.eq (g2 := F0 m 80 ls [.ref (da 0), .int w2, .ref (da 0)]) rfl ?_
          refine va_get (D := (dC, dI)) (ci := 2) (v := .int (F 0 6)) (C := "VotedTriple$VotedModule") (T := F_D) (N := 19) hx hb hw in_D hown hK hP 2 rfl rfl 6 (by decide) (hw _ k_95) (fun x9 h9 => u_same (hw _ k_96) x9 h9) rfl d_T_storeInCopies_80 ?_
          replace hPc := hP.sub (ws' := [(da 0, .inr (2, oD (F 0) (ra 0) (ka 0))), (ka 0, .inl (ck 0, 32, .inl (v 0)))]) [2, 3] rfl
          replace hKc := hK.sub (tys' := [(ck 0, .int)]) [1] rfl
          replace hDc := hD.sub (ws' := [(da 0, .inr (2, oD (F 0) (ra 0) (ka 0))), (ka 0, .inl (ck 0, 32, .inl (v 0)))]) [2, 3] (by decide) rfl
          replace hFc := va_free (wc := [(da 0, .inr (2, oD (F 0) (ra 0) (ka 0))), (ka 0, .inl (ck 0, 32, .inl (v 0)))]) hD hS hA [2, 3] rfl
          refine va_callv (va_runV (C := "VotedTriple$VotedModule") (As := [.int w2, .int (F 0 6)]) (rest := []) ⟨hx, hb, hml, hown, hw⟩ (c_D_writeWord l dC dI (da 0) (ra 0) (ka 0) (F 0) (ck 0) (v 0) w2 (F 0 6) h29 t9 H.size) (cwV 2 hw (gdV (k_275) (k_629) (k_273) (k_274) (k_7)) rfl rfl rfl (by decide +kernel) ⟨Nat.le_of_ble_eq_true rfl, Nat.le_of_ble_eq_true rfl⟩) ⟨fun a U g mk q => by obtain ⟨q0, q1, qP, qK, qD, qB⟩ := q; exact ⟨q0, q1, qP, va_K.moved (u := U) (U := U.calling g mk a) (Vm.Alike.refl U.vm) qK, qD, cb_vm (u := U) (U := U.calling g mk a) rfl qB⟩, va_recv hK hP rfl (q0 := 2) rfl, fun U hU hW => ⟨rfl, by rw [hU], by rw [hU]; exact hPc, va_K.moved hW.alike hKc, hDc.weaken (fun _ _ _ _ => trivial), by rw [hU]; exact cb_narrow (cb_warm hW (cb_kept hcb (fun a h1 h2 => hS.2.1 a h1 h2))) hFc⟩⟩ rfl rfl hl.1 rfl (lv_room (Nat.le_of_ble_eq_true rfl)) d_T_storeInCopies_83 ⟨Nat.le_of_ble_eq_true rfl, Nat.le_of_ble_eq_true rfl⟩) hS (fun q _ h => hFc q h) hFc (fun u9 t H1 locs ht hvm hr30 hB hz1 hk1 hS => ?_)
          obtain ⟨cd231, rfl⟩ : ∃ z, z = u9 := ⟨_, rfl⟩
          obtain ⟨hP1, hK1, hD1⟩ := hB
          rw [ht] at hP1
          replace hK1 := va_K.moved hvm.symm hK1
          try dsimp only at hr30 hP1 hK1 hD1
          obtain ⟨hr30, hr30E⟩ := hr30
          obtain ⟨hPz, hDz⟩ := va_join (wr := [(h0, .inr (0, oT uT p9 a9 e9 n9 o9)), (a9, .inl (ca, 3, .inr (.inr (.inr (.inr (mo da)))))), (da 1, .inr (2, oD (F 1) (ra 1) (ka 1))), (ka 1, .inl (ck 1, 32, .inl (v 1))), (da 2, .inr (2, oD (F 2) (ra 2) (ka 2))), (ka 2, .inl (ck 2, 32, .inl (v 2)))]) (w1 := [(da 0, .inr (2, oD (F 0) (ra 0) (ka 0))), (ka 0, .inl (ck 0, 32, .inl cd231))]) hP hD [2, 3] [0, 1, 4, 5, 6, 7] rfl rfl (by decide) (by decide) hk1 hFc hP1 hD1
          clear hP hD hPc hDc hP1 hD1 hFc
          have hP := hPz
          have hD := hDz
          clear hPz hDz
          replace hK := (hK.sub (tys' := [(ca, .object "VotedTriple$VotedModule"), (ck 1, .int), (ck 2, .int)]) [0, 2, 3] rfl).app hK1
          clear hK1 hKc
          generalize H1 = H at hP hS ⊢
          replace hP : va_P (dC, dI) classes [(h0, .inr (0, oT uT p9 a9 e9 n9 o9)), (a9, .inl (ca, 3, .inr (.inr (.inr (.inr (mo da)))))), (da 1, .inr (2, oD (F 1) (ra 1) (ka 1))), (ka 1, .inl (ck 1, 32, .inl (v 1))), (da 2, .inr (2, oD (F 2) (ra 2) (ka 2))), (ka 2, .inl (ck 2, 32, .inl (v 2))), (da 0, .inr (2, oD (F 0) (ra 0) (ka 0))), (ka 0, .inl (ck 0, 32, .inl cd231))] H := hP
          replace hD : va_D A [(h0, .inr (0, oT uT p9 a9 e9 n9 o9)), (a9, .inl (ca, 3, .inr (.inr (.inr (.inr (mo da)))))), (da 1, .inr (2, oD (F 1) (ra 1) (ka 1))), (ka 1, .inl (ck 1, 32, .inl (v 1))), (da 2, .inr (2, oD (F 2) (ra 2) (ka 2))), (ka 2, .inl (ck 2, 32, .inl (v 2))), (da 0, .inr (2, oD (F 0) (ra 0) (ka 0))), (ka 0, .inl (ck 0, 32, .inl cd231))] := hD
          replace hK : va_K (dC, dI) classes [(ca, .object "VotedTriple$VotedModule"), (ck 1, .int), (ck 2, .int), (ck 0, .int)] s := hK
          refine W.widen (k := 0) (n := 0) (Nat.le_of_ble_eq_true rfl) (Nat.le_of_ble_eq_true rfl) ?_
          refine lv_iinc (k := 3) (v := 1) hx hb d_T_storeInCopies_86 hl rfl rfl (by decide) rfl (fun ls hl => ?_)
          replace hl : lv_has ls 4 [(3, .int 1), (0, .ref h0), (1, .int 0), (2, .int w2)] := hl
          refine lv_goto (tgt := 36) hx hb d_T_storeInCopies_89 rfl ?_
          have hSq : SP = s_T_storeInCopies_cut36_1 F (tri cd231 (v 1) (v 2)) 0 w2 := by rw [hSq0, s_T_storeInCopies_cut36_0]; try (rw [if_pos hc27]); try (rw [if_neg hc28]); try (rw [if_pos rfl]); try (rw [← hr30E, bnd_eq]); all_goals rfl
          replace hl := lv_sub hl (l' := [(0, .ref h0), (1, .int 0), (2, .int w2), (3, .int 1)]) [1, 2, 3, 0] rfl
          replace hP := hP.sub (ws' := [(h0, .inr (0, oT uT p9 a9 e9 n9 o9)), (a9, .inl (ca, 3, .inr (.inr (.inr (.inr (mo da)))))), (da 0, .inr (2, oD (F 0) (ra 0) (ka 0))), (ka 0, .inl (ck 0, 32, .inl (tri cd231 (v 1) (v 2) 0))), (da 1, .inr (2, oD (F 1) (ra 1) (ka 1))), (ka 1, .inl (ck 1, 32, .inl (tri cd231 (v 1) (v 2) 1))), (da 2, .inr (2, oD (F 2) (ra 2) (ka 2))), (ka 2, .inl (ck 2, 32, .inl (tri cd231 (v 1) (v 2) 2)))]) [0, 1, 6, 7, 2, 3, 4, 5] rfl
          replace hD := hD.sub (ws' := [(h0, .inr (0, oT uT p9 a9 e9 n9 o9)), (a9, .inl (ca, 3, .inr (.inr (.inr (.inr (mo da)))))), (da 0, .inr (2, oD (F 0) (ra 0) (ka 0))), (ka 0, .inl (ck 0, 32, .inl (tri cd231 (v 1) (v 2) 0))), (da 1, .inr (2, oD (F 1) (ra 1) (ka 1))), (ka 1, .inl (ck 1, 32, .inl (tri cd231 (v 1) (v 2) 1))), (da 2, .inr (2, oD (F 2) (ra 2) (ka 2))), (ka 2, .inl (ck 2, 32, .inl (tri cd231 (v 1) (v 2) 2)))]) [0, 1, 6, 7, 2, 3, 4, 5] (by decide) rfl
          exact cut36_1 (tri cd231 (v 1) (v 2)) 0 w2 _ _ _ (Or.inl rfl) h29 hSq hl hP hD hS
        · --  1
          refine lv_aload_n hx hb d_T_storeInCopies_67 rfl (lv_at hl 0 rfl) ?_
          refine va_get (D := (dC, dI)) (ci := 0) (v := .ref a9) (C := "VotedTriple") (T := F_T) (N := 11) hx hb hw in_T hown hK hP 0 rfl rfl 1 (by decide) (hw _ k_195) (fun _ h9 => h9) rfl d_T_storeInCopies_68 ?_
          refine lv_iload_n hx hb d_T_storeInCopies_71 rfl (lv_at hl 3 rfl) ?_
          refine va_aldq hx hb hK hP 1 0 rfl rfl (by unfold vp_in; decide) d_T_storeInCopies_72 ?_
          refine W.eq (g2 := F0 m 73 ls [.ref (da 0)]) rfl ?_
          refine lv_iload_n hx hb d_T_storeInCopies_73 rfl (lv_at hl 2 rfl) ?_
          refine lv_aload_n hx hb d_T_storeInCopies_74 rfl (lv_at hl 0 rfl) ?_
          refine va_get (D := (dC, dI)) (ci := 0) (v := .ref a9) (C := "VotedTriple") (T := F_T) (N := 11) hx hb hw in_T hown hK hP 0 rfl rfl 1 (by decide) (hw _ k_195) (fun _ h9 => h9) rfl d_T_storeInCopies_75 ?_
          refine lv_iload_n hx hb d_T_storeInCopies_78 rfl (lv_at hl 1 rfl) ?_
          refine va_aldq hx hb hK hP 1 0 rfl rfl (by unfold vp_in; decide) d_T_storeInCopies_79 ?_
          refine W.eq (g2 := F0 m 80 ls [.ref (da 1), .int w2, .ref (da 0)]) rfl ?_
          refine va_get (D := (dC, dI)) (ci := 2) (v := .int (F 1 6)) (C := "VotedTriple$VotedModule") (T := F_D) (N := 19) hx hb hw in_D hown hK hP 4 rfl rfl 6 (by decide) (hw _ k_95) (fun x9 h9 => u_same (hw _ k_96) x9 h9) rfl d_T_storeInCopies_80 ?_
          replace hPc := hP.sub (ws' := [(da 0, .inr (2, oD (F 0) (ra 0) (ka 0))), (ka 0, .inl (ck 0, 32, .inl (v 0)))]) [2, 3] rfl
          replace hKc := hK.sub (tys' := [(ck 0, .int)]) [1] rfl
          replace hDc := hD.sub (ws' := [(da 0, .inr (2, oD (F 0) (ra 0) (ka 0))), (ka 0, .inl (ck 0, 32, .inl (v 0)))]) [2, 3] (by decide) rfl
          replace hFc := va_free (wc := [(da 0, .inr (2, oD (F 0) (ra 0) (ka 0))), (ka 0, .inl (ck 0, 32, .inl (v 0)))]) hD hS hA [2, 3] rfl
          refine va_callv (va_runV (C := "VotedTriple$VotedModule") (As := [.int w2, .int (F 1 6)]) (rest := []) ⟨hx, hb, hml, hown, hw⟩ (c_D_writeWord l dC dI (da 0) (ra 0) (ka 0) (F 0) (ck 0) (v 0) w2 (F 1 6) h29 t9 H.size) (cwV 2 hw (gdV (k_275) (k_629) (k_273) (k_274) (k_7)) rfl rfl rfl (by decide +kernel) ⟨Nat.le_of_ble_eq_true rfl, Nat.le_of_ble_eq_true rfl⟩) ⟨fun a U g mk q => by obtain ⟨q0, q1, qP, qK, qD, qB⟩ := q; exact ⟨q0, q1, qP, va_K.moved (u := U) (U := U.calling g mk a) (Vm.Alike.refl U.vm) qK, qD, cb_vm (u := U) (U := U.calling g mk a) rfl qB⟩, va_recv hK hP rfl (q0 := 2) rfl, fun U hU hW => ⟨rfl, by rw [hU], by rw [hU]; exact hPc, va_K.moved hW.alike hKc, hDc.weaken (fun _ _ _ _ => trivial), by rw [hU]; exact cb_narrow (cb_warm hW (cb_kept hcb (fun a h1 h2 => hS.2.1 a h1 h2))) hFc⟩⟩ rfl rfl hl.1 rfl (lv_room (Nat.le_of_ble_eq_true rfl)) d_T_storeInCopies_83 ⟨Nat.le_of_ble_eq_true rfl, Nat.le_of_ble_eq_true rfl⟩) hS (fun q _ h => hFc q h) hFc (fun u9 t H1 locs ht hvm hr33 hB hz1 hk1 hS => ?_)
          obtain ⟨cd234, rfl⟩ : ∃ z, z = u9 := ⟨_, rfl⟩
          obtain ⟨hP1, hK1, hD1⟩ := hB
          rw [ht] at hP1
          replace hK1 := va_K.moved hvm.symm hK1
          try dsimp only at hr33 hP1 hK1 hD1
          obtain ⟨hr33, hr33E⟩ := hr33
          obtain ⟨hPz, hDz⟩ := va_join (wr := [(h0, .inr (0, oT uT p9 a9 e9 n9 o9)), (a9, .inl (ca, 3, .inr (.inr (.inr (.inr (mo da)))))), (da 1, .inr (2, oD (F 1) (ra 1) (ka 1))), (ka 1, .inl (ck 1, 32, .inl (v 1))), (da 2, .inr (2, oD (F 2) (ra 2) (ka 2))), (ka 2, .inl (ck 2, 32, .inl (v 2)))]) (w1 := [(da 0, .inr (2, oD (F 0) (ra 0) (ka 0))), (ka 0, .inl (ck 0, 32, .inl cd234))]) hP hD [2, 3] [0, 1, 4, 5, 6, 7] rfl rfl (by decide) (by decide) hk1 hFc hP1 hD1
          clear hP hD hPc hDc hP1 hD1 hFc
          have hP := hPz
          have hD := hDz
          clear hPz hDz
          replace hK := (hK.sub (tys' := [(ca, .object "VotedTriple$VotedModule"), (ck 1, .int), (ck 2, .int)]) [0, 2, 3] rfl).app hK1
          clear hK1 hKc
          generalize H1 = H at hP hS ⊢
          replace hP : va_P (dC, dI) classes [(h0, .inr (0, oT uT p9 a9 e9 n9 o9)), (a9, .inl (ca, 3, .inr (.inr (.inr (.inr (mo da)))))), (da 1, .inr (2, oD (F 1) (ra 1) (ka 1))), (ka 1, .inl (ck 1, 32, .inl (v 1))), (da 2, .inr (2, oD (F 2) (ra 2) (ka 2))), (ka 2, .inl (ck 2, 32, .inl (v 2))), (da 0, .inr (2, oD (F 0) (ra 0) (ka 0))), (ka 0, .inl (ck 0, 32, .inl cd234))] H := hP
          replace hD : va_D A [(h0, .inr (0, oT uT p9 a9 e9 n9 o9)), (a9, .inl (ca, 3, .inr (.inr (.inr (.inr (mo da)))))), (da 1, .inr (2, oD (F 1) (ra 1) (ka 1))), (ka 1, .inl (ck 1, 32, .inl (v 1))), (da 2, .inr (2, oD (F 2) (ra 2) (ka 2))), (ka 2, .inl (ck 2, 32, .inl (v 2))), (da 0, .inr (2, oD (F 0) (ra 0) (ka 0))), (ka 0, .inl (ck 0, 32, .inl cd234))] := hD
          replace hK : va_K (dC, dI) classes [(ca, .object "VotedTriple$VotedModule"), (ck 1, .int), (ck 2, .int), (ck 0, .int)] s := hK
          refine W.widen (k := 0) (n := 0) (Nat.le_of_ble_eq_true rfl) (Nat.le_of_ble_eq_true rfl) ?_
          refine lv_iinc (k := 3) (v := 1) hx hb d_T_storeInCopies_86 hl rfl rfl (by decide) rfl (fun ls hl => ?_)
          replace hl : lv_has ls 4 [(3, .int 1), (0, .ref h0), (1, .int 1), (2, .int w2)] := hl
          refine lv_goto (tgt := 36) hx hb d_T_storeInCopies_89 rfl ?_
          have hSq : SP = s_T_storeInCopies_cut36_1 F (tri cd234 (v 1) (v 2)) 1 w2 := by rw [hSq0, s_T_storeInCopies_cut36_0]; try (rw [if_pos hc27]); try (rw [if_neg hc28]); try (rw [if_neg (by decide)]); try (rw [if_pos rfl]); try (rw [← hr33E, bnd_eq]); all_goals rfl
          replace hl := lv_sub hl (l' := [(0, .ref h0), (1, .int 1), (2, .int w2), (3, .int 1)]) [1, 2, 3, 0] rfl
          replace hP := hP.sub (ws' := [(h0, .inr (0, oT uT p9 a9 e9 n9 o9)), (a9, .inl (ca, 3, .inr (.inr (.inr (.inr (mo da)))))), (da 0, .inr (2, oD (F 0) (ra 0) (ka 0))), (ka 0, .inl (ck 0, 32, .inl (tri cd234 (v 1) (v 2) 0))), (da 1, .inr (2, oD (F 1) (ra 1) (ka 1))), (ka 1, .inl (ck 1, 32, .inl (tri cd234 (v 1) (v 2) 1))), (da 2, .inr (2, oD (F 2) (ra 2) (ka 2))), (ka 2, .inl (ck 2, 32, .inl (tri cd234 (v 1) (v 2) 2)))]) [0, 1, 6, 7, 2, 3, 4, 5] rfl
          replace hD := hD.sub (ws' := [(h0, .inr (0, oT uT p9 a9 e9 n9 o9)), (a9, .inl (ca, 3, .inr (.inr (.inr (.inr (mo da)))))), (da 0, .inr (2, oD (F 0) (ra 0) (ka 0))), (ka 0, .inl (ck 0, 32, .inl (tri cd234 (v 1) (v 2) 0))), (da 1, .inr (2, oD (F 1) (ra 1) (ka 1))), (ka 1, .inl (ck 1, 32, .inl (tri cd234 (v 1) (v 2) 1))), (da 2, .inr (2, oD (F 2) (ra 2) (ka 2))), (ka 2, .inl (ck 2, 32, .inl (tri cd234 (v 1) (v 2) 2)))]) [0, 1, 6, 7, 2, 3, 4, 5] (by decide) rfl
          exact cut36_1 (tri cd234 (v 1) (v 2)) 1 w2 _ _ _ (Or.inr (Or.inl rfl)) h29 hSq hl hP hD hS
        · --  2
          refine lv_aload_n hx hb d_T_storeInCopies_67 rfl (lv_at hl 0 rfl) ?_
          refine va_get (D := (dC, dI)) (ci := 0) (v := .ref a9) (C := "VotedTriple") (T := F_T) (N := 11) hx hb hw in_T hown hK hP 0 rfl rfl 1 (by decide) (hw _ k_195) (fun _ h9 => h9) rfl d_T_storeInCopies_68 ?_
          refine lv_iload_n hx hb d_T_storeInCopies_71 rfl (lv_at hl 3 rfl) ?_
          refine va_aldq hx hb hK hP 1 0 rfl rfl (by unfold vp_in; decide) d_T_storeInCopies_72 ?_
          refine W.eq (g2 := F0 m 73 ls [.ref (da 0)]) rfl ?_
          refine lv_iload_n hx hb d_T_storeInCopies_73 rfl (lv_at hl 2 rfl) ?_
          refine lv_aload_n hx hb d_T_storeInCopies_74 rfl (lv_at hl 0 rfl) ?_
          refine va_get (D := (dC, dI)) (ci := 0) (v := .ref a9) (C := "VotedTriple") (T := F_T) (N := 11) hx hb hw in_T hown hK hP 0 rfl rfl 1 (by decide) (hw _ k_195) (fun _ h9 => h9) rfl d_T_storeInCopies_75 ?_
          refine lv_iload_n hx hb d_T_storeInCopies_78 rfl (lv_at hl 1 rfl) ?_
          refine va_aldq hx hb hK hP 1 0 rfl rfl (by unfold vp_in; decide) d_T_storeInCopies_79 ?_
          refine W.eq (g2 := F0 m 80 ls [.ref (da 2), .int w2, .ref (da 0)]) rfl ?_
          refine va_get (D := (dC, dI)) (ci := 2) (v := .int (F 2 6)) (C := "VotedTriple$VotedModule") (T := F_D) (N := 19) hx hb hw in_D hown hK hP 6 rfl rfl 6 (by decide) (hw _ k_95) (fun x9 h9 => u_same (hw _ k_96) x9 h9) rfl d_T_storeInCopies_80 ?_
          replace hPc := hP.sub (ws' := [(da 0, .inr (2, oD (F 0) (ra 0) (ka 0))), (ka 0, .inl (ck 0, 32, .inl (v 0)))]) [2, 3] rfl
          replace hKc := hK.sub (tys' := [(ck 0, .int)]) [1] rfl
          replace hDc := hD.sub (ws' := [(da 0, .inr (2, oD (F 0) (ra 0) (ka 0))), (ka 0, .inl (ck 0, 32, .inl (v 0)))]) [2, 3] (by decide) rfl
          replace hFc := va_free (wc := [(da 0, .inr (2, oD (F 0) (ra 0) (ka 0))), (ka 0, .inl (ck 0, 32, .inl (v 0)))]) hD hS hA [2, 3] rfl
          refine va_callv (va_runV (C := "VotedTriple$VotedModule") (As := [.int w2, .int (F 2 6)]) (rest := []) ⟨hx, hb, hml, hown, hw⟩ (c_D_writeWord l dC dI (da 0) (ra 0) (ka 0) (F 0) (ck 0) (v 0) w2 (F 2 6) h29 t9 H.size) (cwV 2 hw (gdV (k_275) (k_629) (k_273) (k_274) (k_7)) rfl rfl rfl (by decide +kernel) ⟨Nat.le_of_ble_eq_true rfl, Nat.le_of_ble_eq_true rfl⟩) ⟨fun a U g mk q => by obtain ⟨q0, q1, qP, qK, qD, qB⟩ := q; exact ⟨q0, q1, qP, va_K.moved (u := U) (U := U.calling g mk a) (Vm.Alike.refl U.vm) qK, qD, cb_vm (u := U) (U := U.calling g mk a) rfl qB⟩, va_recv hK hP rfl (q0 := 2) rfl, fun U hU hW => ⟨rfl, by rw [hU], by rw [hU]; exact hPc, va_K.moved hW.alike hKc, hDc.weaken (fun _ _ _ _ => trivial), by rw [hU]; exact cb_narrow (cb_warm hW (cb_kept hcb (fun a h1 h2 => hS.2.1 a h1 h2))) hFc⟩⟩ rfl rfl hl.1 rfl (lv_room (Nat.le_of_ble_eq_true rfl)) d_T_storeInCopies_83 ⟨Nat.le_of_ble_eq_true rfl, Nat.le_of_ble_eq_true rfl⟩) hS (fun q _ h => hFc q h) hFc (fun u9 t H1 locs ht hvm hr36 hB hz1 hk1 hS => ?_)
          obtain ⟨cd237, rfl⟩ : ∃ z, z = u9 := ⟨_, rfl⟩
          obtain ⟨hP1, hK1, hD1⟩ := hB
          rw [ht] at hP1
          replace hK1 := va_K.moved hvm.symm hK1
          try dsimp only at hr36 hP1 hK1 hD1
          obtain ⟨hr36, hr36E⟩ := hr36
          obtain ⟨hPz, hDz⟩ := va_join (wr := [(h0, .inr (0, oT uT p9 a9 e9 n9 o9)), (a9, .inl (ca, 3, .inr (.inr (.inr (.inr (mo da)))))), (da 1, .inr (2, oD (F 1) (ra 1) (ka 1))), (ka 1, .inl (ck 1, 32, .inl (v 1))), (da 2, .inr (2, oD (F 2) (ra 2) (ka 2))), (ka 2, .inl (ck 2, 32, .inl (v 2)))]) (w1 := [(da 0, .inr (2, oD (F 0) (ra 0) (ka 0))), (ka 0, .inl (ck 0, 32, .inl cd237))]) hP hD [2, 3] [0, 1, 4, 5, 6, 7] rfl rfl (by decide) (by decide) hk1 hFc hP1 hD1
          clear hP hD hPc hDc hP1 hD1 hFc
          have hP := hPz
          have hD := hDz
          clear hPz hDz
          replace hK := (hK.sub (tys' := [(ca, .object "VotedTriple$VotedModule"), (ck 1, .int), (ck 2, .int)]) [0, 2, 3] rfl).app hK1
          clear hK1 hKc
          generalize H1 = H at hP hS ⊢
          replace hP : va_P (dC, dI) classes [(h0, .inr (0, oT uT p9 a9 e9 n9 o9)), (a9, .inl (ca, 3, .inr (.inr (.inr (.inr (mo da)))))), (da 1, .inr (2, oD (F 1) (ra 1) (ka 1))), (ka 1, .inl (ck 1, 32, .inl (v 1))), (da 2, .inr (2, oD (F 2) (ra 2) (ka 2))), (ka 2, .inl (ck 2, 32, .inl (v 2))), (da 0, .inr (2, oD (F 0) (ra 0) (ka 0))), (ka 0, .inl (ck 0, 32, .inl cd237))] H := hP
          replace hD : va_D A [(h0, .inr (0, oT uT p9 a9 e9 n9 o9)), (a9, .inl (ca, 3, .inr (.inr (.inr (.inr (mo da)))))), (da 1, .inr (2, oD (F 1) (ra 1) (ka 1))), (ka 1, .inl (ck 1, 32, .inl (v 1))), (da 2, .inr (2, oD (F 2) (ra 2) (ka 2))), (ka 2, .inl (ck 2, 32, .inl (v 2))), (da 0, .inr (2, oD (F 0) (ra 0) (ka 0))), (ka 0, .inl (ck 0, 32, .inl cd237))] := hD
          replace hK : va_K (dC, dI) classes [(ca, .object "VotedTriple$VotedModule"), (ck 1, .int), (ck 2, .int), (ck 0, .int)] s := hK
          refine W.widen (k := 0) (n := 0) (Nat.le_of_ble_eq_true rfl) (Nat.le_of_ble_eq_true rfl) ?_
          refine lv_iinc (k := 3) (v := 1) hx hb d_T_storeInCopies_86 hl rfl rfl (by decide) rfl (fun ls hl => ?_)
          replace hl : lv_has ls 4 [(3, .int 1), (0, .ref h0), (1, .int 2), (2, .int w2)] := hl
          refine lv_goto (tgt := 36) hx hb d_T_storeInCopies_89 rfl ?_
          have hSq : SP = s_T_storeInCopies_cut36_1 F (tri cd237 (v 1) (v 2)) 2 w2 := by rw [hSq0, s_T_storeInCopies_cut36_0]; try (rw [if_pos hc27]); try (rw [if_neg hc28]); try (rw [if_neg (by decide)]); try (rw [if_neg (by decide)]); try (rw [← hr36E, bnd_eq]); all_goals rfl
          replace hl := lv_sub hl (l' := [(0, .ref h0), (1, .int 2), (2, .int w2), (3, .int 1)]) [1, 2, 3, 0] rfl
          replace hP := hP.sub (ws' := [(h0, .inr (0, oT uT p9 a9 e9 n9 o9)), (a9, .inl (ca, 3, .inr (.inr (.inr (.inr (mo da)))))), (da 0, .inr (2, oD (F 0) (ra 0) (ka 0))), (ka 0, .inl (ck 0, 32, .inl (tri cd237 (v 1) (v 2) 0))), (da 1, .inr (2, oD (F 1) (ra 1) (ka 1))), (ka 1, .inl (ck 1, 32, .inl (tri cd237 (v 1) (v 2) 1))), (da 2, .inr (2, oD (F 2) (ra 2) (ka 2))), (ka 2, .inl (ck 2, 32, .inl (tri cd237 (v 1) (v 2) 2)))]) [0, 1, 6, 7, 2, 3, 4, 5] rfl
          replace hD := hD.sub (ws' := [(h0, .inr (0, oT uT p9 a9 e9 n9 o9)), (a9, .inl (ca, 3, .inr (.inr (.inr (.inr (mo da)))))), (da 0, .inr (2, oD (F 0) (ra 0) (ka 0))), (ka 0, .inl (ck 0, 32, .inl (tri cd237 (v 1) (v 2) 0))), (da 1, .inr (2, oD (F 1) (ra 1) (ka 1))), (ka 1, .inl (ck 1, 32, .inl (tri cd237 (v 1) (v 2) 1))), (da 2, .inr (2, oD (F 2) (ra 2) (ka 2))), (ka 2, .inl (ck 2, 32, .inl (tri cd237 (v 1) (v 2) 2)))]) [0, 1, 6, 7, 2, 3, 4, 5] (by decide) rfl
          exact cut36_1 (tri cd237 (v 1) (v 2)) 2 w2 _ _ _ (Or.inr (Or.inr rfl)) h29 hSq hl hP hD hS
  clear cut36_3 cut36_2 cut36_1
  refine lv_aload_n hx hb d_T_storeInCopies_0 rfl (lv_at hl 0 rfl) ?_
  replace hPc := hP.sub (ws' := [(h0, .inr (0, oT uT p9 a9 e9 n9 o9)), (a9, .inl (ca, 3, .inr (.inr (.inr (.inr (mo da)))))), (da 0, .inr (2, oD (F 0) (ra 0) (ka 0))), (da 1, .inr (2, oD (F 1) (ra 1) (ka 1))), (da 2, .inr (2, oD (F 2) (ra 2) (ka 2)))]) [0, 1, 2, 4, 6] rfl
  replace hKc := hK.sub (tys' := [(ca, .object "VotedTriple$VotedModule")]) [0] rfl
  refine vp_callSi (va_runV (C := "VotedTriple") (As := []) (rest := []) ⟨hx, hb, hml, hown, hw⟩ (c_T_lowestTrusted l dC dI h0 p9 a9 e9 n9 o9 ca da ra ka uT F) (cwV 0 hw (gdV (k_579) (k_576) (k_578) (ks_8) (k_1)) rfl rfl rfl (by decide +kernel) ⟨Nat.le_of_ble_eq_true rfl, Nat.le_of_ble_eq_true rfl⟩) ⟨fun a U g mk q => ⟨q.1, q.2.1, va_K.moved (u := U) (U := U.calling g mk a) (Vm.Alike.refl U.vm) q.2.2⟩, va_recv hK hP rfl (q0 := 0) rfl, fun U hU hW => ⟨rfl, by rw [hU]; exact hPc, va_K.moved hW.alike hKc⟩⟩ rfl rfl hl.1 rfl (lv_room (Nat.le_of_ble_eq_true rfl)) d_T_storeInCopies_1 ⟨Nat.le_of_ble_eq_true rfl, Nat.le_of_ble_eq_true rfl⟩).run (fun r38 hr39 => ?_)
  obtain ⟨hr39, hr39E⟩ := hr39
  rcases hr39 with rfl | ⟨rfl, hlo40⟩ | ⟨rfl, hlo40⟩ | ⟨rfl, hlo40⟩
  · --  (-1)
    refine lv_istore_n hx hb d_T_storeInCopies_4 rfl hl (by decide) rfl (fun ls hl => ?_)
    replace hl : lv_has ls 4 [(1, .int (-1)), (0, .ref h0)] := hl
    refine lv_iload_n hx hb d_T_storeInCopies_5 rfl (lv_at hl 0 rfl) ?_
    refine lv_iconst (v := (-1)) hx hb d_T_storeInCopies_6 (by decide) ?_
    refine lv_icmp_eq (tgt := 23) hx hb d_T_storeInCopies_7 rfl (fun hc41 => ?_) (fun hc41 => by first | exact absurd (rfl) hc41 | exact absurd hc41 (rfl))
    have hP9 := hP.sub (ws' := [(h0, .inr (0, oT uT p9 a9 e9 n9 o9)), (a9, .inl (ca, 3, .inr (.inr (.inr (.inr (mo da)))))), (da 0, .inr (2, oD (F 0) (ra 0) (ka 0))), (ka 0, .inl (ck 0, 32, .inl (v 0))), (da 1, .inr (2, oD (F 1) (ra 1) (ka 1))), (ka 1, .inl (ck 1, 32, .inl (v 1))), (da 2, .inr (2, oD (F 2) (ra 2) (ka 2))), (ka 2, .inl (ck 2, 32, .inl (v 2)))]) [0, 1, 2, 3, 4, 5, 6, 7] rfl
    have hD9 := hD.sub (ws' := [(h0, .inr (0, oT uT p9 a9 e9 n9 o9)), (a9, .inl (ca, 3, .inr (.inr (.inr (.inr (mo da)))))), (da 0, .inr (2, oD (F 0) (ra 0) (ka 0))), (ka 0, .inl (ck 0, 32, .inl (v 0))), (da 1, .inr (2, oD (F 1) (ra 1) (ka 1))), (ka 1, .inl (ck 1, 32, .inl (v 1))), (da 2, .inr (2, oD (F 2) (ra 2) (ka 2))), (ka 2, .inl (ck 2, 32, .inl (v 2)))]) [0, 1, 2, 3, 4, 5, 6, 7] (by decide) rfl
    have hK9 := hK.sub (tys' := [(ca, .object "VotedTriple$VotedModule"), (ck 0, .int), (ck 1, .int), (ck 2, .int)]) [0, 1, 2, 3] rfl
    refine W.widen (k := 0) (n := 0) (Nat.le_of_ble_eq_true rfl) (Nat.le_of_ble_eq_true rfl) ?_
    exact W.vret hx hb hr (fun t ht hW => ⟨⟨(v), rfl, ⟨trivial, (by rw [← hSP, s_T_storeInCopies]; try (rw [← hr39E, bnd_eq]); try (rw [if_pos rfl]); all_goals rfl)⟩, by rw [ht]; exact hP9, va_K.moved hW.alike hK9, hD9⟩, hS.F ht⟩) hS.2.2 d_T_storeInCopies_23
  · --  0
    refine lv_istore_n hx hb d_T_storeInCopies_4 rfl hl (by decide) rfl (fun ls hl => ?_)
    replace hl : lv_has ls 4 [(1, .int 0), (0, .ref h0)] := hl
    refine lv_iload_n hx hb d_T_storeInCopies_5 rfl (lv_at hl 0 rfl) ?_
    refine lv_iconst (v := (-1)) hx hb d_T_storeInCopies_6 (by decide) ?_
    refine lv_icmp_eq (tgt := 23) hx hb d_T_storeInCopies_7 rfl (fun hc42 => by first | exact absurd hc42 (by decide) | exact absurd (by decide) hc42) (fun hc42 => ?_)
    refine lv_aload_n hx hb d_T_storeInCopies_10 rfl (lv_at hl 1 rfl) ?_
    refine va_get (D := (dC, dI)) (ci := 0) (v := .ref a9) (C := "VotedTriple") (T := F_T) (N := 11) hx hb hw in_T hown hK hP 0 rfl rfl 1 (by decide) (hw _ k_195) (fun _ h9 => h9) rfl d_T_storeInCopies_11 ?_
    refine lv_iload_n hx hb d_T_storeInCopies_14 rfl (lv_at hl 0 rfl) ?_
    refine va_aldq hx hb hK hP 1 0 rfl rfl (by unfold vp_in; decide) d_T_storeInCopies_15 ?_
    refine W.eq (g2 := F0 m 16 ls [.ref (da 0)]) rfl ?_
    refine va_get (D := (dC, dI)) (ci := 2) (v := .int (F 0 5)) (C := "VotedTriple$VotedModule") (T := F_D) (N := 19) hx hb hw in_D hown hK hP 2 rfl rfl 5 (by decide) (hw _ k_92) (fun x9 h9 => u_same (hw _ k_93) x9 h9) rfl d_T_storeInCopies_16 ?_
    refine lv_iconst (v := (-1)) hx hb d_T_storeInCopies_19 (by decide) ?_
    refine lv_icmp_ne (tgt := 24) hx hb d_T_storeInCopies_20 rfl (fun hc43 => ?_) (fun hc43 => ?_)
    · --  ¬ (F 0 5) = (-1)
      refine lv_aload_n hx hb d_T_storeInCopies_24 rfl (lv_at hl 1 rfl) ?_
      refine va_get (D := (dC, dI)) (ci := 0) (v := .ref a9) (C := "VotedTriple") (T := F_T) (N := 11) hx hb hw in_T hown hK hP 0 rfl rfl 1 (by decide) (hw _ k_195) (fun _ h9 => h9) rfl d_T_storeInCopies_25 ?_
      refine lv_iload_n hx hb d_T_storeInCopies_28 rfl (lv_at hl 0 rfl) ?_
      refine va_aldq hx hb hK hP 1 0 rfl rfl (by unfold vp_in; decide) d_T_storeInCopies_29 ?_
      refine W.eq (g2 := F0 m 30 ls [.ref (da 0)]) rfl ?_
      refine va_get (D := (dC, dI)) (ci := 2) (v := .int (F 0 5)) (C := "VotedTriple$VotedModule") (T := F_D) (N := 19) hx hb hw in_D hown hK hP 2 rfl rfl 5 (by decide) (hw _ k_92) (fun x9 h9 => u_same (hw _ k_93) x9 h9) rfl d_T_storeInCopies_30 ?_
      refine lv_istore_n hx hb d_T_storeInCopies_33 rfl hl (by decide) rfl (fun ls hl => ?_)
      replace hl : lv_has ls 4 [(2, .int (F 0 5)), (1, .int 0), (0, .ref h0)] := hl
      refine lv_iconst (v := 0) hx hb d_T_storeInCopies_34 (by decide) ?_
      refine lv_istore_n hx hb d_T_storeInCopies_35 rfl hl (by decide) rfl (fun ls hl => ?_)
      replace hl : lv_has ls 4 [(3, .int 0), (2, .int (F 0 5)), (1, .int 0), (0, .ref h0)] := hl
      have hSq : SP = s_T_storeInCopies_cut36_0 F v 0 (F 0 5) := by rw [← hSP, s_T_storeInCopies]; try (rw [← hr39E, bnd_eq]); try (rw [if_neg (by decide)]); try (rw [if_pos rfl]); try (rw [if_neg hc43]); all_goals rfl
      replace hl := lv_sub hl (l' := [(0, .ref h0), (1, .int 0), (2, .int (F 0 5)), (3, .int 0)]) [3, 2, 1, 0] rfl
      replace hP := hP.sub (ws' := [(h0, .inr (0, oT uT p9 a9 e9 n9 o9)), (a9, .inl (ca, 3, .inr (.inr (.inr (.inr (mo da)))))), (da 0, .inr (2, oD (F 0) (ra 0) (ka 0))), (ka 0, .inl (ck 0, 32, .inl (v 0))), (da 1, .inr (2, oD (F 1) (ra 1) (ka 1))), (ka 1, .inl (ck 1, 32, .inl (v 1))), (da 2, .inr (2, oD (F 2) (ra 2) (ka 2))), (ka 2, .inl (ck 2, 32, .inl (v 2)))]) [0, 1, 2, 3, 4, 5, 6, 7] rfl
      replace hD := hD.sub (ws' := [(h0, .inr (0, oT uT p9 a9 e9 n9 o9)), (a9, .inl (ca, 3, .inr (.inr (.inr (.inr (mo da)))))), (da 0, .inr (2, oD (F 0) (ra 0) (ka 0))), (ka 0, .inl (ck 0, 32, .inl (v 0))), (da 1, .inr (2, oD (F 1) (ra 1) (ka 1))), (ka 1, .inl (ck 1, 32, .inl (v 1))), (da 2, .inr (2, oD (F 2) (ra 2) (ka 2))), (ka 2, .inl (ck 2, 32, .inl (v 2)))]) [0, 1, 2, 3, 4, 5, 6, 7] (by decide) rfl
      exact cut36_0 v 0 (F 0 5) _ _ _ (Or.inl rfl) (opt_in hF.1.2.2.1 hc43 (by decide)) hSq hl hP hD hS
    · --  (F 0 5) = (-1)
      have hP9 := hP.sub (ws' := [(h0, .inr (0, oT uT p9 a9 e9 n9 o9)), (a9, .inl (ca, 3, .inr (.inr (.inr (.inr (mo da)))))), (da 0, .inr (2, oD (F 0) (ra 0) (ka 0))), (ka 0, .inl (ck 0, 32, .inl (v 0))), (da 1, .inr (2, oD (F 1) (ra 1) (ka 1))), (ka 1, .inl (ck 1, 32, .inl (v 1))), (da 2, .inr (2, oD (F 2) (ra 2) (ka 2))), (ka 2, .inl (ck 2, 32, .inl (v 2)))]) [0, 1, 2, 3, 4, 5, 6, 7] rfl
      have hD9 := hD.sub (ws' := [(h0, .inr (0, oT uT p9 a9 e9 n9 o9)), (a9, .inl (ca, 3, .inr (.inr (.inr (.inr (mo da)))))), (da 0, .inr (2, oD (F 0) (ra 0) (ka 0))), (ka 0, .inl (ck 0, 32, .inl (v 0))), (da 1, .inr (2, oD (F 1) (ra 1) (ka 1))), (ka 1, .inl (ck 1, 32, .inl (v 1))), (da 2, .inr (2, oD (F 2) (ra 2) (ka 2))), (ka 2, .inl (ck 2, 32, .inl (v 2)))]) [0, 1, 2, 3, 4, 5, 6, 7] (by decide) rfl
      have hK9 := hK.sub (tys' := [(ca, .object "VotedTriple$VotedModule"), (ck 0, .int), (ck 1, .int), (ck 2, .int)]) [0, 1, 2, 3] rfl
      refine W.widen (k := 0) (n := 0) (Nat.le_of_ble_eq_true rfl) (Nat.le_of_ble_eq_true rfl) ?_
      exact W.vret hx hb hr (fun t ht hW => ⟨⟨(v), rfl, ⟨trivial, (by rw [← hSP, s_T_storeInCopies]; try (rw [← hr39E, bnd_eq]); try (rw [if_neg (by decide)]); try (rw [if_pos rfl]); try (rw [if_pos hc43]); all_goals rfl)⟩, by rw [ht]; exact hP9, va_K.moved hW.alike hK9, hD9⟩, hS.F ht⟩) hS.2.2 d_T_storeInCopies_23
  · --  1
    refine lv_istore_n hx hb d_T_storeInCopies_4 rfl hl (by decide) rfl (fun ls hl => ?_)
    replace hl : lv_has ls 4 [(1, .int 1), (0, .ref h0)] := hl
    refine lv_iload_n hx hb d_T_storeInCopies_5 rfl (lv_at hl 0 rfl) ?_
    refine lv_iconst (v := (-1)) hx hb d_T_storeInCopies_6 (by decide) ?_
    refine lv_icmp_eq (tgt := 23) hx hb d_T_storeInCopies_7 rfl (fun hc44 => by first | exact absurd hc44 (by decide) | exact absurd (by decide) hc44) (fun hc44 => ?_)
    refine lv_aload_n hx hb d_T_storeInCopies_10 rfl (lv_at hl 1 rfl) ?_
    refine va_get (D := (dC, dI)) (ci := 0) (v := .ref a9) (C := "VotedTriple") (T := F_T) (N := 11) hx hb hw in_T hown hK hP 0 rfl rfl 1 (by decide) (hw _ k_195) (fun _ h9 => h9) rfl d_T_storeInCopies_11 ?_
    refine lv_iload_n hx hb d_T_storeInCopies_14 rfl (lv_at hl 0 rfl) ?_
    refine va_aldq hx hb hK hP 1 0 rfl rfl (by unfold vp_in; decide) d_T_storeInCopies_15 ?_
    refine W.eq (g2 := F0 m 16 ls [.ref (da 1)]) rfl ?_
    refine va_get (D := (dC, dI)) (ci := 2) (v := .int (F 1 5)) (C := "VotedTriple$VotedModule") (T := F_D) (N := 19) hx hb hw in_D hown hK hP 4 rfl rfl 5 (by decide) (hw _ k_92) (fun x9 h9 => u_same (hw _ k_93) x9 h9) rfl d_T_storeInCopies_16 ?_
    refine lv_iconst (v := (-1)) hx hb d_T_storeInCopies_19 (by decide) ?_
    refine lv_icmp_ne (tgt := 24) hx hb d_T_storeInCopies_20 rfl (fun hc45 => ?_) (fun hc45 => ?_)
    · --  ¬ (F 1 5) = (-1)
      refine lv_aload_n hx hb d_T_storeInCopies_24 rfl (lv_at hl 1 rfl) ?_
      refine va_get (D := (dC, dI)) (ci := 0) (v := .ref a9) (C := "VotedTriple") (T := F_T) (N := 11) hx hb hw in_T hown hK hP 0 rfl rfl 1 (by decide) (hw _ k_195) (fun _ h9 => h9) rfl d_T_storeInCopies_25 ?_
      refine lv_iload_n hx hb d_T_storeInCopies_28 rfl (lv_at hl 0 rfl) ?_
      refine va_aldq hx hb hK hP 1 0 rfl rfl (by unfold vp_in; decide) d_T_storeInCopies_29 ?_
      refine W.eq (g2 := F0 m 30 ls [.ref (da 1)]) rfl ?_
      refine va_get (D := (dC, dI)) (ci := 2) (v := .int (F 1 5)) (C := "VotedTriple$VotedModule") (T := F_D) (N := 19) hx hb hw in_D hown hK hP 4 rfl rfl 5 (by decide) (hw _ k_92) (fun x9 h9 => u_same (hw _ k_93) x9 h9) rfl d_T_storeInCopies_30 ?_
      refine lv_istore_n hx hb d_T_storeInCopies_33 rfl hl (by decide) rfl (fun ls hl => ?_)
      replace hl : lv_has ls 4 [(2, .int (F 1 5)), (1, .int 1), (0, .ref h0)] := hl
      refine lv_iconst (v := 0) hx hb d_T_storeInCopies_34 (by decide) ?_
      refine lv_istore_n hx hb d_T_storeInCopies_35 rfl hl (by decide) rfl (fun ls hl => ?_)
      replace hl : lv_has ls 4 [(3, .int 0), (2, .int (F 1 5)), (1, .int 1), (0, .ref h0)] := hl
      have hSq : SP = s_T_storeInCopies_cut36_0 F v 1 (F 1 5) := by rw [← hSP, s_T_storeInCopies]; try (rw [← hr39E, bnd_eq]); try (rw [if_neg (by decide)]); try (rw [if_neg (by decide)]); try (rw [if_pos rfl]); try (rw [if_neg hc45]); all_goals rfl
      replace hl := lv_sub hl (l' := [(0, .ref h0), (1, .int 1), (2, .int (F 1 5)), (3, .int 0)]) [3, 2, 1, 0] rfl
      replace hP := hP.sub (ws' := [(h0, .inr (0, oT uT p9 a9 e9 n9 o9)), (a9, .inl (ca, 3, .inr (.inr (.inr (.inr (mo da)))))), (da 0, .inr (2, oD (F 0) (ra 0) (ka 0))), (ka 0, .inl (ck 0, 32, .inl (v 0))), (da 1, .inr (2, oD (F 1) (ra 1) (ka 1))), (ka 1, .inl (ck 1, 32, .inl (v 1))), (da 2, .inr (2, oD (F 2) (ra 2) (ka 2))), (ka 2, .inl (ck 2, 32, .inl (v 2)))]) [0, 1, 2, 3, 4, 5, 6, 7] rfl
      replace hD := hD.sub (ws' := [(h0, .inr (0, oT uT p9 a9 e9 n9 o9)), (a9, .inl (ca, 3, .inr (.inr (.inr (.inr (mo da)))))), (da 0, .inr (2, oD (F 0) (ra 0) (ka 0))), (ka 0, .inl (ck 0, 32, .inl (v 0))), (da 1, .inr (2, oD (F 1) (ra 1) (ka 1))), (ka 1, .inl (ck 1, 32, .inl (v 1))), (da 2, .inr (2, oD (F 2) (ra 2) (ka 2))), (ka 2, .inl (ck 2, 32, .inl (v 2)))]) [0, 1, 2, 3, 4, 5, 6, 7] (by decide) rfl
      exact cut36_0 v 1 (F 1 5) _ _ _ (Or.inr (Or.inl rfl)) (opt_in hF.2.1.2.2.1 hc45 (by decide)) hSq hl hP hD hS
    · --  (F 1 5) = (-1)
      have hP9 := hP.sub (ws' := [(h0, .inr (0, oT uT p9 a9 e9 n9 o9)), (a9, .inl (ca, 3, .inr (.inr (.inr (.inr (mo da)))))), (da 0, .inr (2, oD (F 0) (ra 0) (ka 0))), (ka 0, .inl (ck 0, 32, .inl (v 0))), (da 1, .inr (2, oD (F 1) (ra 1) (ka 1))), (ka 1, .inl (ck 1, 32, .inl (v 1))), (da 2, .inr (2, oD (F 2) (ra 2) (ka 2))), (ka 2, .inl (ck 2, 32, .inl (v 2)))]) [0, 1, 2, 3, 4, 5, 6, 7] rfl
      have hD9 := hD.sub (ws' := [(h0, .inr (0, oT uT p9 a9 e9 n9 o9)), (a9, .inl (ca, 3, .inr (.inr (.inr (.inr (mo da)))))), (da 0, .inr (2, oD (F 0) (ra 0) (ka 0))), (ka 0, .inl (ck 0, 32, .inl (v 0))), (da 1, .inr (2, oD (F 1) (ra 1) (ka 1))), (ka 1, .inl (ck 1, 32, .inl (v 1))), (da 2, .inr (2, oD (F 2) (ra 2) (ka 2))), (ka 2, .inl (ck 2, 32, .inl (v 2)))]) [0, 1, 2, 3, 4, 5, 6, 7] (by decide) rfl
      have hK9 := hK.sub (tys' := [(ca, .object "VotedTriple$VotedModule"), (ck 0, .int), (ck 1, .int), (ck 2, .int)]) [0, 1, 2, 3] rfl
      refine W.widen (k := 0) (n := 0) (Nat.le_of_ble_eq_true rfl) (Nat.le_of_ble_eq_true rfl) ?_
      exact W.vret hx hb hr (fun t ht hW => ⟨⟨(v), rfl, ⟨trivial, (by rw [← hSP, s_T_storeInCopies]; try (rw [← hr39E, bnd_eq]); try (rw [if_neg (by decide)]); try (rw [if_neg (by decide)]); try (rw [if_pos rfl]); try (rw [if_pos hc45]); all_goals rfl)⟩, by rw [ht]; exact hP9, va_K.moved hW.alike hK9, hD9⟩, hS.F ht⟩) hS.2.2 d_T_storeInCopies_23
  · --  2
    refine lv_istore_n hx hb d_T_storeInCopies_4 rfl hl (by decide) rfl (fun ls hl => ?_)
    replace hl : lv_has ls 4 [(1, .int 2), (0, .ref h0)] := hl
    refine lv_iload_n hx hb d_T_storeInCopies_5 rfl (lv_at hl 0 rfl) ?_
    refine lv_iconst (v := (-1)) hx hb d_T_storeInCopies_6 (by decide) ?_
    refine lv_icmp_eq (tgt := 23) hx hb d_T_storeInCopies_7 rfl (fun hc46 => by first | exact absurd hc46 (by decide) | exact absurd (by decide) hc46) (fun hc46 => ?_)
    refine lv_aload_n hx hb d_T_storeInCopies_10 rfl (lv_at hl 1 rfl) ?_
    refine va_get (D := (dC, dI)) (ci := 0) (v := .ref a9) (C := "VotedTriple") (T := F_T) (N := 11) hx hb hw in_T hown hK hP 0 rfl rfl 1 (by decide) (hw _ k_195) (fun _ h9 => h9) rfl d_T_storeInCopies_11 ?_
    refine lv_iload_n hx hb d_T_storeInCopies_14 rfl (lv_at hl 0 rfl) ?_
    refine va_aldq hx hb hK hP 1 0 rfl rfl (by unfold vp_in; decide) d_T_storeInCopies_15 ?_
    refine W.eq (g2 := F0 m 16 ls [.ref (da 2)]) rfl ?_
    refine va_get (D := (dC, dI)) (ci := 2) (v := .int (F 2 5)) (C := "VotedTriple$VotedModule") (T := F_D) (N := 19) hx hb hw in_D hown hK hP 6 rfl rfl 5 (by decide) (hw _ k_92) (fun x9 h9 => u_same (hw _ k_93) x9 h9) rfl d_T_storeInCopies_16 ?_
    refine lv_iconst (v := (-1)) hx hb d_T_storeInCopies_19 (by decide) ?_
    refine lv_icmp_ne (tgt := 24) hx hb d_T_storeInCopies_20 rfl (fun hc47 => ?_) (fun hc47 => ?_)
    · --  ¬ (F 2 5) = (-1)
      refine lv_aload_n hx hb d_T_storeInCopies_24 rfl (lv_at hl 1 rfl) ?_
      refine va_get (D := (dC, dI)) (ci := 0) (v := .ref a9) (C := "VotedTriple") (T := F_T) (N := 11) hx hb hw in_T hown hK hP 0 rfl rfl 1 (by decide) (hw _ k_195) (fun _ h9 => h9) rfl d_T_storeInCopies_25 ?_
      refine lv_iload_n hx hb d_T_storeInCopies_28 rfl (lv_at hl 0 rfl) ?_
      refine va_aldq hx hb hK hP 1 0 rfl rfl (by unfold vp_in; decide) d_T_storeInCopies_29 ?_
      refine W.eq (g2 := F0 m 30 ls [.ref (da 2)]) rfl ?_
      refine va_get (D := (dC, dI)) (ci := 2) (v := .int (F 2 5)) (C := "VotedTriple$VotedModule") (T := F_D) (N := 19) hx hb hw in_D hown hK hP 6 rfl rfl 5 (by decide) (hw _ k_92) (fun x9 h9 => u_same (hw _ k_93) x9 h9) rfl d_T_storeInCopies_30 ?_
      refine lv_istore_n hx hb d_T_storeInCopies_33 rfl hl (by decide) rfl (fun ls hl => ?_)
      replace hl : lv_has ls 4 [(2, .int (F 2 5)), (1, .int 2), (0, .ref h0)] := hl
      refine lv_iconst (v := 0) hx hb d_T_storeInCopies_34 (by decide) ?_
      refine lv_istore_n hx hb d_T_storeInCopies_35 rfl hl (by decide) rfl (fun ls hl => ?_)
      replace hl : lv_has ls 4 [(3, .int 0), (2, .int (F 2 5)), (1, .int 2), (0, .ref h0)] := hl
      have hSq : SP = s_T_storeInCopies_cut36_0 F v 2 (F 2 5) := by rw [← hSP, s_T_storeInCopies]; try (rw [← hr39E, bnd_eq]); try (rw [if_neg (by decide)]); try (rw [if_neg (by decide)]); try (rw [if_neg (by decide)]); try (rw [if_neg hc47]); all_goals rfl
      replace hl := lv_sub hl (l' := [(0, .ref h0), (1, .int 2), (2, .int (F 2 5)), (3, .int 0)]) [3, 2, 1, 0] rfl
      replace hP := hP.sub (ws' := [(h0, .inr (0, oT uT p9 a9 e9 n9 o9)), (a9, .inl (ca, 3, .inr (.inr (.inr (.inr (mo da)))))), (da 0, .inr (2, oD (F 0) (ra 0) (ka 0))), (ka 0, .inl (ck 0, 32, .inl (v 0))), (da 1, .inr (2, oD (F 1) (ra 1) (ka 1))), (ka 1, .inl (ck 1, 32, .inl (v 1))), (da 2, .inr (2, oD (F 2) (ra 2) (ka 2))), (ka 2, .inl (ck 2, 32, .inl (v 2)))]) [0, 1, 2, 3, 4, 5, 6, 7] rfl
      replace hD := hD.sub (ws' := [(h0, .inr (0, oT uT p9 a9 e9 n9 o9)), (a9, .inl (ca, 3, .inr (.inr (.inr (.inr (mo da)))))), (da 0, .inr (2, oD (F 0) (ra 0) (ka 0))), (ka 0, .inl (ck 0, 32, .inl (v 0))), (da 1, .inr (2, oD (F 1) (ra 1) (ka 1))), (ka 1, .inl (ck 1, 32, .inl (v 1))), (da 2, .inr (2, oD (F 2) (ra 2) (ka 2))), (ka 2, .inl (ck 2, 32, .inl (v 2)))]) [0, 1, 2, 3, 4, 5, 6, 7] (by decide) rfl
      exact cut36_0 v 2 (F 2 5) _ _ _ (Or.inr (Or.inr rfl)) (opt_in hF.2.2.2.2.1 hc47 (by decide)) hSq hl hP hD hS
    · --  (F 2 5) = (-1)
      have hP9 := hP.sub (ws' := [(h0, .inr (0, oT uT p9 a9 e9 n9 o9)), (a9, .inl (ca, 3, .inr (.inr (.inr (.inr (mo da)))))), (da 0, .inr (2, oD (F 0) (ra 0) (ka 0))), (ka 0, .inl (ck 0, 32, .inl (v 0))), (da 1, .inr (2, oD (F 1) (ra 1) (ka 1))), (ka 1, .inl (ck 1, 32, .inl (v 1))), (da 2, .inr (2, oD (F 2) (ra 2) (ka 2))), (ka 2, .inl (ck 2, 32, .inl (v 2)))]) [0, 1, 2, 3, 4, 5, 6, 7] rfl
      have hD9 := hD.sub (ws' := [(h0, .inr (0, oT uT p9 a9 e9 n9 o9)), (a9, .inl (ca, 3, .inr (.inr (.inr (.inr (mo da)))))), (da 0, .inr (2, oD (F 0) (ra 0) (ka 0))), (ka 0, .inl (ck 0, 32, .inl (v 0))), (da 1, .inr (2, oD (F 1) (ra 1) (ka 1))), (ka 1, .inl (ck 1, 32, .inl (v 1))), (da 2, .inr (2, oD (F 2) (ra 2) (ka 2))), (ka 2, .inl (ck 2, 32, .inl (v 2)))]) [0, 1, 2, 3, 4, 5, 6, 7] (by decide) rfl
      have hK9 := hK.sub (tys' := [(ca, .object "VotedTriple$VotedModule"), (ck 0, .int), (ck 1, .int), (ck 2, .int)]) [0, 1, 2, 3] rfl
      refine W.widen (k := 0) (n := 0) (Nat.le_of_ble_eq_true rfl) (Nat.le_of_ble_eq_true rfl) ?_
      exact W.vret hx hb hr (fun t ht hW => ⟨⟨(v), rfl, ⟨trivial, (by rw [← hSP, s_T_storeInCopies]; try (rw [← hr39E, bnd_eq]); try (rw [if_neg (by decide)]); try (rw [if_neg (by decide)]); try (rw [if_neg (by decide)]); try (rw [if_pos hc47]); all_goals rfl)⟩, by rw [ht]; exact hP9, va_K.moved hW.alike hK9, hD9⟩, hS.F ht⟩) hS.2.2 d_T_storeInCopies_23

set_option maxHeartbeats 4000000 in
set_option maxRecDepth 100000 in
theorem c_T_scrub (l : Launch) (dC : Nat → ClassId) (dI : Nat → Nat → Nat) (h0 : Nat) (p9 : Nat) (a9 : Nat) (e9 : Nat) (n9 : Nat) (o9 : Nat) (ca : ClassId) (da : Nat → Nat) (ra : Nat → Nat) (ka : Nat → Nat) (ck : Nat → ClassId) (uT : Nat → Int32) (F : Nat → Nat → Int32) (v : Nat → Nat → Int32) (sn : Nat) (hF : f3 F) (hsn : uT 8 = nI sn) (hsb : sn < 2 ^ 30) (t9 : Nat) (sz : Nat) : Met l y_T_scrub (tbw y_T_scrub b_T_scrub 4 (some .boolean)) ({ frames := 3, cells := 0, slots := 0, locals := 64 }) (va_Pc [.ref h0] (fun U => U.heap.size = sz ∧ va_P (dC, dI) classes [(h0, .inr (0, oT uT p9 a9 e9 n9 o9)), (a9, .inl (ca, 3, .inr (.inr (.inr (.inr (mo da)))))), (da 0, .inr (2, oD (F 0) (ra 0) (ka 0))), (ka 0, .inl (ck 0, 32, .inl (v 0))), (da 1, .inr (2, oD (F 1) (ra 1) (ka 1))), (ka 1, .inl (ck 1, 32, .inl (v 1))), (da 2, .inr (2, oD (F 2) (ra 2) (ka 2))), (ka 2, .inl (ck 2, 32, .inl (v 2)))] U.heap ∧ va_K (dC, dI) classes [(ca, .object "VotedTriple$VotedModule"), (ck 0, .int), (ck 1, .int), (ck 2, .int)] U ∧ va_D (fun _ => True) [(h0, .inr (0, oT uT p9 a9 e9 n9 o9)), (a9, .inl (ca, 3, .inr (.inr (.inr (.inr (mo da)))))), (da 0, .inr (2, oD (F 0) (ra 0) (ka 0))), (ka 0, .inl (ck 0, 32, .inl (v 0))), (da 1, .inr (2, oD (F 1) (ra 1) (ka 1))), (ka 1, .inl (ck 1, 32, .inl (v 1))), (da 2, .inr (2, oD (F 2) (ra 2) (ka 2))), (ka 2, .inl (ck 2, 32, .inl (v 2)))] ∧ cb t9 (va_A [(h0, .inr (0, oT uT p9 a9 e9 n9 o9)), (a9, .inl (ca, 3, .inr (.inr (.inr (.inr (mo da)))))), (da 0, .inr (2, oD (F 0) (ra 0) (ka 0))), (ka 0, .inl (ck 0, 32, .inl (v 0))), (da 1, .inr (2, oD (F 1) (ra 1) (ka 1))), (ka 1, .inl (ck 1, 32, .inl (v 1))), (da 2, .inr (2, oD (F 2) (ra 2) (ka 2))), (ka 2, .inl (ck 2, 32, .inl (v 2)))] sz) U U.heap)) (va_Qi (fun (r : Int32) (u9 : (Nat → Nat → Int32) × (Nat → Nat → Int32)) => match u9 with | (F2, v2) => (f3 F2) ∧ (r, F2, v2) = s_T_scrub uT F v) (fun (u9 : (Nat → Nat → Int32) × (Nat → Nat → Int32)) t => match u9 with | (F2, v2) => va_P (dC, dI) classes [(h0, .inr (0, oT uT p9 a9 e9 n9 o9)), (a9, .inl (ca, 3, .inr (.inr (.inr (.inr (mo da)))))), (da 0, .inr (2, oD (F2 0) (ra 0) (ka 0))), (ka 0, .inl (ck 0, 32, .inl (v2 0))), (da 1, .inr (2, oD (F2 1) (ra 1) (ka 1))), (ka 1, .inl (ck 1, 32, .inl (v2 1))), (da 2, .inr (2, oD (F2 2) (ra 2) (ka 2))), (ka 2, .inl (ck 2, 32, .inl (v2 2)))] t.heap ∧ va_K (dC, dI) classes [(ca, .object "VotedTriple$VotedModule"), (ck 0, .int), (ck 1, .int), (ck 2, .int)] t ∧ va_D (va_A [(h0, .inr (0, oT uT p9 a9 e9 n9 o9)), (a9, .inl (ca, 3, .inr (.inr (.inr (.inr (mo da)))))), (da 0, .inr (2, oD (F 0) (ra 0) (ka 0))), (ka 0, .inl (ck 0, 32, .inl (v 0))), (da 1, .inr (2, oD (F 1) (ra 1) (ka 1))), (ka 1, .inl (ck 1, 32, .inl (v 1))), (da 2, .inr (2, oD (F 2) (ra 2) (ka 2))), (ka 2, .inl (ck 2, 32, .inl (v 2)))] sz) [(h0, .inr (0, oT uT p9 a9 e9 n9 o9)), (a9, .inl (ca, 3, .inr (.inr (.inr (.inr (mo da)))))), (da 0, .inr (2, oD (F2 0) (ra 0) (ka 0))), (ka 0, .inl (ck 0, 32, .inl (v2 0))), (da 1, .inr (2, oD (F2 1) (ra 1) (ka 1))), (ka 1, .inl (ck 1, 32, .inl (v2 1))), (da 2, .inr (2, oD (F2 2) (ra 2) (ka 2))), (ka 2, .inl (ck 2, 32, .inl (v2 2)))]) (va_A [(h0, .inr (0, oT uT p9 a9 e9 n9 o9)), (a9, .inl (ca, 3, .inr (.inr (.inr (.inr (mo da)))))), (da 0, .inr (2, oD (F 0) (ra 0) (ka 0))), (ka 0, .inl (ck 0, 32, .inl (v 0))), (da 1, .inr (2, oD (F 1) (ra 1) (ka 1))), (ka 1, .inl (ck 1, 32, .inl (v 1))), (da 2, .inr (2, oD (F 2) (ra 2) (ka 2))), (ka 2, .inl (ck 2, 32, .inl (v 2)))] sz)) 0 0 (va_A [(h0, .inr (0, oT uT p9 a9 e9 n9 o9)), (a9, .inl (ca, 3, .inr (.inr (.inr (.inr (mo da)))))), (da 0, .inr (2, oD (F 0) (ra 0) (ka 0))), (ka 0, .inl (ck 0, 32, .inl (v 0))), (da 1, .inr (2, oD (F 1) (ra 1) (ka 1))), (ka 1, .inl (ck 1, 32, .inl (v 1))), (da 2, .inr (2, oD (F 2) (ra 2) (ka 2))), (ka 2, .inl (ck 2, 32, .inl (v 2)))] sz) := by
  refine Met.ofW (cc := b_T_scrub) (maxL := 4) (ret := (some .boolean)) (by decide) rfl ?_
  intro p e s m args below meth c s₁ B hml hv
  obtain ⟨rfl, hsz, hP, hK, hD0, hcb⟩ := hv
  have hx := B.exec
  have hb := B.bytes
  have hr := B.returns
  have hts := atoms_spec (ws := (tbw y_T_scrub b_T_scrub 4 (some .boolean))) B.pre
  have hw : ∀ z9 ∈ tb, z9.before ([.ref h0] : List Value).toArray s = true := fun z9 h => hts z9 (List.mem_cons_of_mem _ h)
  have hown : s.vm.findClass "VotedTriple" = some m.cls := findClass_of_methodNamed B.named
  have hlocks := B.notSynchronized
  subst hsz
  replace hD := hD0.self (sz := s.heap.size)
  generalize hAe : va_A [(h0, .inr (0, oT uT p9 a9 e9 n9 o9)), (a9, .inl (ca, 3, .inr (.inr (.inr (.inr (mo da)))))), (da 0, .inr (2, oD (F 0) (ra 0) (ka 0))), (ka 0, .inl (ck 0, 32, .inl (v 0))), (da 1, .inr (2, oD (F 1) (ra 1) (ka 1))), (ka 1, .inl (ck 1, 32, .inl (v 1))), (da 2, .inr (2, oD (F 2) (ra 2) (ka 2))), (ka 2, .inl (ck 2, 32, .inl (v 2)))] s.heap.size = A at hD hcb ⊢
  have hA : ∀ q : Nat, s.heap.size ≤ q → A q := fun q h => by rw [← hAe]; exact Or.inr h
  have hS : va_S A s.heap s.heap [] := va_S.rf
  replace hl := lv_entry ([.ref h0]) (n := 4) (Nat.le_of_ble_eq_true rfl)
  rw [lg_entry_eq]
  generalize (lg_sl ([.ref h0]) ++ List.replicate (4 - (lg_sl ([.ref h0])).length) Slot.unset).toArray = ls at hl ⊢
  replace hl : lv_has ls 4 [(0, .ref h0)] := hl
  generalize hSP : s_T_scrub uT F v = SP
  have cut89_3 : ∀ (F : Nat → Nat → Int32) (v : Nat → Nat → Int32) (ls : Array Slot) (H : Heap) (locs : List Loc), f3 F → SP = s_T_scrub_cut89_3 F v →  lv_has ls 4 [(0, .ref h0), (3, .int 3)] → va_P (dC, dI) classes [(h0, .inr (0, oT uT p9 a9 e9 n9 o9)), (a9, .inl (ca, 3, .inr (.inr (.inr (.inr (mo da)))))), (da 0, .inr (2, oD (F 0) (ra 0) (ka 0))), (ka 0, .inl (ck 0, 32, .inl (v 0))), (da 1, .inr (2, oD (F 1) (ra 1) (ka 1))), (ka 1, .inl (ck 1, 32, .inl (v 1))), (da 2, .inr (2, oD (F 2) (ra 2) (ka 2))), (ka 2, .inl (ck 2, 32, .inl (v 2)))] H → va_D A [(h0, .inr (0, oT uT p9 a9 e9 n9 o9)), (a9, .inl (ca, 3, .inr (.inr (.inr (.inr (mo da)))))), (da 0, .inr (2, oD (F 0) (ra 0) (ka 0))), (ka 0, .inl (ck 0, 32, .inl (v 0))), (da 1, .inr (2, oD (F 1) (ra 1) (ka 1))), (ka 1, .inl (ck 1, 32, .inl (v 1))), (da 2, .inr (2, oD (F 2) (ra 2) (ka 2))), (ka 2, .inl (ck 2, 32, .inl (v 2)))] → va_S A s.heap H locs → W p l e (headSpec (tbw y_T_scrub b_T_scrub 4 (some .boolean)) ({ frames := 3, cells := 0, slots := 0, locals := 64 })).room s m ([.ref h0] : List Value).toArray below meth c H locs 0 0 (MQ below (va_Qi (fun (r : Int32) (u9 : (Nat → Nat → Int32) × (Nat → Nat → Int32)) => match u9 with | (F2, v2) => (f3 F2) ∧ (r, F2, v2) = SP) (fun (u9 : (Nat → Nat → Int32) × (Nat → Nat → Int32)) t => match u9 with | (F2, v2) => va_P (dC, dI) classes [(h0, .inr (0, oT uT p9 a9 e9 n9 o9)), (a9, .inl (ca, 3, .inr (.inr (.inr (.inr (mo da)))))), (da 0, .inr (2, oD (F2 0) (ra 0) (ka 0))), (ka 0, .inl (ck 0, 32, .inl (v2 0))), (da 1, .inr (2, oD (F2 1) (ra 1) (ka 1))), (ka 1, .inl (ck 1, 32, .inl (v2 1))), (da 2, .inr (2, oD (F2 2) (ra 2) (ka 2))), (ka 2, .inl (ck 2, 32, .inl (v2 2)))] t.heap ∧ va_K (dC, dI) classes [(ca, .object "VotedTriple$VotedModule"), (ck 0, .int), (ck 1, .int), (ck 2, .int)] t ∧ va_D A [(h0, .inr (0, oT uT p9 a9 e9 n9 o9)), (a9, .inl (ca, 3, .inr (.inr (.inr (.inr (mo da)))))), (da 0, .inr (2, oD (F2 0) (ra 0) (ka 0))), (ka 0, .inl (ck 0, 32, .inl (v2 0))), (da 1, .inr (2, oD (F2 1) (ra 1) (ka 1))), (ka 1, .inl (ck 1, 32, .inl (v2 1))), (da 2, .inr (2, oD (F2 2) (ra 2) (ka 2))), (ka 2, .inl (ck 2, 32, .inl (v2 2)))]) A) ([.ref h0] : List Value).toArray s 0 0 A) (F0 m 89 ls []) := by
    intro F v ls H locs hF hSq0 hl hP hD hS
    refine lv_iload_n hx hb d_T_scrub_89 rfl (lv_at hl 1 rfl) ?_
    refine lv_iconst (v := 3) hx hb d_T_scrub_90 (by decide) ?_
    refine lv_icmp_ge (tgt := 121) hx hb d_T_scrub_91 rfl (fun hc1 => ?_) (fun hc1 => by first | exact absurd (by decide) hc1 | exact absurd hc1 (by decide))
    refine lv_iconst (v := 1) hx hb d_T_scrub_121 (by decide) ?_
    have hP9 := hP.sub (ws' := [(h0, .inr (0, oT uT p9 a9 e9 n9 o9)), (a9, .inl (ca, 3, .inr (.inr (.inr (.inr (mo da)))))), (da 0, .inr (2, oD (F 0) (ra 0) (ka 0))), (ka 0, .inl (ck 0, 32, .inl (v 0))), (da 1, .inr (2, oD (F 1) (ra 1) (ka 1))), (ka 1, .inl (ck 1, 32, .inl (v 1))), (da 2, .inr (2, oD (F 2) (ra 2) (ka 2))), (ka 2, .inl (ck 2, 32, .inl (v 2)))]) [0, 1, 2, 3, 4, 5, 6, 7] rfl
    have hD9 := hD.sub (ws' := [(h0, .inr (0, oT uT p9 a9 e9 n9 o9)), (a9, .inl (ca, 3, .inr (.inr (.inr (.inr (mo da)))))), (da 0, .inr (2, oD (F 0) (ra 0) (ka 0))), (ka 0, .inl (ck 0, 32, .inl (v 0))), (da 1, .inr (2, oD (F 1) (ra 1) (ka 1))), (ka 1, .inl (ck 1, 32, .inl (v 1))), (da 2, .inr (2, oD (F 2) (ra 2) (ka 2))), (ka 2, .inl (ck 2, 32, .inl (v 2)))]) [0, 1, 2, 3, 4, 5, 6, 7] (by decide) rfl
    have hK9 := hK.sub (tys' := [(ca, .object "VotedTriple$VotedModule"), (ck 0, .int), (ck 1, .int), (ck 2, .int)]) [0, 1, 2, 3] rfl
    refine W.widen (k := 0) (n := 0) (Nat.le_of_ble_eq_true rfl) (Nat.le_of_ble_eq_true rfl) ?_
    exact W.zret (v := 1) (ty := .boolean) hx hb hr rfl (fun t ht hW => ⟨⟨_, (F, v), rfl, ⟨hF, (by rw [hSq0, s_T_scrub_cut89_3]; all_goals rfl)⟩, by rw [ht]; exact hP9, va_K.moved hW.alike hK9, hD9⟩, hS.F ht⟩) hS.2.2 d_T_scrub_122
  have cut89_2 : ∀ (F : Nat → Nat → Int32) (v : Nat → Nat → Int32) (ls : Array Slot) (H : Heap) (locs : List Loc), f3 F → SP = s_T_scrub_cut89_2 F v →  lv_has ls 4 [(0, .ref h0), (3, .int 2)] → va_P (dC, dI) classes [(h0, .inr (0, oT uT p9 a9 e9 n9 o9)), (a9, .inl (ca, 3, .inr (.inr (.inr (.inr (mo da)))))), (da 0, .inr (2, oD (F 0) (ra 0) (ka 0))), (ka 0, .inl (ck 0, 32, .inl (v 0))), (da 1, .inr (2, oD (F 1) (ra 1) (ka 1))), (ka 1, .inl (ck 1, 32, .inl (v 1))), (da 2, .inr (2, oD (F 2) (ra 2) (ka 2))), (ka 2, .inl (ck 2, 32, .inl (v 2)))] H → va_D A [(h0, .inr (0, oT uT p9 a9 e9 n9 o9)), (a9, .inl (ca, 3, .inr (.inr (.inr (.inr (mo da)))))), (da 0, .inr (2, oD (F 0) (ra 0) (ka 0))), (ka 0, .inl (ck 0, 32, .inl (v 0))), (da 1, .inr (2, oD (F 1) (ra 1) (ka 1))), (ka 1, .inl (ck 1, 32, .inl (v 1))), (da 2, .inr (2, oD (F 2) (ra 2) (ka 2))), (ka 2, .inl (ck 2, 32, .inl (v 2)))] → va_S A s.heap H locs → W p l e (headSpec (tbw y_T_scrub b_T_scrub 4 (some .boolean)) ({ frames := 3, cells := 0, slots := 0, locals := 64 })).room s m ([.ref h0] : List Value).toArray below meth c H locs 0 0 (MQ below (va_Qi (fun (r : Int32) (u9 : (Nat → Nat → Int32) × (Nat → Nat → Int32)) => match u9 with | (F2, v2) => (f3 F2) ∧ (r, F2, v2) = SP) (fun (u9 : (Nat → Nat → Int32) × (Nat → Nat → Int32)) t => match u9 with | (F2, v2) => va_P (dC, dI) classes [(h0, .inr (0, oT uT p9 a9 e9 n9 o9)), (a9, .inl (ca, 3, .inr (.inr (.inr (.inr (mo da)))))), (da 0, .inr (2, oD (F2 0) (ra 0) (ka 0))), (ka 0, .inl (ck 0, 32, .inl (v2 0))), (da 1, .inr (2, oD (F2 1) (ra 1) (ka 1))), (ka 1, .inl (ck 1, 32, .inl (v2 1))), (da 2, .inr (2, oD (F2 2) (ra 2) (ka 2))), (ka 2, .inl (ck 2, 32, .inl (v2 2)))] t.heap ∧ va_K (dC, dI) classes [(ca, .object "VotedTriple$VotedModule"), (ck 0, .int), (ck 1, .int), (ck 2, .int)] t ∧ va_D A [(h0, .inr (0, oT uT p9 a9 e9 n9 o9)), (a9, .inl (ca, 3, .inr (.inr (.inr (.inr (mo da)))))), (da 0, .inr (2, oD (F2 0) (ra 0) (ka 0))), (ka 0, .inl (ck 0, 32, .inl (v2 0))), (da 1, .inr (2, oD (F2 1) (ra 1) (ka 1))), (ka 1, .inl (ck 1, 32, .inl (v2 1))), (da 2, .inr (2, oD (F2 2) (ra 2) (ka 2))), (ka 2, .inl (ck 2, 32, .inl (v2 2)))]) A) ([.ref h0] : List Value).toArray s 0 0 A) (F0 m 89 ls []) := by
    intro F v ls H locs hF hSq0 hl hP hD hS
    refine lv_iload_n hx hb d_T_scrub_89 rfl (lv_at hl 1 rfl) ?_
    refine lv_iconst (v := 3) hx hb d_T_scrub_90 (by decide) ?_
    refine lv_icmp_ge (tgt := 121) hx hb d_T_scrub_91 rfl (fun hc2 => by first | exact absurd hc2 (by decide) | exact absurd (by decide) hc2) (fun hc2 => ?_)
    refine lv_aload_n hx hb d_T_scrub_94 rfl (lv_at hl 0 rfl) ?_
    refine va_get (D := (dC, dI)) (ci := 0) (v := .ref a9) (C := "VotedTriple") (T := F_T) (N := 11) hx hb hw in_T hown hK hP 0 rfl rfl 1 (by decide) (hw _ k_195) (fun _ h9 => h9) rfl d_T_scrub_95 ?_
    refine lv_iload_n hx hb d_T_scrub_98 rfl (lv_at hl 1 rfl) ?_
    refine va_aldq hx hb hK hP 1 0 rfl rfl (by unfold vp_in; decide) d_T_scrub_99 ?_
    refine W.eq (g2 := F0 m 100 ls [.ref (da 2)]) rfl ?_
    refine va_get (D := (dC, dI)) (ci := 2) (v := .int (F 2 17)) (C := "VotedTriple$VotedModule") (T := F_D) (N := 19) hx hb hw in_D hown hK hP 6 rfl rfl 17 (by decide) (hw _ k_160) (fun _ h9 => h9) rfl d_T_scrub_100 ?_
    refine lv_if_eq (tgt := 115) hx hb d_T_scrub_103 rfl (fun hc3 => ?_) (fun hc3 => ?_)
    · --  (F 2 17) = 0
      refine lv_iinc (k := 1) (v := 3) hx hb d_T_scrub_115 hl rfl rfl (by decide) rfl (fun ls hl => ?_)
      replace hl : lv_has ls 4 [(3, .int 3), (0, .ref h0)] := hl
      refine lv_goto (tgt := 89) hx hb d_T_scrub_118 rfl ?_
      have hSq : SP = s_T_scrub_cut89_3 F v := by rw [hSq0, s_T_scrub_cut89_2]; try (rw [if_pos hc3]); all_goals rfl
      replace hl := lv_sub hl (l' := [(0, .ref h0), (3, .int 3)]) [1, 0] rfl
      replace hP := hP.sub (ws' := [(h0, .inr (0, oT uT p9 a9 e9 n9 o9)), (a9, .inl (ca, 3, .inr (.inr (.inr (.inr (mo da)))))), (da 0, .inr (2, oD (F 0) (ra 0) (ka 0))), (ka 0, .inl (ck 0, 32, .inl (v 0))), (da 1, .inr (2, oD (F 1) (ra 1) (ka 1))), (ka 1, .inl (ck 1, 32, .inl (v 1))), (da 2, .inr (2, oD (F 2) (ra 2) (ka 2))), (ka 2, .inl (ck 2, 32, .inl (v 2)))]) [0, 1, 2, 3, 4, 5, 6, 7] rfl
      replace hD := hD.sub (ws' := [(h0, .inr (0, oT uT p9 a9 e9 n9 o9)), (a9, .inl (ca, 3, .inr (.inr (.inr (.inr (mo da)))))), (da 0, .inr (2, oD (F 0) (ra 0) (ka 0))), (ka 0, .inl (ck 0, 32, .inl (v 0))), (da 1, .inr (2, oD (F 1) (ra 1) (ka 1))), (ka 1, .inl (ck 1, 32, .inl (v 1))), (da 2, .inr (2, oD (F 2) (ra 2) (ka 2))), (ka 2, .inl (ck 2, 32, .inl (v 2)))]) [0, 1, 2, 3, 4, 5, 6, 7] (by decide) rfl
      exact cut89_3 F v _ _ _ hF hSq hl hP hD hS
    · --  ¬ (F 2 17) = 0
      refine lv_aload_n hx hb d_T_scrub_106 rfl (lv_at hl 0 rfl) ?_
      refine va_get (D := (dC, dI)) (ci := 0) (v := .ref a9) (C := "VotedTriple") (T := F_T) (N := 11) hx hb hw in_T hown hK hP 0 rfl rfl 1 (by decide) (hw _ k_195) (fun _ h9 => h9) rfl d_T_scrub_107 ?_
      refine lv_iload_n hx hb d_T_scrub_110 rfl (lv_at hl 1 rfl) ?_
      refine va_aldq hx hb hK hP 1 0 rfl rfl (by unfold vp_in; decide) d_T_scrub_111 ?_
      refine W.eq (g2 := F0 m 112 ls [.ref (da 2)]) rfl ?_
      replace hPc := hP.sub (ws' := [(da 2, .inr (2, oD (F 2) (ra 2) (ka 2)))]) [6] rfl
      replace hKc := hK.sub (tys' := []) [] rfl
      replace hDc := hD.sub (ws' := [(da 2, .inr (2, oD (F 2) (ra 2) (ka 2)))]) [6] (by decide) rfl
      replace hFc := va_free (wc := [(da 2, .inr (2, oD (F 2) (ra 2) (ka 2)))]) hD hS hA [6] rfl
      refine va_callv (va_runV (C := "VotedTriple$VotedModule") (As := []) (rest := []) ⟨hx, hb, hml, hown, hw⟩ (c_D_blameLater l dC dI (da 2) (ra 2) (ka 2) (F 2) hF.2.2 H.size) (cwV 0 hw (gdV (k_611) (k_608) (k_609) (k_610) (k_7)) rfl rfl rfl (by decide +kernel) ⟨Nat.le_of_ble_eq_true rfl, Nat.le_of_ble_eq_true rfl⟩) ⟨fun a U g mk q => by obtain ⟨q0, q1, qP, qK, qD⟩ := q; exact ⟨q0, q1, qP, va_K.moved (u := U) (U := U.calling g mk a) (Vm.Alike.refl U.vm) qK, qD⟩, va_recv hK hP rfl (q0 := 6) rfl, fun U hU hW => ⟨rfl, by rw [hU], by rw [hU]; exact hPc, va_K.moved hW.alike hKc, hDc.weaken (fun _ _ _ _ => trivial)⟩⟩ rfl rfl hl.1 rfl (lv_room (Nat.le_of_ble_eq_true rfl)) d_T_scrub_112 ⟨Nat.le_of_ble_eq_true rfl, Nat.le_of_ble_eq_true rfl⟩) hS (fun q _ h => hFc q h) hFc (fun u9 t H1 locs ht hvm hr5 hB hz1 hk1 hS => ?_)
      obtain ⟨F26, rfl⟩ : ∃ z, z = u9 := ⟨_, rfl⟩
      obtain ⟨hP1, hK1, hD1⟩ := hB
      rw [ht] at hP1
      replace hK1 := va_K.moved hvm.symm hK1
      try dsimp only at hr5 hP1 hK1 hD1
      obtain ⟨hr5, hr5E⟩ := hr5
      obtain ⟨hPz, hDz⟩ := va_join (wr := [(h0, .inr (0, oT uT p9 a9 e9 n9 o9)), (a9, .inl (ca, 3, .inr (.inr (.inr (.inr (mo da)))))), (da 0, .inr (2, oD (F 0) (ra 0) (ka 0))), (ka 0, .inl (ck 0, 32, .inl (v 0))), (da 1, .inr (2, oD (F 1) (ra 1) (ka 1))), (ka 1, .inl (ck 1, 32, .inl (v 1))), (ka 2, .inl (ck 2, 32, .inl (v 2)))]) (w1 := [(da 2, .inr (2, oD F26 (ra 2) (ka 2)))]) hP hD [6] [0, 1, 2, 3, 4, 5, 7] rfl rfl (by decide) (by decide) hk1 hFc hP1 hD1
      clear hP hD hPc hDc hP1 hD1 hFc
      have hP := hPz
      have hD := hDz
      clear hPz hDz
      replace hK := (hK.sub (tys' := [(ca, .object "VotedTriple$VotedModule"), (ck 0, .int), (ck 1, .int), (ck 2, .int)]) [0, 1, 2, 3] rfl).app hK1
      clear hK1 hKc
      generalize H1 = H at hP hS ⊢
      replace hP : va_P (dC, dI) classes [(h0, .inr (0, oT uT p9 a9 e9 n9 o9)), (a9, .inl (ca, 3, .inr (.inr (.inr (.inr (mo da)))))), (da 0, .inr (2, oD (F 0) (ra 0) (ka 0))), (ka 0, .inl (ck 0, 32, .inl (v 0))), (da 1, .inr (2, oD (F 1) (ra 1) (ka 1))), (ka 1, .inl (ck 1, 32, .inl (v 1))), (ka 2, .inl (ck 2, 32, .inl (v 2))), (da 2, .inr (2, oD F26 (ra 2) (ka 2)))] H := hP
      replace hD : va_D A [(h0, .inr (0, oT uT p9 a9 e9 n9 o9)), (a9, .inl (ca, 3, .inr (.inr (.inr (.inr (mo da)))))), (da 0, .inr (2, oD (F 0) (ra 0) (ka 0))), (ka 0, .inl (ck 0, 32, .inl (v 0))), (da 1, .inr (2, oD (F 1) (ra 1) (ka 1))), (ka 1, .inl (ck 1, 32, .inl (v 1))), (ka 2, .inl (ck 2, 32, .inl (v 2))), (da 2, .inr (2, oD F26 (ra 2) (ka 2)))] := hD
      replace hK : va_K (dC, dI) classes [(ca, .object "VotedTriple$VotedModule"), (ck 0, .int), (ck 1, .int), (ck 2, .int)] s := hK
      refine W.widen (k := 0) (n := 0) (Nat.le_of_ble_eq_true rfl) (Nat.le_of_ble_eq_true rfl) ?_
      refine lv_iinc (k := 1) (v := 3) hx hb d_T_scrub_115 hl rfl rfl (by decide) rfl (fun ls hl => ?_)
      replace hl : lv_has ls 4 [(3, .int 3), (0, .ref h0)] := hl
      refine lv_goto (tgt := 89) hx hb d_T_scrub_118 rfl ?_
      have hSq : SP = s_T_scrub_cut89_3 (tri (F 0) (F 1) F26) v := by rw [hSq0, s_T_scrub_cut89_2]; try (rw [if_neg hc3]); try (rw [← hr5E, bnd_eq]); all_goals rfl
      replace hl := lv_sub hl (l' := [(0, .ref h0), (3, .int 3)]) [1, 0] rfl
      replace hP := hP.sub (ws' := [(h0, .inr (0, oT uT p9 a9 e9 n9 o9)), (a9, .inl (ca, 3, .inr (.inr (.inr (.inr (mo da)))))), (da 0, .inr (2, oD (tri (F 0) (F 1) F26 0) (ra 0) (ka 0))), (ka 0, .inl (ck 0, 32, .inl (v 0))), (da 1, .inr (2, oD (tri (F 0) (F 1) F26 1) (ra 1) (ka 1))), (ka 1, .inl (ck 1, 32, .inl (v 1))), (da 2, .inr (2, oD (tri (F 0) (F 1) F26 2) (ra 2) (ka 2))), (ka 2, .inl (ck 2, 32, .inl (v 2)))]) [0, 1, 2, 3, 4, 5, 7, 6] rfl
      replace hD := hD.sub (ws' := [(h0, .inr (0, oT uT p9 a9 e9 n9 o9)), (a9, .inl (ca, 3, .inr (.inr (.inr (.inr (mo da)))))), (da 0, .inr (2, oD (tri (F 0) (F 1) F26 0) (ra 0) (ka 0))), (ka 0, .inl (ck 0, 32, .inl (v 0))), (da 1, .inr (2, oD (tri (F 0) (F 1) F26 1) (ra 1) (ka 1))), (ka 1, .inl (ck 1, 32, .inl (v 1))), (da 2, .inr (2, oD (tri (F 0) (F 1) F26 2) (ra 2) (ka 2))), (ka 2, .inl (ck 2, 32, .inl (v 2)))]) [0, 1, 2, 3, 4, 5, 7, 6] (by decide) rfl
      exact cut89_3 (tri (F 0) (F 1) F26) v _ _ _ (⟨hF.1, hF.2.1, hr5⟩) hSq hl hP hD hS
  have cut89_1 : ∀ (F : Nat → Nat → Int32) (v : Nat → Nat → Int32) (ls : Array Slot) (H : Heap) (locs : List Loc), f3 F → SP = s_T_scrub_cut89_1 F v →  lv_has ls 4 [(0, .ref h0), (3, .int 1)] → va_P (dC, dI) classes [(h0, .inr (0, oT uT p9 a9 e9 n9 o9)), (a9, .inl (ca, 3, .inr (.inr (.inr (.inr (mo da)))))), (da 0, .inr (2, oD (F 0) (ra 0) (ka 0))), (ka 0, .inl (ck 0, 32, .inl (v 0))), (da 1, .inr (2, oD (F 1) (ra 1) (ka 1))), (ka 1, .inl (ck 1, 32, .inl (v 1))), (da 2, .inr (2, oD (F 2) (ra 2) (ka 2))), (ka 2, .inl (ck 2, 32, .inl (v 2)))] H → va_D A [(h0, .inr (0, oT uT p9 a9 e9 n9 o9)), (a9, .inl (ca, 3, .inr (.inr (.inr (.inr (mo da)))))), (da 0, .inr (2, oD (F 0) (ra 0) (ka 0))), (ka 0, .inl (ck 0, 32, .inl (v 0))), (da 1, .inr (2, oD (F 1) (ra 1) (ka 1))), (ka 1, .inl (ck 1, 32, .inl (v 1))), (da 2, .inr (2, oD (F 2) (ra 2) (ka 2))), (ka 2, .inl (ck 2, 32, .inl (v 2)))] → va_S A s.heap H locs → W p l e (headSpec (tbw y_T_scrub b_T_scrub 4 (some .boolean)) ({ frames := 3, cells := 0, slots := 0, locals := 64 })).room s m ([.ref h0] : List Value).toArray below meth c H locs 0 0 (MQ below (va_Qi (fun (r : Int32) (u9 : (Nat → Nat → Int32) × (Nat → Nat → Int32)) => match u9 with | (F2, v2) => (f3 F2) ∧ (r, F2, v2) = SP) (fun (u9 : (Nat → Nat → Int32) × (Nat → Nat → Int32)) t => match u9 with | (F2, v2) => va_P (dC, dI) classes [(h0, .inr (0, oT uT p9 a9 e9 n9 o9)), (a9, .inl (ca, 3, .inr (.inr (.inr (.inr (mo da)))))), (da 0, .inr (2, oD (F2 0) (ra 0) (ka 0))), (ka 0, .inl (ck 0, 32, .inl (v2 0))), (da 1, .inr (2, oD (F2 1) (ra 1) (ka 1))), (ka 1, .inl (ck 1, 32, .inl (v2 1))), (da 2, .inr (2, oD (F2 2) (ra 2) (ka 2))), (ka 2, .inl (ck 2, 32, .inl (v2 2)))] t.heap ∧ va_K (dC, dI) classes [(ca, .object "VotedTriple$VotedModule"), (ck 0, .int), (ck 1, .int), (ck 2, .int)] t ∧ va_D A [(h0, .inr (0, oT uT p9 a9 e9 n9 o9)), (a9, .inl (ca, 3, .inr (.inr (.inr (.inr (mo da)))))), (da 0, .inr (2, oD (F2 0) (ra 0) (ka 0))), (ka 0, .inl (ck 0, 32, .inl (v2 0))), (da 1, .inr (2, oD (F2 1) (ra 1) (ka 1))), (ka 1, .inl (ck 1, 32, .inl (v2 1))), (da 2, .inr (2, oD (F2 2) (ra 2) (ka 2))), (ka 2, .inl (ck 2, 32, .inl (v2 2)))]) A) ([.ref h0] : List Value).toArray s 0 0 A) (F0 m 89 ls []) := by
    intro F v ls H locs hF hSq0 hl hP hD hS
    clear cut89_3
    refine lv_iload_n hx hb d_T_scrub_89 rfl (lv_at hl 1 rfl) ?_
    refine lv_iconst (v := 3) hx hb d_T_scrub_90 (by decide) ?_
    refine lv_icmp_ge (tgt := 121) hx hb d_T_scrub_91 rfl (fun hc7 => by first | exact absurd hc7 (by decide) | exact absurd (by decide) hc7) (fun hc7 => ?_)
    refine lv_aload_n hx hb d_T_scrub_94 rfl (lv_at hl 0 rfl) ?_
    refine va_get (D := (dC, dI)) (ci := 0) (v := .ref a9) (C := "VotedTriple") (T := F_T) (N := 11) hx hb hw in_T hown hK hP 0 rfl rfl 1 (by decide) (hw _ k_195) (fun _ h9 => h9) rfl d_T_scrub_95 ?_
    refine lv_iload_n hx hb d_T_scrub_98 rfl (lv_at hl 1 rfl) ?_
    refine va_aldq hx hb hK hP 1 0 rfl rfl (by unfold vp_in; decide) d_T_scrub_99 ?_
    refine W.eq (g2 := F0 m 100 ls [.ref (da 1)]) rfl ?_
    refine va_get (D := (dC, dI)) (ci := 2) (v := .int (F 1 17)) (C := "VotedTriple$VotedModule") (T := F_D) (N := 19) hx hb hw in_D hown hK hP 4 rfl rfl 17 (by decide) (hw _ k_160) (fun _ h9 => h9) rfl d_T_scrub_100 ?_
    refine lv_if_eq (tgt := 115) hx hb d_T_scrub_103 rfl (fun hc8 => ?_) (fun hc8 => ?_)
    · --  (F 1 17) = 0
      refine lv_iinc (k := 1) (v := 2) hx hb d_T_scrub_115 hl rfl rfl (by decide) rfl (fun ls hl => ?_)
      replace hl : lv_has ls 4 [(3, .int 2), (0, .ref h0)] := hl
      refine lv_goto (tgt := 89) hx hb d_T_scrub_118 rfl ?_
      have hSq : SP = s_T_scrub_cut89_2 F v := by rw [hSq0, s_T_scrub_cut89_1]; try (rw [if_pos hc8]); all_goals rfl
      replace hl := lv_sub hl (l' := [(0, .ref h0), (3, .int 2)]) [1, 0] rfl
      replace hP := hP.sub (ws' := [(h0, .inr (0, oT uT p9 a9 e9 n9 o9)), (a9, .inl (ca, 3, .inr (.inr (.inr (.inr (mo da)))))), (da 0, .inr (2, oD (F 0) (ra 0) (ka 0))), (ka 0, .inl (ck 0, 32, .inl (v 0))), (da 1, .inr (2, oD (F 1) (ra 1) (ka 1))), (ka 1, .inl (ck 1, 32, .inl (v 1))), (da 2, .inr (2, oD (F 2) (ra 2) (ka 2))), (ka 2, .inl (ck 2, 32, .inl (v 2)))]) [0, 1, 2, 3, 4, 5, 6, 7] rfl
      replace hD := hD.sub (ws' := [(h0, .inr (0, oT uT p9 a9 e9 n9 o9)), (a9, .inl (ca, 3, .inr (.inr (.inr (.inr (mo da)))))), (da 0, .inr (2, oD (F 0) (ra 0) (ka 0))), (ka 0, .inl (ck 0, 32, .inl (v 0))), (da 1, .inr (2, oD (F 1) (ra 1) (ka 1))), (ka 1, .inl (ck 1, 32, .inl (v 1))), (da 2, .inr (2, oD (F 2) (ra 2) (ka 2))), (ka 2, .inl (ck 2, 32, .inl (v 2)))]) [0, 1, 2, 3, 4, 5, 6, 7] (by decide) rfl
      exact cut89_2 F v _ _ _ hF hSq hl hP hD hS
    · --  ¬ (F 1 17) = 0
      refine lv_aload_n hx hb d_T_scrub_106 rfl (lv_at hl 0 rfl) ?_
      refine va_get (D := (dC, dI)) (ci := 0) (v := .ref a9) (C := "VotedTriple") (T := F_T) (N := 11) hx hb hw in_T hown hK hP 0 rfl rfl 1 (by decide) (hw _ k_195) (fun _ h9 => h9) rfl d_T_scrub_107 ?_
      refine lv_iload_n hx hb d_T_scrub_110 rfl (lv_at hl 1 rfl) ?_
      refine va_aldq hx hb hK hP 1 0 rfl rfl (by unfold vp_in; decide) d_T_scrub_111 ?_
      refine W.eq (g2 := F0 m 112 ls [.ref (da 1)]) rfl ?_
      replace hPc := hP.sub (ws' := [(da 1, .inr (2, oD (F 1) (ra 1) (ka 1)))]) [4] rfl
      replace hKc := hK.sub (tys' := []) [] rfl
      replace hDc := hD.sub (ws' := [(da 1, .inr (2, oD (F 1) (ra 1) (ka 1)))]) [4] (by decide) rfl
      replace hFc := va_free (wc := [(da 1, .inr (2, oD (F 1) (ra 1) (ka 1)))]) hD hS hA [4] rfl
      refine va_callv (va_runV (C := "VotedTriple$VotedModule") (As := []) (rest := []) ⟨hx, hb, hml, hown, hw⟩ (c_D_blameLater l dC dI (da 1) (ra 1) (ka 1) (F 1) hF.2.1 H.size) (cwV 0 hw (gdV (k_611) (k_608) (k_609) (k_610) (k_7)) rfl rfl rfl (by decide +kernel) ⟨Nat.le_of_ble_eq_true rfl, Nat.le_of_ble_eq_true rfl⟩) ⟨fun a U g mk q => by obtain ⟨q0, q1, qP, qK, qD⟩ := q; exact ⟨q0, q1, qP, va_K.moved (u := U) (U := U.calling g mk a) (Vm.Alike.refl U.vm) qK, qD⟩, va_recv hK hP rfl (q0 := 4) rfl, fun U hU hW => ⟨rfl, by rw [hU], by rw [hU]; exact hPc, va_K.moved hW.alike hKc, hDc.weaken (fun _ _ _ _ => trivial)⟩⟩ rfl rfl hl.1 rfl (lv_room (Nat.le_of_ble_eq_true rfl)) d_T_scrub_112 ⟨Nat.le_of_ble_eq_true rfl, Nat.le_of_ble_eq_true rfl⟩) hS (fun q _ h => hFc q h) hFc (fun u9 t H1 locs ht hvm hr10 hB hz1 hk1 hS => ?_)
      obtain ⟨F211, rfl⟩ : ∃ z, z = u9 := ⟨_, rfl⟩
      obtain ⟨hP1, hK1, hD1⟩ := hB
      rw [ht] at hP1
      replace hK1 := va_K.moved hvm.symm hK1
      try dsimp only at hr10 hP1 hK1 hD1
      obtain ⟨hr10, hr10E⟩ := hr10
      obtain ⟨hPz, hDz⟩ := va_join (wr := [(h0, .inr (0, oT uT p9 a9 e9 n9 o9)), (a9, .inl (ca, 3, .inr (.inr (.inr (.inr (mo da)))))), (da 0, .inr (2, oD (F 0) (ra 0) (ka 0))), (ka 0, .inl (ck 0, 32, .inl (v 0))), (ka 1, .inl (ck 1, 32, .inl (v 1))), (da 2, .inr (2, oD (F 2) (ra 2) (ka 2))), (ka 2, .inl (ck 2, 32, .inl (v 2)))]) (w1 := [(da 1, .inr (2, oD F211 (ra 1) (ka 1)))]) hP hD [4] [0, 1, 2, 3, 5, 6, 7] rfl rfl (by decide) (by decide) hk1 hFc hP1 hD1
      clear hP hD hPc hDc hP1 hD1 hFc
      have hP := hPz
      have hD := hDz
      clear hPz hDz
      replace hK := (hK.sub (tys' := [(ca, .object "VotedTriple$VotedModule"), (ck 0, .int), (ck 1, .int), (ck 2, .int)]) [0, 1, 2, 3] rfl).app hK1
      clear hK1 hKc
      generalize H1 = H at hP hS ⊢
      replace hP : va_P (dC, dI) classes [(h0, .inr (0, oT uT p9 a9 e9 n9 o9)), (a9, .inl (ca, 3, .inr (.inr (.inr (.inr (mo da)))))), (da 0, .inr (2, oD (F 0) (ra 0) (ka 0))), (ka 0, .inl (ck 0, 32, .inl (v 0))), (ka 1, .inl (ck 1, 32, .inl (v 1))), (da 2, .inr (2, oD (F 2) (ra 2) (ka 2))), (ka 2, .inl (ck 2, 32, .inl (v 2))), (da 1, .inr (2, oD F211 (ra 1) (ka 1)))] H := hP
      replace hD : va_D A [(h0, .inr (0, oT uT p9 a9 e9 n9 o9)), (a9, .inl (ca, 3, .inr (.inr (.inr (.inr (mo da)))))), (da 0, .inr (2, oD (F 0) (ra 0) (ka 0))), (ka 0, .inl (ck 0, 32, .inl (v 0))), (ka 1, .inl (ck 1, 32, .inl (v 1))), (da 2, .inr (2, oD (F 2) (ra 2) (ka 2))), (ka 2, .inl (ck 2, 32, .inl (v 2))), (da 1, .inr (2, oD F211 (ra 1) (ka 1)))] := hD
      replace hK : va_K (dC, dI) classes [(ca, .object "VotedTriple$VotedModule"), (ck 0, .int), (ck 1, .int), (ck 2, .int)] s := hK
      refine W.widen (k := 0) (n := 0) (Nat.le_of_ble_eq_true rfl) (Nat.le_of_ble_eq_true rfl) ?_
      refine lv_iinc (k := 1) (v := 2) hx hb d_T_scrub_115 hl rfl rfl (by decide) rfl (fun ls hl => ?_)
      replace hl : lv_has ls 4 [(3, .int 2), (0, .ref h0)] := hl
      refine lv_goto (tgt := 89) hx hb d_T_scrub_118 rfl ?_
      have hSq : SP = s_T_scrub_cut89_2 (tri (F 0) F211 (F 2)) v := by rw [hSq0, s_T_scrub_cut89_1]; try (rw [if_neg hc8]); try (rw [← hr10E, bnd_eq]); all_goals rfl
      replace hl := lv_sub hl (l' := [(0, .ref h0), (3, .int 2)]) [1, 0] rfl
      replace hP := hP.sub (ws' := [(h0, .inr (0, oT uT p9 a9 e9 n9 o9)), (a9, .inl (ca, 3, .inr (.inr (.inr (.inr (mo da)))))), (da 0, .inr (2, oD (tri (F 0) F211 (F 2) 0) (ra 0) (ka 0))), (ka 0, .inl (ck 0, 32, .inl (v 0))), (da 1, .inr (2, oD (tri (F 0) F211 (F 2) 1) (ra 1) (ka 1))), (ka 1, .inl (ck 1, 32, .inl (v 1))), (da 2, .inr (2, oD (tri (F 0) F211 (F 2) 2) (ra 2) (ka 2))), (ka 2, .inl (ck 2, 32, .inl (v 2)))]) [0, 1, 2, 3, 7, 4, 5, 6] rfl
      replace hD := hD.sub (ws' := [(h0, .inr (0, oT uT p9 a9 e9 n9 o9)), (a9, .inl (ca, 3, .inr (.inr (.inr (.inr (mo da)))))), (da 0, .inr (2, oD (tri (F 0) F211 (F 2) 0) (ra 0) (ka 0))), (ka 0, .inl (ck 0, 32, .inl (v 0))), (da 1, .inr (2, oD (tri (F 0) F211 (F 2) 1) (ra 1) (ka 1))), (ka 1, .inl (ck 1, 32, .inl (v 1))), (da 2, .inr (2, oD (tri (F 0) F211 (F 2) 2) (ra 2) (ka 2))), (ka 2, .inl (ck 2, 32, .inl (v 2)))]) [0, 1, 2, 3, 7, 4, 5, 6] (by decide) rfl
      exact cut89_2 (tri (F 0) F211 (F 2)) v _ _ _ (⟨hF.1, hr10, hF.2.2⟩) hSq hl hP hD hS
  have cut89_0 : ∀ (F : Nat → Nat → Int32) (v : Nat → Nat → Int32) (ls : Array Slot) (H : Heap) (locs : List Loc), f3 F → SP = s_T_scrub_cut89_0 F v →  lv_has ls 4 [(0, .ref h0), (3, .int 0)] → va_P (dC, dI) classes [(h0, .inr (0, oT uT p9 a9 e9 n9 o9)), (a9, .inl (ca, 3, .inr (.inr (.inr (.inr (mo da)))))), (da 0, .inr (2, oD (F 0) (ra 0) (ka 0))), (ka 0, .inl (ck 0, 32, .inl (v 0))), (da 1, .inr (2, oD (F 1) (ra 1) (ka 1))), (ka 1, .inl (ck 1, 32, .inl (v 1))), (da 2, .inr (2, oD (F 2) (ra 2) (ka 2))), (ka 2, .inl (ck 2, 32, .inl (v 2)))] H → va_D A [(h0, .inr (0, oT uT p9 a9 e9 n9 o9)), (a9, .inl (ca, 3, .inr (.inr (.inr (.inr (mo da)))))), (da 0, .inr (2, oD (F 0) (ra 0) (ka 0))), (ka 0, .inl (ck 0, 32, .inl (v 0))), (da 1, .inr (2, oD (F 1) (ra 1) (ka 1))), (ka 1, .inl (ck 1, 32, .inl (v 1))), (da 2, .inr (2, oD (F 2) (ra 2) (ka 2))), (ka 2, .inl (ck 2, 32, .inl (v 2)))] → va_S A s.heap H locs → W p l e (headSpec (tbw y_T_scrub b_T_scrub 4 (some .boolean)) ({ frames := 3, cells := 0, slots := 0, locals := 64 })).room s m ([.ref h0] : List Value).toArray below meth c H locs 0 0 (MQ below (va_Qi (fun (r : Int32) (u9 : (Nat → Nat → Int32) × (Nat → Nat → Int32)) => match u9 with | (F2, v2) => (f3 F2) ∧ (r, F2, v2) = SP) (fun (u9 : (Nat → Nat → Int32) × (Nat → Nat → Int32)) t => match u9 with | (F2, v2) => va_P (dC, dI) classes [(h0, .inr (0, oT uT p9 a9 e9 n9 o9)), (a9, .inl (ca, 3, .inr (.inr (.inr (.inr (mo da)))))), (da 0, .inr (2, oD (F2 0) (ra 0) (ka 0))), (ka 0, .inl (ck 0, 32, .inl (v2 0))), (da 1, .inr (2, oD (F2 1) (ra 1) (ka 1))), (ka 1, .inl (ck 1, 32, .inl (v2 1))), (da 2, .inr (2, oD (F2 2) (ra 2) (ka 2))), (ka 2, .inl (ck 2, 32, .inl (v2 2)))] t.heap ∧ va_K (dC, dI) classes [(ca, .object "VotedTriple$VotedModule"), (ck 0, .int), (ck 1, .int), (ck 2, .int)] t ∧ va_D A [(h0, .inr (0, oT uT p9 a9 e9 n9 o9)), (a9, .inl (ca, 3, .inr (.inr (.inr (.inr (mo da)))))), (da 0, .inr (2, oD (F2 0) (ra 0) (ka 0))), (ka 0, .inl (ck 0, 32, .inl (v2 0))), (da 1, .inr (2, oD (F2 1) (ra 1) (ka 1))), (ka 1, .inl (ck 1, 32, .inl (v2 1))), (da 2, .inr (2, oD (F2 2) (ra 2) (ka 2))), (ka 2, .inl (ck 2, 32, .inl (v2 2)))]) A) ([.ref h0] : List Value).toArray s 0 0 A) (F0 m 89 ls []) := by
    intro F v ls H locs hF hSq0 hl hP hD hS
    clear cut89_3 cut89_2
    refine lv_iload_n hx hb d_T_scrub_89 rfl (lv_at hl 1 rfl) ?_
    refine lv_iconst (v := 3) hx hb d_T_scrub_90 (by decide) ?_
    refine lv_icmp_ge (tgt := 121) hx hb d_T_scrub_91 rfl (fun hc12 => by first | exact absurd hc12 (by decide) | exact absurd (by decide) hc12) (fun hc12 => ?_)
    refine lv_aload_n hx hb d_T_scrub_94 rfl (lv_at hl 0 rfl) ?_
    refine va_get (D := (dC, dI)) (ci := 0) (v := .ref a9) (C := "VotedTriple") (T := F_T) (N := 11) hx hb hw in_T hown hK hP 0 rfl rfl 1 (by decide) (hw _ k_195) (fun _ h9 => h9) rfl d_T_scrub_95 ?_
    refine lv_iload_n hx hb d_T_scrub_98 rfl (lv_at hl 1 rfl) ?_
    refine va_aldq hx hb hK hP 1 0 rfl rfl (by unfold vp_in; decide) d_T_scrub_99 ?_
    refine W.eq (g2 := F0 m 100 ls [.ref (da 0)]) rfl ?_
    refine va_get (D := (dC, dI)) (ci := 2) (v := .int (F 0 17)) (C := "VotedTriple$VotedModule") (T := F_D) (N := 19) hx hb hw in_D hown hK hP 2 rfl rfl 17 (by decide) (hw _ k_160) (fun _ h9 => h9) rfl d_T_scrub_100 ?_
    refine lv_if_eq (tgt := 115) hx hb d_T_scrub_103 rfl (fun hc13 => ?_) (fun hc13 => ?_)
    · --  (F 0 17) = 0
      refine lv_iinc (k := 1) (v := 1) hx hb d_T_scrub_115 hl rfl rfl (by decide) rfl (fun ls hl => ?_)
      replace hl : lv_has ls 4 [(3, .int 1), (0, .ref h0)] := hl
      refine lv_goto (tgt := 89) hx hb d_T_scrub_118 rfl ?_
      have hSq : SP = s_T_scrub_cut89_1 F v := by rw [hSq0, s_T_scrub_cut89_0]; try (rw [if_pos hc13]); all_goals rfl
      replace hl := lv_sub hl (l' := [(0, .ref h0), (3, .int 1)]) [1, 0] rfl
      replace hP := hP.sub (ws' := [(h0, .inr (0, oT uT p9 a9 e9 n9 o9)), (a9, .inl (ca, 3, .inr (.inr (.inr (.inr (mo da)))))), (da 0, .inr (2, oD (F 0) (ra 0) (ka 0))), (ka 0, .inl (ck 0, 32, .inl (v 0))), (da 1, .inr (2, oD (F 1) (ra 1) (ka 1))), (ka 1, .inl (ck 1, 32, .inl (v 1))), (da 2, .inr (2, oD (F 2) (ra 2) (ka 2))), (ka 2, .inl (ck 2, 32, .inl (v 2)))]) [0, 1, 2, 3, 4, 5, 6, 7] rfl
      replace hD := hD.sub (ws' := [(h0, .inr (0, oT uT p9 a9 e9 n9 o9)), (a9, .inl (ca, 3, .inr (.inr (.inr (.inr (mo da)))))), (da 0, .inr (2, oD (F 0) (ra 0) (ka 0))), (ka 0, .inl (ck 0, 32, .inl (v 0))), (da 1, .inr (2, oD (F 1) (ra 1) (ka 1))), (ka 1, .inl (ck 1, 32, .inl (v 1))), (da 2, .inr (2, oD (F 2) (ra 2) (ka 2))), (ka 2, .inl (ck 2, 32, .inl (v 2)))]) [0, 1, 2, 3, 4, 5, 6, 7] (by decide) rfl
      exact cut89_1 F v _ _ _ hF hSq hl hP hD hS
    · --  ¬ (F 0 17) = 0
      refine lv_aload_n hx hb d_T_scrub_106 rfl (lv_at hl 0 rfl) ?_
      refine va_get (D := (dC, dI)) (ci := 0) (v := .ref a9) (C := "VotedTriple") (T := F_T) (N := 11) hx hb hw in_T hown hK hP 0 rfl rfl 1 (by decide) (hw _ k_195) (fun _ h9 => h9) rfl d_T_scrub_107 ?_
      refine lv_iload_n hx hb d_T_scrub_110 rfl (lv_at hl 1 rfl) ?_
      refine va_aldq hx hb hK hP 1 0 rfl rfl (by unfold vp_in; decide) d_T_scrub_111 ?_
      refine W.eq (g2 := F0 m 112 ls [.ref (da 0)]) rfl ?_
      replace hPc := hP.sub (ws' := [(da 0, .inr (2, oD (F 0) (ra 0) (ka 0)))]) [2] rfl
      replace hKc := hK.sub (tys' := []) [] rfl
      replace hDc := hD.sub (ws' := [(da 0, .inr (2, oD (F 0) (ra 0) (ka 0)))]) [2] (by decide) rfl
      replace hFc := va_free (wc := [(da 0, .inr (2, oD (F 0) (ra 0) (ka 0)))]) hD hS hA [2] rfl
      refine va_callv (va_runV (C := "VotedTriple$VotedModule") (As := []) (rest := []) ⟨hx, hb, hml, hown, hw⟩ (c_D_blameLater l dC dI (da 0) (ra 0) (ka 0) (F 0) hF.1 H.size) (cwV 0 hw (gdV (k_611) (k_608) (k_609) (k_610) (k_7)) rfl rfl rfl (by decide +kernel) ⟨Nat.le_of_ble_eq_true rfl, Nat.le_of_ble_eq_true rfl⟩) ⟨fun a U g mk q => by obtain ⟨q0, q1, qP, qK, qD⟩ := q; exact ⟨q0, q1, qP, va_K.moved (u := U) (U := U.calling g mk a) (Vm.Alike.refl U.vm) qK, qD⟩, va_recv hK hP rfl (q0 := 2) rfl, fun U hU hW => ⟨rfl, by rw [hU], by rw [hU]; exact hPc, va_K.moved hW.alike hKc, hDc.weaken (fun _ _ _ _ => trivial)⟩⟩ rfl rfl hl.1 rfl (lv_room (Nat.le_of_ble_eq_true rfl)) d_T_scrub_112 ⟨Nat.le_of_ble_eq_true rfl, Nat.le_of_ble_eq_true rfl⟩) hS (fun q _ h => hFc q h) hFc (fun u9 t H1 locs ht hvm hr15 hB hz1 hk1 hS => ?_)
      obtain ⟨F216, rfl⟩ : ∃ z, z = u9 := ⟨_, rfl⟩
      obtain ⟨hP1, hK1, hD1⟩ := hB
      rw [ht] at hP1
      replace hK1 := va_K.moved hvm.symm hK1
      try dsimp only at hr15 hP1 hK1 hD1
      obtain ⟨hr15, hr15E⟩ := hr15
      obtain ⟨hPz, hDz⟩ := va_join (wr := [(h0, .inr (0, oT uT p9 a9 e9 n9 o9)), (a9, .inl (ca, 3, .inr (.inr (.inr (.inr (mo da)))))), (ka 0, .inl (ck 0, 32, .inl (v 0))), (da 1, .inr (2, oD (F 1) (ra 1) (ka 1))), (ka 1, .inl (ck 1, 32, .inl (v 1))), (da 2, .inr (2, oD (F 2) (ra 2) (ka 2))), (ka 2, .inl (ck 2, 32, .inl (v 2)))]) (w1 := [(da 0, .inr (2, oD F216 (ra 0) (ka 0)))]) hP hD [2] [0, 1, 3, 4, 5, 6, 7] rfl rfl (by decide) (by decide) hk1 hFc hP1 hD1
      clear hP hD hPc hDc hP1 hD1 hFc
      have hP := hPz
      have hD := hDz
      clear hPz hDz
      replace hK := (hK.sub (tys' := [(ca, .object "VotedTriple$VotedModule"), (ck 0, .int), (ck 1, .int), (ck 2, .int)]) [0, 1, 2, 3] rfl).app hK1
      clear hK1 hKc
      generalize H1 = H at hP hS ⊢
      replace hP : va_P (dC, dI) classes [(h0, .inr (0, oT uT p9 a9 e9 n9 o9)), (a9, .inl (ca, 3, .inr (.inr (.inr (.inr (mo da)))))), (ka 0, .inl (ck 0, 32, .inl (v 0))), (da 1, .inr (2, oD (F 1) (ra 1) (ka 1))), (ka 1, .inl (ck 1, 32, .inl (v 1))), (da 2, .inr (2, oD (F 2) (ra 2) (ka 2))), (ka 2, .inl (ck 2, 32, .inl (v 2))), (da 0, .inr (2, oD F216 (ra 0) (ka 0)))] H := hP
      replace hD : va_D A [(h0, .inr (0, oT uT p9 a9 e9 n9 o9)), (a9, .inl (ca, 3, .inr (.inr (.inr (.inr (mo da)))))), (ka 0, .inl (ck 0, 32, .inl (v 0))), (da 1, .inr (2, oD (F 1) (ra 1) (ka 1))), (ka 1, .inl (ck 1, 32, .inl (v 1))), (da 2, .inr (2, oD (F 2) (ra 2) (ka 2))), (ka 2, .inl (ck 2, 32, .inl (v 2))), (da 0, .inr (2, oD F216 (ra 0) (ka 0)))] := hD
      replace hK : va_K (dC, dI) classes [(ca, .object "VotedTriple$VotedModule"), (ck 0, .int), (ck 1, .int), (ck 2, .int)] s := hK
      refine W.widen (k := 0) (n := 0) (Nat.le_of_ble_eq_true rfl) (Nat.le_of_ble_eq_true rfl) ?_
      refine lv_iinc (k := 1) (v := 1) hx hb d_T_scrub_115 hl rfl rfl (by decide) rfl (fun ls hl => ?_)
      replace hl : lv_has ls 4 [(3, .int 1), (0, .ref h0)] := hl
      refine lv_goto (tgt := 89) hx hb d_T_scrub_118 rfl ?_
      have hSq : SP = s_T_scrub_cut89_1 (tri F216 (F 1) (F 2)) v := by rw [hSq0, s_T_scrub_cut89_0]; try (rw [if_neg hc13]); try (rw [← hr15E, bnd_eq]); all_goals rfl
      replace hl := lv_sub hl (l' := [(0, .ref h0), (3, .int 1)]) [1, 0] rfl
      replace hP := hP.sub (ws' := [(h0, .inr (0, oT uT p9 a9 e9 n9 o9)), (a9, .inl (ca, 3, .inr (.inr (.inr (.inr (mo da)))))), (da 0, .inr (2, oD (tri F216 (F 1) (F 2) 0) (ra 0) (ka 0))), (ka 0, .inl (ck 0, 32, .inl (v 0))), (da 1, .inr (2, oD (tri F216 (F 1) (F 2) 1) (ra 1) (ka 1))), (ka 1, .inl (ck 1, 32, .inl (v 1))), (da 2, .inr (2, oD (tri F216 (F 1) (F 2) 2) (ra 2) (ka 2))), (ka 2, .inl (ck 2, 32, .inl (v 2)))]) [0, 1, 7, 2, 3, 4, 5, 6] rfl
      replace hD := hD.sub (ws' := [(h0, .inr (0, oT uT p9 a9 e9 n9 o9)), (a9, .inl (ca, 3, .inr (.inr (.inr (.inr (mo da)))))), (da 0, .inr (2, oD (tri F216 (F 1) (F 2) 0) (ra 0) (ka 0))), (ka 0, .inl (ck 0, 32, .inl (v 0))), (da 1, .inr (2, oD (tri F216 (F 1) (F 2) 1) (ra 1) (ka 1))), (ka 1, .inl (ck 1, 32, .inl (v 1))), (da 2, .inr (2, oD (tri F216 (F 1) (F 2) 2) (ra 2) (ka 2))), (ka 2, .inl (ck 2, 32, .inl (v 2)))]) [0, 1, 7, 2, 3, 4, 5, 6] (by decide) rfl
      exact cut89_1 (tri F216 (F 1) (F 2)) v _ _ _ (⟨hr15, hF.2.1, hF.2.2⟩) hSq hl hP hD hS
  have cut12_3 : ∀ (F : Nat → Nat → Int32) (v : Nat → Nat → Int32) (w2 : Int32) (ls : Array Slot) (H : Heap) (locs : List Loc), f3 F → SP = s_T_scrub_cut12_3 F v w2 →  lv_has ls 4 [(0, .ref h0), (1, .int ((uT 8) - (uT 8) / (32 : Int32) * (32 : Int32))), (2, .int w2), (3, .int 3)] → va_P (dC, dI) classes [(h0, .inr (0, oT uT p9 a9 e9 n9 o9)), (a9, .inl (ca, 3, .inr (.inr (.inr (.inr (mo da)))))), (da 0, .inr (2, oD (F 0) (ra 0) (ka 0))), (ka 0, .inl (ck 0, 32, .inl (v 0))), (da 1, .inr (2, oD (F 1) (ra 1) (ka 1))), (ka 1, .inl (ck 1, 32, .inl (v 1))), (da 2, .inr (2, oD (F 2) (ra 2) (ka 2))), (ka 2, .inl (ck 2, 32, .inl (v 2)))] H → va_D A [(h0, .inr (0, oT uT p9 a9 e9 n9 o9)), (a9, .inl (ca, 3, .inr (.inr (.inr (.inr (mo da)))))), (da 0, .inr (2, oD (F 0) (ra 0) (ka 0))), (ka 0, .inl (ck 0, 32, .inl (v 0))), (da 1, .inr (2, oD (F 1) (ra 1) (ka 1))), (ka 1, .inl (ck 1, 32, .inl (v 1))), (da 2, .inr (2, oD (F 2) (ra 2) (ka 2))), (ka 2, .inl (ck 2, 32, .inl (v 2)))] → va_S A s.heap H locs → W p l e (headSpec (tbw y_T_scrub b_T_scrub 4 (some .boolean)) ({ frames := 3, cells := 0, slots := 0, locals := 64 })).room s m ([.ref h0] : List Value).toArray below meth c H locs 0 0 (MQ below (va_Qi (fun (r : Int32) (u9 : (Nat → Nat → Int32) × (Nat → Nat → Int32)) => match u9 with | (F2, v2) => (f3 F2) ∧ (r, F2, v2) = SP) (fun (u9 : (Nat → Nat → Int32) × (Nat → Nat → Int32)) t => match u9 with | (F2, v2) => va_P (dC, dI) classes [(h0, .inr (0, oT uT p9 a9 e9 n9 o9)), (a9, .inl (ca, 3, .inr (.inr (.inr (.inr (mo da)))))), (da 0, .inr (2, oD (F2 0) (ra 0) (ka 0))), (ka 0, .inl (ck 0, 32, .inl (v2 0))), (da 1, .inr (2, oD (F2 1) (ra 1) (ka 1))), (ka 1, .inl (ck 1, 32, .inl (v2 1))), (da 2, .inr (2, oD (F2 2) (ra 2) (ka 2))), (ka 2, .inl (ck 2, 32, .inl (v2 2)))] t.heap ∧ va_K (dC, dI) classes [(ca, .object "VotedTriple$VotedModule"), (ck 0, .int), (ck 1, .int), (ck 2, .int)] t ∧ va_D A [(h0, .inr (0, oT uT p9 a9 e9 n9 o9)), (a9, .inl (ca, 3, .inr (.inr (.inr (.inr (mo da)))))), (da 0, .inr (2, oD (F2 0) (ra 0) (ka 0))), (ka 0, .inl (ck 0, 32, .inl (v2 0))), (da 1, .inr (2, oD (F2 1) (ra 1) (ka 1))), (ka 1, .inl (ck 1, 32, .inl (v2 1))), (da 2, .inr (2, oD (F2 2) (ra 2) (ka 2))), (ka 2, .inl (ck 2, 32, .inl (v2 2)))]) A) ([.ref h0] : List Value).toArray s 0 0 A) (F0 m 12 ls []) := by
    intro F v w2 ls H locs hF hSq0 hl hP hD hS
    clear cut89_3 cut89_2 cut89_1
    refine lv_iload_n hx hb d_T_scrub_12 rfl (lv_at hl 3 rfl) ?_
    refine lv_iconst (v := 3) hx hb d_T_scrub_13 (by decide) ?_
    refine lv_icmp_ge (tgt := 77) hx hb d_T_scrub_14 rfl (fun hc17 => ?_) (fun hc17 => by first | exact absurd (by decide) hc17 | exact absurd hc17 (by decide))
    refine lv_iload_n hx hb d_T_scrub_77 rfl (lv_at hl 2 rfl) ?_
    refine lv_aload_n hx hb d_T_scrub_78 rfl (lv_at hl 0 rfl) ?_
    replace hPc := hP.sub (ws' := [(h0, .inr (0, oT uT p9 a9 e9 n9 o9)), (a9, .inl (ca, 3, .inr (.inr (.inr (.inr (mo da)))))), (da 0, .inr (2, oD (F 0) (ra 0) (ka 0))), (da 1, .inr (2, oD (F 1) (ra 1) (ka 1))), (da 2, .inr (2, oD (F 2) (ra 2) (ka 2)))]) [0, 1, 2, 4, 6] rfl
    replace hKc := hK.sub (tys' := [(ca, .object "VotedTriple$VotedModule")]) [0] rfl
    refine vp_callSi (va_runV (C := "VotedTriple") (As := []) (rest := [.int w2]) ⟨hx, hb, hml, hown, hw⟩ (c_T_countTrusted l dC dI h0 p9 a9 e9 n9 o9 ca da ra ka uT F) (cwV 0 hw (gdV (k_595) (k_592) (k_594) (ks_10) (k_1)) rfl rfl rfl (by decide +kernel) ⟨Nat.le_of_ble_eq_true rfl, Nat.le_of_ble_eq_true rfl⟩) ⟨fun a U g mk q => ⟨q.1, q.2.1, va_K.moved (u := U) (U := U.calling g mk a) (Vm.Alike.refl U.vm) q.2.2⟩, va_recv hK hP rfl (q0 := 0) rfl, fun U hU hW => ⟨rfl, by rw [hU]; exact hPc, va_K.moved hW.alike hKc⟩⟩ rfl rfl hl.1 rfl (lv_room (Nat.le_of_ble_eq_true rfl)) d_T_scrub_79 ⟨Nat.le_of_ble_eq_true rfl, Nat.le_of_ble_eq_true rfl⟩).run (fun r18 hr19 => ?_)
    obtain ⟨hr19, hr19E⟩ := hr19
    refine lv_icmp_ne (tgt := 87) hx hb d_T_scrub_82 rfl (fun hc20 => ?_) (fun hc20 => ?_)
    · --  ¬ w2 = r18
      refine lv_iconst (v := 0) hx hb d_T_scrub_87 (by decide) ?_
      refine lv_istore_n hx hb d_T_scrub_88 rfl hl (by decide) rfl (fun ls hl => ?_)
      replace hl : lv_has ls 4 [(3, .int 0), (0, .ref h0), (1, .int ((uT 8) - (uT 8) / (32 : Int32) * (32 : Int32))), (2, .int w2)] := hl
      have hSq : SP = s_T_scrub_cut89_0 F v := by rw [hSq0, s_T_scrub_cut12_3]; try (rw [← hr19E, bnd_eq]); try (rw [if_neg hc20]); all_goals rfl
      replace hl := lv_sub hl (l' := [(0, .ref h0), (3, .int 0)]) [1, 0] rfl
      replace hP := hP.sub (ws' := [(h0, .inr (0, oT uT p9 a9 e9 n9 o9)), (a9, .inl (ca, 3, .inr (.inr (.inr (.inr (mo da)))))), (da 0, .inr (2, oD (F 0) (ra 0) (ka 0))), (ka 0, .inl (ck 0, 32, .inl (v 0))), (da 1, .inr (2, oD (F 1) (ra 1) (ka 1))), (ka 1, .inl (ck 1, 32, .inl (v 1))), (da 2, .inr (2, oD (F 2) (ra 2) (ka 2))), (ka 2, .inl (ck 2, 32, .inl (v 2)))]) [0, 1, 2, 3, 4, 5, 6, 7] rfl
      replace hD := hD.sub (ws' := [(h0, .inr (0, oT uT p9 a9 e9 n9 o9)), (a9, .inl (ca, 3, .inr (.inr (.inr (.inr (mo da)))))), (da 0, .inr (2, oD (F 0) (ra 0) (ka 0))), (ka 0, .inl (ck 0, 32, .inl (v 0))), (da 1, .inr (2, oD (F 1) (ra 1) (ka 1))), (ka 1, .inl (ck 1, 32, .inl (v 1))), (da 2, .inr (2, oD (F 2) (ra 2) (ka 2))), (ka 2, .inl (ck 2, 32, .inl (v 2)))]) [0, 1, 2, 3, 4, 5, 6, 7] (by decide) rfl
      exact cut89_0 F v _ _ _ hF hSq hl hP hD hS
    · --  w2 = r18
      refine lv_iconst (v := 0) hx hb d_T_scrub_85 (by decide) ?_
      have hP9 := hP.sub (ws' := [(h0, .inr (0, oT uT p9 a9 e9 n9 o9)), (a9, .inl (ca, 3, .inr (.inr (.inr (.inr (mo da)))))), (da 0, .inr (2, oD (F 0) (ra 0) (ka 0))), (ka 0, .inl (ck 0, 32, .inl (v 0))), (da 1, .inr (2, oD (F 1) (ra 1) (ka 1))), (ka 1, .inl (ck 1, 32, .inl (v 1))), (da 2, .inr (2, oD (F 2) (ra 2) (ka 2))), (ka 2, .inl (ck 2, 32, .inl (v 2)))]) [0, 1, 2, 3, 4, 5, 6, 7] rfl
      have hD9 := hD.sub (ws' := [(h0, .inr (0, oT uT p9 a9 e9 n9 o9)), (a9, .inl (ca, 3, .inr (.inr (.inr (.inr (mo da)))))), (da 0, .inr (2, oD (F 0) (ra 0) (ka 0))), (ka 0, .inl (ck 0, 32, .inl (v 0))), (da 1, .inr (2, oD (F 1) (ra 1) (ka 1))), (ka 1, .inl (ck 1, 32, .inl (v 1))), (da 2, .inr (2, oD (F 2) (ra 2) (ka 2))), (ka 2, .inl (ck 2, 32, .inl (v 2)))]) [0, 1, 2, 3, 4, 5, 6, 7] (by decide) rfl
      have hK9 := hK.sub (tys' := [(ca, .object "VotedTriple$VotedModule"), (ck 0, .int), (ck 1, .int), (ck 2, .int)]) [0, 1, 2, 3] rfl
      refine W.widen (k := 0) (n := 0) (Nat.le_of_ble_eq_true rfl) (Nat.le_of_ble_eq_true rfl) ?_
      exact W.zret (v := 0) (ty := .boolean) hx hb hr rfl (fun t ht hW => ⟨⟨_, (F, v), rfl, ⟨hF, (by rw [hSq0, s_T_scrub_cut12_3]; try (rw [← hr19E, bnd_eq]); try (rw [if_pos hc20]); all_goals rfl)⟩, by rw [ht]; exact hP9, va_K.moved hW.alike hK9, hD9⟩, hS.F ht⟩) hS.2.2 d_T_scrub_86
  have cut12_2 : ∀ (F : Nat → Nat → Int32) (v : Nat → Nat → Int32) (w2 : Int32) (ls : Array Slot) (H : Heap) (locs : List Loc), f3 F → SP = s_T_scrub_cut12_2 uT F v w2 →  lv_has ls 4 [(0, .ref h0), (1, .int ((uT 8) - (uT 8) / (32 : Int32) * (32 : Int32))), (2, .int w2), (3, .int 2)] → va_P (dC, dI) classes [(h0, .inr (0, oT uT p9 a9 e9 n9 o9)), (a9, .inl (ca, 3, .inr (.inr (.inr (.inr (mo da)))))), (da 0, .inr (2, oD (F 0) (ra 0) (ka 0))), (ka 0, .inl (ck 0, 32, .inl (v 0))), (da 1, .inr (2, oD (F 1) (ra 1) (ka 1))), (ka 1, .inl (ck 1, 32, .inl (v 1))), (da 2, .inr (2, oD (F 2) (ra 2) (ka 2))), (ka 2, .inl (ck 2, 32, .inl (v 2)))] H → va_D A [(h0, .inr (0, oT uT p9 a9 e9 n9 o9)), (a9, .inl (ca, 3, .inr (.inr (.inr (.inr (mo da)))))), (da 0, .inr (2, oD (F 0) (ra 0) (ka 0))), (ka 0, .inl (ck 0, 32, .inl (v 0))), (da 1, .inr (2, oD (F 1) (ra 1) (ka 1))), (ka 1, .inl (ck 1, 32, .inl (v 1))), (da 2, .inr (2, oD (F 2) (ra 2) (ka 2))), (ka 2, .inl (ck 2, 32, .inl (v 2)))] → va_S A s.heap H locs → W p l e (headSpec (tbw y_T_scrub b_T_scrub 4 (some .boolean)) ({ frames := 3, cells := 0, slots := 0, locals := 64 })).room s m ([.ref h0] : List Value).toArray below meth c H locs 0 0 (MQ below (va_Qi (fun (r : Int32) (u9 : (Nat → Nat → Int32) × (Nat → Nat → Int32)) => match u9 with | (F2, v2) => (f3 F2) ∧ (r, F2, v2) = SP) (fun (u9 : (Nat → Nat → Int32) × (Nat → Nat → Int32)) t => match u9 with | (F2, v2) => va_P (dC, dI) classes [(h0, .inr (0, oT uT p9 a9 e9 n9 o9)), (a9, .inl (ca, 3, .inr (.inr (.inr (.inr (mo da)))))), (da 0, .inr (2, oD (F2 0) (ra 0) (ka 0))), (ka 0, .inl (ck 0, 32, .inl (v2 0))), (da 1, .inr (2, oD (F2 1) (ra 1) (ka 1))), (ka 1, .inl (ck 1, 32, .inl (v2 1))), (da 2, .inr (2, oD (F2 2) (ra 2) (ka 2))), (ka 2, .inl (ck 2, 32, .inl (v2 2)))] t.heap ∧ va_K (dC, dI) classes [(ca, .object "VotedTriple$VotedModule"), (ck 0, .int), (ck 1, .int), (ck 2, .int)] t ∧ va_D A [(h0, .inr (0, oT uT p9 a9 e9 n9 o9)), (a9, .inl (ca, 3, .inr (.inr (.inr (.inr (mo da)))))), (da 0, .inr (2, oD (F2 0) (ra 0) (ka 0))), (ka 0, .inl (ck 0, 32, .inl (v2 0))), (da 1, .inr (2, oD (F2 1) (ra 1) (ka 1))), (ka 1, .inl (ck 1, 32, .inl (v2 1))), (da 2, .inr (2, oD (F2 2) (ra 2) (ka 2))), (ka 2, .inl (ck 2, 32, .inl (v2 2)))]) A) ([.ref h0] : List Value).toArray s 0 0 A) (F0 m 12 ls []) := by
    intro F v w2 ls H locs hF hSq0 hl hP hD hS
    clear cut89_3 cut89_2 cut89_1 cut89_0
    refine lv_iload_n hx hb d_T_scrub_12 rfl (lv_at hl 3 rfl) ?_
    refine lv_iconst (v := 3) hx hb d_T_scrub_13 (by decide) ?_
    refine lv_icmp_ge (tgt := 77) hx hb d_T_scrub_14 rfl (fun hc21 => by first | exact absurd hc21 (by decide) | exact absurd (by decide) hc21) (fun hc21 => ?_)
    refine lv_aload_n hx hb d_T_scrub_17 rfl (lv_at hl 0 rfl) ?_
    refine va_get (D := (dC, dI)) (ci := 0) (v := .ref a9) (C := "VotedTriple") (T := F_T) (N := 11) hx hb hw in_T hown hK hP 0 rfl rfl 1 (by decide) (hw _ k_195) (fun _ h9 => h9) rfl d_T_scrub_18 ?_
    refine lv_iload_n hx hb d_T_scrub_21 rfl (lv_at hl 3 rfl) ?_
    refine va_aldq hx hb hK hP 1 0 rfl rfl (by unfold vp_in; decide) d_T_scrub_22 ?_
    refine W.eq (g2 := F0 m 23 ls [.ref (da 2)]) rfl ?_
    refine lv_aload_n hx hb d_T_scrub_23 rfl (lv_at hl 0 rfl) ?_
    refine va_get (D := (dC, dI)) (ci := 0) (v := .ref a9) (C := "VotedTriple") (T := F_T) (N := 11) hx hb hw in_T hown hK hP 0 rfl rfl 1 (by decide) (hw _ k_195) (fun _ h9 => h9) rfl d_T_scrub_24 ?_
    refine lv_iload_n hx hb d_T_scrub_27 rfl (lv_at hl 3 rfl) ?_
    refine va_aldq hx hb hK hP 1 0 rfl rfl (by unfold vp_in; decide) d_T_scrub_28 ?_
    refine W.eq (g2 := F0 m 29 ls [.ref (da 2), .ref (da 2)]) rfl ?_
    replace hPc := hP.sub (ws' := [(da 2, .inr (2, oD (F 2) (ra 2) (ka 2)))]) [6] rfl
    replace hKc := hK.sub (tys' := []) [] rfl
    refine vp_callSi (va_runV (C := "VotedTriple$VotedModule") (As := []) (rest := [.ref (da 2)]) ⟨hx, hb, hml, hown, hw⟩ (c_D_isTrusted l dC dI (da 2) (ra 2) (ka 2) (F 2)) (cwV 0 hw (gdV (k_583) (k_580) (k_581) (k_582) (k_7)) rfl rfl rfl (by decide +kernel) ⟨Nat.le_of_ble_eq_true rfl, Nat.le_of_ble_eq_true rfl⟩) ⟨fun a U g mk q => ⟨q.1, q.2.1, va_K.moved (u := U) (U := U.calling g mk a) (Vm.Alike.refl U.vm) q.2.2⟩, va_recv hK hP rfl (q0 := 6) rfl, fun U hU hW => ⟨rfl, by rw [hU]; exact hPc, va_K.moved hW.alike hKc⟩⟩ rfl rfl hl.1 rfl (lv_room (Nat.le_of_ble_eq_true rfl)) d_T_scrub_29 ⟨Nat.le_of_ble_eq_true rfl, Nat.le_of_ble_eq_true rfl⟩).run (fun r22 hr23 => ?_)
    subst hr23
    refine lv_if_eq (tgt := 52) hx hb d_T_scrub_32 rfl (fun hc24 => ?_) (fun hc24 => ?_)
    · --  (bI (trB (F 2))) = 0
      refine lv_iconst (v := 0) hx hb d_T_scrub_52 (by decide) ?_
      refine va_put (D := (dC, dI)) (ci := 2) (v := .int 0) (ty := .boolean) (C := "VotedTriple$VotedModule") (T := F_D) (N := 19) hx hb hw in_D ft_D tyok_D nm_D hown hK hP hD hS 6 rfl rfl 17 (by decide) (hw _ k_160) (fun _ h9 => h9) rfl (by decide +kernel) rfl rfl (Nat.le_of_ble_eq_true rfl) d_T_scrub_53 (fun H locs hP hD hS => ?_)
      replace hP : va_P (dC, dI) classes [(h0, .inr (0, oT uT p9 a9 e9 n9 o9)), (a9, .inl (ca, 3, .inr (.inr (.inr (.inr (mo da)))))), (da 0, .inr (2, oD (F 0) (ra 0) (ka 0))), (ka 0, .inl (ck 0, 32, .inl (v 0))), (da 1, .inr (2, oD (F 1) (ra 1) (ka 1))), (ka 1, .inl (ck 1, 32, .inl (v 1))), (da 2, .inr (2, [.ref (ra 2), .int (F 2 1), .int (F 2 2), .int (F 2 3), .int (F 2 4), .int (F 2 5), .int (F 2 6), .ref (ka 2), .int (F 2 8), .int (F 2 9), .int (F 2 10), .int (F 2 11), .int (F 2 12), .int (F 2 13), .int (F 2 14), .int (F 2 15), .int (F 2 16), .int 0, .int (F 2 18)])), (ka 2, .inl (ck 2, 32, .inl (v 2)))] H := hP
      replace hD : va_D A [(h0, .inr (0, oT uT p9 a9 e9 n9 o9)), (a9, .inl (ca, 3, .inr (.inr (.inr (.inr (mo da)))))), (da 0, .inr (2, oD (F 0) (ra 0) (ka 0))), (ka 0, .inl (ck 0, 32, .inl (v 0))), (da 1, .inr (2, oD (F 1) (ra 1) (ka 1))), (ka 1, .inl (ck 1, 32, .inl (v 1))), (da 2, .inr (2, [.ref (ra 2), .int (F 2 1), .int (F 2 2), .int (F 2 3), .int (F 2 4), .int (F 2 5), .int (F 2 6), .ref (ka 2), .int (F 2 8), .int (F 2 9), .int (F 2 10), .int (F 2 11), .int (F 2 12), .int (F 2 13), .int (F 2 14), .int (F 2 15), .int (F 2 16), .int 0, .int (F 2 18)])), (ka 2, .inl (ck 2, 32, .inl (v 2)))] := hD
      refine lv_aload_n hx hb d_T_scrub_56 rfl (lv_at hl 0 rfl) ?_
      refine va_get (D := (dC, dI)) (ci := 0) (v := .ref a9) (C := "VotedTriple") (T := F_T) (N := 11) hx hb hw in_T hown hK hP 0 rfl rfl 1 (by decide) (hw _ k_195) (fun _ h9 => h9) rfl d_T_scrub_57 ?_
      refine lv_iload_n hx hb d_T_scrub_60 rfl (lv_at hl 3 rfl) ?_
      refine va_aldq hx hb hK hP 1 0 rfl rfl (by unfold vp_in; decide) d_T_scrub_61 ?_
      refine W.eq (g2 := F0 m 62 ls [.ref (da 2)]) rfl ?_
      refine va_get (D := (dC, dI)) (ci := 2) (v := .int 0) (C := "VotedTriple$VotedModule") (T := F_D) (N := 19) hx hb hw in_D hown hK hP 6 rfl rfl 17 (by decide) (hw _ k_160) (fun _ h9 => h9) rfl d_T_scrub_62 ?_
      refine lv_if_eq (tgt := 71) hx hb d_T_scrub_65 rfl (fun hc25 => ?_) (fun hc25 => by first | exact absurd (by decide) hc25 | exact absurd hc25 (by decide))
      refine lv_iinc (k := 3) (v := 3) hx hb d_T_scrub_71 hl rfl rfl (by decide) rfl (fun ls hl => ?_)
      replace hl : lv_has ls 4 [(3, .int 3), (0, .ref h0), (1, .int ((uT 8) - (uT 8) / (32 : Int32) * (32 : Int32))), (2, .int w2)] := hl
      refine lv_goto (tgt := 12) hx hb d_T_scrub_74 rfl ?_
      have hSq : SP = s_T_scrub_cut12_3 (tri (F 0) (F 1) (upc (F 2) 17 (0 : Int32))) v w2 := by rw [hSq0, s_T_scrub_cut12_2]; try (rw [if_pos hc24]); all_goals rfl
      replace hl := lv_sub hl (l' := [(0, .ref h0), (1, .int ((uT 8) - (uT 8) / (32 : Int32) * (32 : Int32))), (2, .int w2), (3, .int 3)]) [1, 2, 3, 0] rfl
      replace hP := hP.sub (ws' := [(h0, .inr (0, oT uT p9 a9 e9 n9 o9)), (a9, .inl (ca, 3, .inr (.inr (.inr (.inr (mo da)))))), (da 0, .inr (2, oD (tri (F 0) (F 1) (upc (F 2) 17 (0 : Int32)) 0) (ra 0) (ka 0))), (ka 0, .inl (ck 0, 32, .inl (v 0))), (da 1, .inr (2, oD (tri (F 0) (F 1) (upc (F 2) 17 (0 : Int32)) 1) (ra 1) (ka 1))), (ka 1, .inl (ck 1, 32, .inl (v 1))), (da 2, .inr (2, oD (tri (F 0) (F 1) (upc (F 2) 17 (0 : Int32)) 2) (ra 2) (ka 2))), (ka 2, .inl (ck 2, 32, .inl (v 2)))]) [0, 1, 2, 3, 4, 5, 6, 7] rfl
      replace hD := hD.sub (ws' := [(h0, .inr (0, oT uT p9 a9 e9 n9 o9)), (a9, .inl (ca, 3, .inr (.inr (.inr (.inr (mo da)))))), (da 0, .inr (2, oD (tri (F 0) (F 1) (upc (F 2) 17 (0 : Int32)) 0) (ra 0) (ka 0))), (ka 0, .inl (ck 0, 32, .inl (v 0))), (da 1, .inr (2, oD (tri (F 0) (F 1) (upc (F 2) 17 (0 : Int32)) 1) (ra 1) (ka 1))), (ka 1, .inl (ck 1, 32, .inl (v 1))), (da 2, .inr (2, oD (tri (F 0) (F 1) (upc (F 2) 17 (0 : Int32)) 2) (ra 2) (ka 2))), (ka 2, .inl (ck 2, 32, .inl (v 2)))]) [0, 1, 2, 3, 4, 5, 6, 7] (by decide) rfl
      exact cut12_3 (tri (F 0) (F 1) (upc (F 2) 17 (0 : Int32))) v w2 _ _ _ hF hSq hl hP hD hS
    · --  ¬ (bI (trB (F 2))) = 0
      refine lv_aload_n hx hb d_T_scrub_35 rfl (lv_at hl 0 rfl) ?_
      refine va_get (D := (dC, dI)) (ci := 0) (v := .ref a9) (C := "VotedTriple") (T := F_T) (N := 11) hx hb hw in_T hown hK hP 0 rfl rfl 1 (by decide) (hw _ k_195) (fun _ h9 => h9) rfl d_T_scrub_36 ?_
      refine lv_iload_n hx hb d_T_scrub_39 rfl (lv_at hl 3 rfl) ?_
      refine va_aldq hx hb hK hP 1 0 rfl rfl (by unfold vp_in; decide) d_T_scrub_40 ?_
      refine W.eq (g2 := F0 m 41 ls [.ref (da 2), .ref (da 2)]) rfl ?_
      refine lv_iload_n hx hb d_T_scrub_41 rfl (lv_at hl 1 rfl) ?_
      replace hPc := hP.sub (ws' := [(da 2, .inr (2, oD (F 2) (ra 2) (ka 2))), (ka 2, .inl (ck 2, 32, .inl (v 2)))]) [6, 7] rfl
      replace hKc := hK.sub (tys' := [(ck 2, .int)]) [3] rfl
      replace hDc := hD.sub (ws' := [(da 2, .inr (2, oD (F 2) (ra 2) (ka 2))), (ka 2, .inl (ck 2, 32, .inl (v 2)))]) [6, 7] (by decide) rfl
      replace hFc := va_free (wc := [(da 2, .inr (2, oD (F 2) (ra 2) (ka 2))), (ka 2, .inl (ck 2, 32, .inl (v 2)))]) hD hS hA [6, 7] rfl
      refine va_calli (va_runV (C := "VotedTriple$VotedModule") (As := [.int ((uT 8) - (uT 8) / (32 : Int32) * (32 : Int32))]) (rest := [.ref (da 2)]) ⟨hx, hb, hml, hown, hw⟩ (c_D_findsSpoilt l dC dI (da 2) (ra 2) (ka 2) (F 2) (ck 2) (v 2) ((uT 8) - (uT 8) / (32 : Int32) * (32 : Int32)) (rem_in hsn (by omega)) t9 H.size) (cwV 1 hw (gdV (k_525) (k_634) (k_523) (k_524) (k_7)) rfl rfl rfl (by decide +kernel) ⟨Nat.le_of_ble_eq_true rfl, Nat.le_of_ble_eq_true rfl⟩) ⟨fun a U g mk q => by obtain ⟨q0, q1, qP, qK, qD, qB⟩ := q; exact ⟨q0, q1, qP, va_K.moved (u := U) (U := U.calling g mk a) (Vm.Alike.refl U.vm) qK, qD, cb_vm (u := U) (U := U.calling g mk a) rfl qB⟩, va_recv hK hP rfl (q0 := 6) rfl, fun U hU hW => ⟨rfl, by rw [hU], by rw [hU]; exact hPc, va_K.moved hW.alike hKc, hDc.weaken (fun _ _ _ _ => trivial), by rw [hU]; exact cb_narrow (cb_warm hW (cb_kept hcb (fun a h1 h2 => hS.2.1 a h1 h2))) hFc⟩⟩ rfl rfl hl.1 rfl (lv_room (Nat.le_of_ble_eq_true rfl)) d_T_scrub_42 ⟨Nat.le_of_ble_eq_true rfl, Nat.le_of_ble_eq_true rfl⟩) hS (fun q _ h => hFc q h) hFc (fun r26 u9 t H1 locs ht hvm hr27 hB hz1 hk1 hS => ?_)
      obtain ⟨x1328, cd229⟩ := u9
      obtain ⟨hP1, hK1, hD1⟩ := hB
      rw [ht] at hP1
      replace hK1 := va_K.moved hvm.symm hK1
      try dsimp only at hr27 hP1 hK1 hD1
      obtain ⟨hr27, hr27E⟩ := hr27
      obtain ⟨hPz, hDz⟩ := va_join (wr := [(h0, .inr (0, oT uT p9 a9 e9 n9 o9)), (a9, .inl (ca, 3, .inr (.inr (.inr (.inr (mo da)))))), (da 0, .inr (2, oD (F 0) (ra 0) (ka 0))), (ka 0, .inl (ck 0, 32, .inl (v 0))), (da 1, .inr (2, oD (F 1) (ra 1) (ka 1))), (ka 1, .inl (ck 1, 32, .inl (v 1)))]) (w1 := [(da 2, .inr (2, oD (upc (F 2) 13 x1328) (ra 2) (ka 2))), (ka 2, .inl (ck 2, 32, .inl cd229))]) hP hD [6, 7] [0, 1, 2, 3, 4, 5] rfl rfl (by decide) (by decide) hk1 hFc hP1 hD1
      clear hP hD hPc hDc hP1 hD1 hFc
      have hP := hPz
      have hD := hDz
      clear hPz hDz
      replace hK := (hK.sub (tys' := [(ca, .object "VotedTriple$VotedModule"), (ck 0, .int), (ck 1, .int)]) [0, 1, 2] rfl).app hK1
      clear hK1 hKc
      generalize H1 = H at hP hS ⊢
      replace hP : va_P (dC, dI) classes [(h0, .inr (0, oT uT p9 a9 e9 n9 o9)), (a9, .inl (ca, 3, .inr (.inr (.inr (.inr (mo da)))))), (da 0, .inr (2, oD (F 0) (ra 0) (ka 0))), (ka 0, .inl (ck 0, 32, .inl (v 0))), (da 1, .inr (2, oD (F 1) (ra 1) (ka 1))), (ka 1, .inl (ck 1, 32, .inl (v 1))), (da 2, .inr (2, oD (upc (F 2) 13 x1328) (ra 2) (ka 2))), (ka 2, .inl (ck 2, 32, .inl cd229))] H := hP
      replace hD : va_D A [(h0, .inr (0, oT uT p9 a9 e9 n9 o9)), (a9, .inl (ca, 3, .inr (.inr (.inr (.inr (mo da)))))), (da 0, .inr (2, oD (F 0) (ra 0) (ka 0))), (ka 0, .inl (ck 0, 32, .inl (v 0))), (da 1, .inr (2, oD (F 1) (ra 1) (ka 1))), (ka 1, .inl (ck 1, 32, .inl (v 1))), (da 2, .inr (2, oD (upc (F 2) 13 x1328) (ra 2) (ka 2))), (ka 2, .inl (ck 2, 32, .inl cd229))] := hD
      replace hK : va_K (dC, dI) classes [(ca, .object "VotedTriple$VotedModule"), (ck 0, .int), (ck 1, .int), (ck 2, .int)] s := hK
      refine W.widen (k := 0) (n := 0) (Nat.le_of_ble_eq_true rfl) (Nat.le_of_ble_eq_true rfl) ?_
      refine lv_if_eq (tgt := 52) hx hb d_T_scrub_45 rfl (fun hc30 => ?_) (fun hc30 => ?_)
      · --  r26 = 0
        refine lv_iconst (v := 0) hx hb d_T_scrub_52 (by decide) ?_
        refine va_put (D := (dC, dI)) (ci := 2) (v := .int 0) (ty := .boolean) (C := "VotedTriple$VotedModule") (T := F_D) (N := 19) hx hb hw in_D ft_D tyok_D nm_D hown hK hP hD hS 6 rfl rfl 17 (by decide) (hw _ k_160) (fun _ h9 => h9) rfl (by decide +kernel) rfl rfl (Nat.le_of_ble_eq_true rfl) d_T_scrub_53 (fun H locs hP hD hS => ?_)
        replace hP : va_P (dC, dI) classes [(h0, .inr (0, oT uT p9 a9 e9 n9 o9)), (a9, .inl (ca, 3, .inr (.inr (.inr (.inr (mo da)))))), (da 0, .inr (2, oD (F 0) (ra 0) (ka 0))), (ka 0, .inl (ck 0, 32, .inl (v 0))), (da 1, .inr (2, oD (F 1) (ra 1) (ka 1))), (ka 1, .inl (ck 1, 32, .inl (v 1))), (da 2, .inr (2, [.ref (ra 2), .int (upc (F 2) 13 x1328 1), .int (upc (F 2) 13 x1328 2), .int (upc (F 2) 13 x1328 3), .int (upc (F 2) 13 x1328 4), .int (upc (F 2) 13 x1328 5), .int (upc (F 2) 13 x1328 6), .ref (ka 2), .int (upc (F 2) 13 x1328 8), .int (upc (F 2) 13 x1328 9), .int (upc (F 2) 13 x1328 10), .int (upc (F 2) 13 x1328 11), .int (upc (F 2) 13 x1328 12), .int (upc (F 2) 13 x1328 13), .int (upc (F 2) 13 x1328 14), .int (upc (F 2) 13 x1328 15), .int (upc (F 2) 13 x1328 16), .int 0, .int (upc (F 2) 13 x1328 18)])), (ka 2, .inl (ck 2, 32, .inl cd229))] H := hP
        replace hD : va_D A [(h0, .inr (0, oT uT p9 a9 e9 n9 o9)), (a9, .inl (ca, 3, .inr (.inr (.inr (.inr (mo da)))))), (da 0, .inr (2, oD (F 0) (ra 0) (ka 0))), (ka 0, .inl (ck 0, 32, .inl (v 0))), (da 1, .inr (2, oD (F 1) (ra 1) (ka 1))), (ka 1, .inl (ck 1, 32, .inl (v 1))), (da 2, .inr (2, [.ref (ra 2), .int (upc (F 2) 13 x1328 1), .int (upc (F 2) 13 x1328 2), .int (upc (F 2) 13 x1328 3), .int (upc (F 2) 13 x1328 4), .int (upc (F 2) 13 x1328 5), .int (upc (F 2) 13 x1328 6), .ref (ka 2), .int (upc (F 2) 13 x1328 8), .int (upc (F 2) 13 x1328 9), .int (upc (F 2) 13 x1328 10), .int (upc (F 2) 13 x1328 11), .int (upc (F 2) 13 x1328 12), .int (upc (F 2) 13 x1328 13), .int (upc (F 2) 13 x1328 14), .int (upc (F 2) 13 x1328 15), .int (upc (F 2) 13 x1328 16), .int 0, .int (upc (F 2) 13 x1328 18)])), (ka 2, .inl (ck 2, 32, .inl cd229))] := hD
        refine lv_aload_n hx hb d_T_scrub_56 rfl (lv_at hl 0 rfl) ?_
        refine va_get (D := (dC, dI)) (ci := 0) (v := .ref a9) (C := "VotedTriple") (T := F_T) (N := 11) hx hb hw in_T hown hK hP 0 rfl rfl 1 (by decide) (hw _ k_195) (fun _ h9 => h9) rfl d_T_scrub_57 ?_
        refine lv_iload_n hx hb d_T_scrub_60 rfl (lv_at hl 3 rfl) ?_
        refine va_aldq hx hb hK hP 1 0 rfl rfl (by unfold vp_in; decide) d_T_scrub_61 ?_
        refine W.eq (g2 := F0 m 62 ls [.ref (da 2)]) rfl ?_
        refine va_get (D := (dC, dI)) (ci := 2) (v := .int 0) (C := "VotedTriple$VotedModule") (T := F_D) (N := 19) hx hb hw in_D hown hK hP 6 rfl rfl 17 (by decide) (hw _ k_160) (fun _ h9 => h9) rfl d_T_scrub_62 ?_
        refine lv_if_eq (tgt := 71) hx hb d_T_scrub_65 rfl (fun hc31 => ?_) (fun hc31 => by first | exact absurd (by decide) hc31 | exact absurd hc31 (by decide))
        refine lv_iinc (k := 3) (v := 3) hx hb d_T_scrub_71 hl rfl rfl (by decide) rfl (fun ls hl => ?_)
        replace hl : lv_has ls 4 [(3, .int 3), (0, .ref h0), (1, .int ((uT 8) - (uT 8) / (32 : Int32) * (32 : Int32))), (2, .int w2)] := hl
        refine lv_goto (tgt := 12) hx hb d_T_scrub_74 rfl ?_
        have hSq : SP = s_T_scrub_cut12_3 (tri (F 0) (F 1) (upc (upc (F 2) 13 x1328) 17 (0 : Int32))) (tri (v 0) (v 1) cd229) w2 := by rw [hSq0, s_T_scrub_cut12_2]; try (rw [if_neg hc24]); try (rw [← hr27E, bnd_eq]); try dsimp only; try (rw [if_pos hc30]); all_goals rfl
        replace hl := lv_sub hl (l' := [(0, .ref h0), (1, .int ((uT 8) - (uT 8) / (32 : Int32) * (32 : Int32))), (2, .int w2), (3, .int 3)]) [1, 2, 3, 0] rfl
        replace hP := hP.sub (ws' := [(h0, .inr (0, oT uT p9 a9 e9 n9 o9)), (a9, .inl (ca, 3, .inr (.inr (.inr (.inr (mo da)))))), (da 0, .inr (2, oD (tri (F 0) (F 1) (upc (upc (F 2) 13 x1328) 17 (0 : Int32)) 0) (ra 0) (ka 0))), (ka 0, .inl (ck 0, 32, .inl (tri (v 0) (v 1) cd229 0))), (da 1, .inr (2, oD (tri (F 0) (F 1) (upc (upc (F 2) 13 x1328) 17 (0 : Int32)) 1) (ra 1) (ka 1))), (ka 1, .inl (ck 1, 32, .inl (tri (v 0) (v 1) cd229 1))), (da 2, .inr (2, oD (tri (F 0) (F 1) (upc (upc (F 2) 13 x1328) 17 (0 : Int32)) 2) (ra 2) (ka 2))), (ka 2, .inl (ck 2, 32, .inl (tri (v 0) (v 1) cd229 2)))]) [0, 1, 2, 3, 4, 5, 6, 7] rfl
        replace hD := hD.sub (ws' := [(h0, .inr (0, oT uT p9 a9 e9 n9 o9)), (a9, .inl (ca, 3, .inr (.inr (.inr (.inr (mo da)))))), (da 0, .inr (2, oD (tri (F 0) (F 1) (upc (upc (F 2) 13 x1328) 17 (0 : Int32)) 0) (ra 0) (ka 0))), (ka 0, .inl (ck 0, 32, .inl (tri (v 0) (v 1) cd229 0))), (da 1, .inr (2, oD (tri (F 0) (F 1) (upc (upc (F 2) 13 x1328) 17 (0 : Int32)) 1) (ra 1) (ka 1))), (ka 1, .inl (ck 1, 32, .inl (tri (v 0) (v 1) cd229 1))), (da 2, .inr (2, oD (tri (F 0) (F 1) (upc (upc (F 2) 13 x1328) 17 (0 : Int32)) 2) (ra 2) (ka 2))), (ka 2, .inl (ck 2, 32, .inl (tri (v 0) (v 1) cd229 2)))]) [0, 1, 2, 3, 4, 5, 6, 7] (by decide) rfl
        exact cut12_3 (tri (F 0) (F 1) (upc (upc (F 2) 13 x1328) 17 (0 : Int32))) (tri (v 0) (v 1) cd229) w2 _ _ _ hF hSq hl hP hD hS
      · --  ¬ r26 = 0
        refine lv_iconst (v := 1) hx hb d_T_scrub_48 (by decide) ?_
        refine lv_goto (tgt := 53) hx hb d_T_scrub_49 rfl ?_
        refine va_put (D := (dC, dI)) (ci := 2) (v := .int 1) (ty := .boolean) (C := "VotedTriple$VotedModule") (T := F_D) (N := 19) hx hb hw in_D ft_D tyok_D nm_D hown hK hP hD hS 6 rfl rfl 17 (by decide) (hw _ k_160) (fun _ h9 => h9) rfl (by decide +kernel) rfl rfl (Nat.le_of_ble_eq_true rfl) d_T_scrub_53 (fun H locs hP hD hS => ?_)
        replace hP : va_P (dC, dI) classes [(h0, .inr (0, oT uT p9 a9 e9 n9 o9)), (a9, .inl (ca, 3, .inr (.inr (.inr (.inr (mo da)))))), (da 0, .inr (2, oD (F 0) (ra 0) (ka 0))), (ka 0, .inl (ck 0, 32, .inl (v 0))), (da 1, .inr (2, oD (F 1) (ra 1) (ka 1))), (ka 1, .inl (ck 1, 32, .inl (v 1))), (da 2, .inr (2, [.ref (ra 2), .int (upc (F 2) 13 x1328 1), .int (upc (F 2) 13 x1328 2), .int (upc (F 2) 13 x1328 3), .int (upc (F 2) 13 x1328 4), .int (upc (F 2) 13 x1328 5), .int (upc (F 2) 13 x1328 6), .ref (ka 2), .int (upc (F 2) 13 x1328 8), .int (upc (F 2) 13 x1328 9), .int (upc (F 2) 13 x1328 10), .int (upc (F 2) 13 x1328 11), .int (upc (F 2) 13 x1328 12), .int (upc (F 2) 13 x1328 13), .int (upc (F 2) 13 x1328 14), .int (upc (F 2) 13 x1328 15), .int (upc (F 2) 13 x1328 16), .int 1, .int (upc (F 2) 13 x1328 18)])), (ka 2, .inl (ck 2, 32, .inl cd229))] H := hP
        replace hD : va_D A [(h0, .inr (0, oT uT p9 a9 e9 n9 o9)), (a9, .inl (ca, 3, .inr (.inr (.inr (.inr (mo da)))))), (da 0, .inr (2, oD (F 0) (ra 0) (ka 0))), (ka 0, .inl (ck 0, 32, .inl (v 0))), (da 1, .inr (2, oD (F 1) (ra 1) (ka 1))), (ka 1, .inl (ck 1, 32, .inl (v 1))), (da 2, .inr (2, [.ref (ra 2), .int (upc (F 2) 13 x1328 1), .int (upc (F 2) 13 x1328 2), .int (upc (F 2) 13 x1328 3), .int (upc (F 2) 13 x1328 4), .int (upc (F 2) 13 x1328 5), .int (upc (F 2) 13 x1328 6), .ref (ka 2), .int (upc (F 2) 13 x1328 8), .int (upc (F 2) 13 x1328 9), .int (upc (F 2) 13 x1328 10), .int (upc (F 2) 13 x1328 11), .int (upc (F 2) 13 x1328 12), .int (upc (F 2) 13 x1328 13), .int (upc (F 2) 13 x1328 14), .int (upc (F 2) 13 x1328 15), .int (upc (F 2) 13 x1328 16), .int 1, .int (upc (F 2) 13 x1328 18)])), (ka 2, .inl (ck 2, 32, .inl cd229))] := hD
        refine lv_aload_n hx hb d_T_scrub_56 rfl (lv_at hl 0 rfl) ?_
        refine va_get (D := (dC, dI)) (ci := 0) (v := .ref a9) (C := "VotedTriple") (T := F_T) (N := 11) hx hb hw in_T hown hK hP 0 rfl rfl 1 (by decide) (hw _ k_195) (fun _ h9 => h9) rfl d_T_scrub_57 ?_
        refine lv_iload_n hx hb d_T_scrub_60 rfl (lv_at hl 3 rfl) ?_
        refine va_aldq hx hb hK hP 1 0 rfl rfl (by unfold vp_in; decide) d_T_scrub_61 ?_
        refine W.eq (g2 := F0 m 62 ls [.ref (da 2)]) rfl ?_
        refine va_get (D := (dC, dI)) (ci := 2) (v := .int 1) (C := "VotedTriple$VotedModule") (T := F_D) (N := 19) hx hb hw in_D hown hK hP 6 rfl rfl 17 (by decide) (hw _ k_160) (fun _ h9 => h9) rfl d_T_scrub_62 ?_
        refine lv_if_eq (tgt := 71) hx hb d_T_scrub_65 rfl (fun hc32 => by first | exact absurd hc32 (by decide) | exact absurd (by decide) hc32) (fun hc32 => ?_)
        refine lv_iinc (k := 2) (v := w2 + 1) hx hb d_T_scrub_68 hl rfl rfl (by decide) rfl (fun ls hl => ?_)
        replace hl : lv_has ls 4 [(2, .int (w2 + 1)), (0, .ref h0), (1, .int ((uT 8) - (uT 8) / (32 : Int32) * (32 : Int32))), (3, .int 2)] := hl
        refine lv_iinc (k := 3) (v := 3) hx hb d_T_scrub_71 hl rfl rfl (by decide) rfl (fun ls hl => ?_)
        replace hl : lv_has ls 4 [(3, .int 3), (2, .int (w2 + 1)), (0, .ref h0), (1, .int ((uT 8) - (uT 8) / (32 : Int32) * (32 : Int32)))] := hl
        refine lv_goto (tgt := 12) hx hb d_T_scrub_74 rfl ?_
        have hSq : SP = s_T_scrub_cut12_3 (tri (F 0) (F 1) (upc (upc (F 2) 13 x1328) 17 (1 : Int32))) (tri (v 0) (v 1) cd229) (w2 + 1) := by rw [hSq0, s_T_scrub_cut12_2]; try (rw [if_neg hc24]); try (rw [← hr27E, bnd_eq]); try dsimp only; try (rw [if_neg hc30]); all_goals rfl
        replace hl := lv_sub hl (l' := [(0, .ref h0), (1, .int ((uT 8) - (uT 8) / (32 : Int32) * (32 : Int32))), (2, .int (w2 + 1)), (3, .int 3)]) [2, 3, 1, 0] rfl
        replace hP := hP.sub (ws' := [(h0, .inr (0, oT uT p9 a9 e9 n9 o9)), (a9, .inl (ca, 3, .inr (.inr (.inr (.inr (mo da)))))), (da 0, .inr (2, oD (tri (F 0) (F 1) (upc (upc (F 2) 13 x1328) 17 (1 : Int32)) 0) (ra 0) (ka 0))), (ka 0, .inl (ck 0, 32, .inl (tri (v 0) (v 1) cd229 0))), (da 1, .inr (2, oD (tri (F 0) (F 1) (upc (upc (F 2) 13 x1328) 17 (1 : Int32)) 1) (ra 1) (ka 1))), (ka 1, .inl (ck 1, 32, .inl (tri (v 0) (v 1) cd229 1))), (da 2, .inr (2, oD (tri (F 0) (F 1) (upc (upc (F 2) 13 x1328) 17 (1 : Int32)) 2) (ra 2) (ka 2))), (ka 2, .inl (ck 2, 32, .inl (tri (v 0) (v 1) cd229 2)))]) [0, 1, 2, 3, 4, 5, 6, 7] rfl
        replace hD := hD.sub (ws' := [(h0, .inr (0, oT uT p9 a9 e9 n9 o9)), (a9, .inl (ca, 3, .inr (.inr (.inr (.inr (mo da)))))), (da 0, .inr (2, oD (tri (F 0) (F 1) (upc (upc (F 2) 13 x1328) 17 (1 : Int32)) 0) (ra 0) (ka 0))), (ka 0, .inl (ck 0, 32, .inl (tri (v 0) (v 1) cd229 0))), (da 1, .inr (2, oD (tri (F 0) (F 1) (upc (upc (F 2) 13 x1328) 17 (1 : Int32)) 1) (ra 1) (ka 1))), (ka 1, .inl (ck 1, 32, .inl (tri (v 0) (v 1) cd229 1))), (da 2, .inr (2, oD (tri (F 0) (F 1) (upc (upc (F 2) 13 x1328) 17 (1 : Int32)) 2) (ra 2) (ka 2))), (ka 2, .inl (ck 2, 32, .inl (tri (v 0) (v 1) cd229 2)))]) [0, 1, 2, 3, 4, 5, 6, 7] (by decide) rfl
        exact cut12_3 (tri (F 0) (F 1) (upc (upc (F 2) 13 x1328) 17 (1 : Int32))) (tri (v 0) (v 1) cd229) (w2 + 1) _ _ _ hF hSq hl hP hD hS
  have cut12_1 : ∀ (F : Nat → Nat → Int32) (v : Nat → Nat → Int32) (w2 : Int32) (ls : Array Slot) (H : Heap) (locs : List Loc), f3 F → SP = s_T_scrub_cut12_1 uT F v w2 →  lv_has ls 4 [(0, .ref h0), (1, .int ((uT 8) - (uT 8) / (32 : Int32) * (32 : Int32))), (2, .int w2), (3, .int 1)] → va_P (dC, dI) classes [(h0, .inr (0, oT uT p9 a9 e9 n9 o9)), (a9, .inl (ca, 3, .inr (.inr (.inr (.inr (mo da)))))), (da 0, .inr (2, oD (F 0) (ra 0) (ka 0))), (ka 0, .inl (ck 0, 32, .inl (v 0))), (da 1, .inr (2, oD (F 1) (ra 1) (ka 1))), (ka 1, .inl (ck 1, 32, .inl (v 1))), (da 2, .inr (2, oD (F 2) (ra 2) (ka 2))), (ka 2, .inl (ck 2, 32, .inl (v 2)))] H → va_D A [(h0, .inr (0, oT uT p9 a9 e9 n9 o9)), (a9, .inl (ca, 3, .inr (.inr (.inr (.inr (mo da)))))), (da 0, .inr (2, oD (F 0) (ra 0) (ka 0))), (ka 0, .inl (ck 0, 32, .inl (v 0))), (da 1, .inr (2, oD (F 1) (ra 1) (ka 1))), (ka 1, .inl (ck 1, 32, .inl (v 1))), (da 2, .inr (2, oD (F 2) (ra 2) (ka 2))), (ka 2, .inl (ck 2, 32, .inl (v 2)))] → va_S A s.heap H locs → W p l e (headSpec (tbw y_T_scrub b_T_scrub 4 (some .boolean)) ({ frames := 3, cells := 0, slots := 0, locals := 64 })).room s m ([.ref h0] : List Value).toArray below meth c H locs 0 0 (MQ below (va_Qi (fun (r : Int32) (u9 : (Nat → Nat → Int32) × (Nat → Nat → Int32)) => match u9 with | (F2, v2) => (f3 F2) ∧ (r, F2, v2) = SP) (fun (u9 : (Nat → Nat → Int32) × (Nat → Nat → Int32)) t => match u9 with | (F2, v2) => va_P (dC, dI) classes [(h0, .inr (0, oT uT p9 a9 e9 n9 o9)), (a9, .inl (ca, 3, .inr (.inr (.inr (.inr (mo da)))))), (da 0, .inr (2, oD (F2 0) (ra 0) (ka 0))), (ka 0, .inl (ck 0, 32, .inl (v2 0))), (da 1, .inr (2, oD (F2 1) (ra 1) (ka 1))), (ka 1, .inl (ck 1, 32, .inl (v2 1))), (da 2, .inr (2, oD (F2 2) (ra 2) (ka 2))), (ka 2, .inl (ck 2, 32, .inl (v2 2)))] t.heap ∧ va_K (dC, dI) classes [(ca, .object "VotedTriple$VotedModule"), (ck 0, .int), (ck 1, .int), (ck 2, .int)] t ∧ va_D A [(h0, .inr (0, oT uT p9 a9 e9 n9 o9)), (a9, .inl (ca, 3, .inr (.inr (.inr (.inr (mo da)))))), (da 0, .inr (2, oD (F2 0) (ra 0) (ka 0))), (ka 0, .inl (ck 0, 32, .inl (v2 0))), (da 1, .inr (2, oD (F2 1) (ra 1) (ka 1))), (ka 1, .inl (ck 1, 32, .inl (v2 1))), (da 2, .inr (2, oD (F2 2) (ra 2) (ka 2))), (ka 2, .inl (ck 2, 32, .inl (v2 2)))]) A) ([.ref h0] : List Value).toArray s 0 0 A) (F0 m 12 ls []) := by
    intro F v w2 ls H locs hF hSq0 hl hP hD hS
    clear cut89_3 cut89_2 cut89_1 cut89_0 cut12_3
    refine lv_iload_n hx hb d_T_scrub_12 rfl (lv_at hl 3 rfl) ?_
    refine lv_iconst (v := 3) hx hb d_T_scrub_13 (by decide) ?_
    refine lv_icmp_ge (tgt := 77) hx hb d_T_scrub_14 rfl (fun hc33 => by first | exact absurd hc33 (by decide) | exact absurd (by decide) hc33) (fun hc33 => ?_)
    refine lv_aload_n hx hb d_T_scrub_17 rfl (lv_at hl 0 rfl) ?_
    refine va_get (D := (dC, dI)) (ci := 0) (v := .ref a9) (C := "VotedTriple") (T := F_T) (N := 11) hx hb hw in_T hown hK hP 0 rfl rfl 1 (by decide) (hw _ k_195) (fun _ h9 => h9) rfl d_T_scrub_18 ?_
    refine lv_iload_n hx hb d_T_scrub_21 rfl (lv_at hl 3 rfl) ?_
    refine va_aldq hx hb hK hP 1 0 rfl rfl (by unfold vp_in; decide) d_T_scrub_22 ?_
    refine W.eq (g2 := F0 m 23 ls [.ref (da 1)]) rfl ?_
    refine lv_aload_n hx hb d_T_scrub_23 rfl (lv_at hl 0 rfl) ?_
    refine va_get (D := (dC, dI)) (ci := 0) (v := .ref a9) (C := "VotedTriple") (T := F_T) (N := 11) hx hb hw in_T hown hK hP 0 rfl rfl 1 (by decide) (hw _ k_195) (fun _ h9 => h9) rfl d_T_scrub_24 ?_
    refine lv_iload_n hx hb d_T_scrub_27 rfl (lv_at hl 3 rfl) ?_
    refine va_aldq hx hb hK hP 1 0 rfl rfl (by unfold vp_in; decide) d_T_scrub_28 ?_
    refine W.eq (g2 := F0 m 29 ls [.ref (da 1), .ref (da 1)]) rfl ?_
    replace hPc := hP.sub (ws' := [(da 1, .inr (2, oD (F 1) (ra 1) (ka 1)))]) [4] rfl
    replace hKc := hK.sub (tys' := []) [] rfl
    refine vp_callSi (va_runV (C := "VotedTriple$VotedModule") (As := []) (rest := [.ref (da 1)]) ⟨hx, hb, hml, hown, hw⟩ (c_D_isTrusted l dC dI (da 1) (ra 1) (ka 1) (F 1)) (cwV 0 hw (gdV (k_583) (k_580) (k_581) (k_582) (k_7)) rfl rfl rfl (by decide +kernel) ⟨Nat.le_of_ble_eq_true rfl, Nat.le_of_ble_eq_true rfl⟩) ⟨fun a U g mk q => ⟨q.1, q.2.1, va_K.moved (u := U) (U := U.calling g mk a) (Vm.Alike.refl U.vm) q.2.2⟩, va_recv hK hP rfl (q0 := 4) rfl, fun U hU hW => ⟨rfl, by rw [hU]; exact hPc, va_K.moved hW.alike hKc⟩⟩ rfl rfl hl.1 rfl (lv_room (Nat.le_of_ble_eq_true rfl)) d_T_scrub_29 ⟨Nat.le_of_ble_eq_true rfl, Nat.le_of_ble_eq_true rfl⟩).run (fun r34 hr35 => ?_)
    subst hr35
    refine lv_if_eq (tgt := 52) hx hb d_T_scrub_32 rfl (fun hc36 => ?_) (fun hc36 => ?_)
    · --  (bI (trB (F 1))) = 0
      refine lv_iconst (v := 0) hx hb d_T_scrub_52 (by decide) ?_
      refine va_put (D := (dC, dI)) (ci := 2) (v := .int 0) (ty := .boolean) (C := "VotedTriple$VotedModule") (T := F_D) (N := 19) hx hb hw in_D ft_D tyok_D nm_D hown hK hP hD hS 4 rfl rfl 17 (by decide) (hw _ k_160) (fun _ h9 => h9) rfl (by decide +kernel) rfl rfl (Nat.le_of_ble_eq_true rfl) d_T_scrub_53 (fun H locs hP hD hS => ?_)
      replace hP : va_P (dC, dI) classes [(h0, .inr (0, oT uT p9 a9 e9 n9 o9)), (a9, .inl (ca, 3, .inr (.inr (.inr (.inr (mo da)))))), (da 0, .inr (2, oD (F 0) (ra 0) (ka 0))), (ka 0, .inl (ck 0, 32, .inl (v 0))), (da 1, .inr (2, [.ref (ra 1), .int (F 1 1), .int (F 1 2), .int (F 1 3), .int (F 1 4), .int (F 1 5), .int (F 1 6), .ref (ka 1), .int (F 1 8), .int (F 1 9), .int (F 1 10), .int (F 1 11), .int (F 1 12), .int (F 1 13), .int (F 1 14), .int (F 1 15), .int (F 1 16), .int 0, .int (F 1 18)])), (ka 1, .inl (ck 1, 32, .inl (v 1))), (da 2, .inr (2, oD (F 2) (ra 2) (ka 2))), (ka 2, .inl (ck 2, 32, .inl (v 2)))] H := hP
      replace hD : va_D A [(h0, .inr (0, oT uT p9 a9 e9 n9 o9)), (a9, .inl (ca, 3, .inr (.inr (.inr (.inr (mo da)))))), (da 0, .inr (2, oD (F 0) (ra 0) (ka 0))), (ka 0, .inl (ck 0, 32, .inl (v 0))), (da 1, .inr (2, [.ref (ra 1), .int (F 1 1), .int (F 1 2), .int (F 1 3), .int (F 1 4), .int (F 1 5), .int (F 1 6), .ref (ka 1), .int (F 1 8), .int (F 1 9), .int (F 1 10), .int (F 1 11), .int (F 1 12), .int (F 1 13), .int (F 1 14), .int (F 1 15), .int (F 1 16), .int 0, .int (F 1 18)])), (ka 1, .inl (ck 1, 32, .inl (v 1))), (da 2, .inr (2, oD (F 2) (ra 2) (ka 2))), (ka 2, .inl (ck 2, 32, .inl (v 2)))] := hD
      refine lv_aload_n hx hb d_T_scrub_56 rfl (lv_at hl 0 rfl) ?_
      refine va_get (D := (dC, dI)) (ci := 0) (v := .ref a9) (C := "VotedTriple") (T := F_T) (N := 11) hx hb hw in_T hown hK hP 0 rfl rfl 1 (by decide) (hw _ k_195) (fun _ h9 => h9) rfl d_T_scrub_57 ?_
      refine lv_iload_n hx hb d_T_scrub_60 rfl (lv_at hl 3 rfl) ?_
      refine va_aldq hx hb hK hP 1 0 rfl rfl (by unfold vp_in; decide) d_T_scrub_61 ?_
      refine W.eq (g2 := F0 m 62 ls [.ref (da 1)]) rfl ?_
      refine va_get (D := (dC, dI)) (ci := 2) (v := .int 0) (C := "VotedTriple$VotedModule") (T := F_D) (N := 19) hx hb hw in_D hown hK hP 4 rfl rfl 17 (by decide) (hw _ k_160) (fun _ h9 => h9) rfl d_T_scrub_62 ?_
      refine lv_if_eq (tgt := 71) hx hb d_T_scrub_65 rfl (fun hc37 => ?_) (fun hc37 => by first | exact absurd (by decide) hc37 | exact absurd hc37 (by decide))
      refine lv_iinc (k := 3) (v := 2) hx hb d_T_scrub_71 hl rfl rfl (by decide) rfl (fun ls hl => ?_)
      replace hl : lv_has ls 4 [(3, .int 2), (0, .ref h0), (1, .int ((uT 8) - (uT 8) / (32 : Int32) * (32 : Int32))), (2, .int w2)] := hl
      refine lv_goto (tgt := 12) hx hb d_T_scrub_74 rfl ?_
      have hSq : SP = s_T_scrub_cut12_2 uT (tri (F 0) (upc (F 1) 17 (0 : Int32)) (F 2)) v w2 := by rw [hSq0, s_T_scrub_cut12_1]; try (rw [if_pos hc36]); all_goals rfl
      replace hl := lv_sub hl (l' := [(0, .ref h0), (1, .int ((uT 8) - (uT 8) / (32 : Int32) * (32 : Int32))), (2, .int w2), (3, .int 2)]) [1, 2, 3, 0] rfl
      replace hP := hP.sub (ws' := [(h0, .inr (0, oT uT p9 a9 e9 n9 o9)), (a9, .inl (ca, 3, .inr (.inr (.inr (.inr (mo da)))))), (da 0, .inr (2, oD (tri (F 0) (upc (F 1) 17 (0 : Int32)) (F 2) 0) (ra 0) (ka 0))), (ka 0, .inl (ck 0, 32, .inl (v 0))), (da 1, .inr (2, oD (tri (F 0) (upc (F 1) 17 (0 : Int32)) (F 2) 1) (ra 1) (ka 1))), (ka 1, .inl (ck 1, 32, .inl (v 1))), (da 2, .inr (2, oD (tri (F 0) (upc (F 1) 17 (0 : Int32)) (F 2) 2) (ra 2) (ka 2))), (ka 2, .inl (ck 2, 32, .inl (v 2)))]) [0, 1, 2, 3, 4, 5, 6, 7] rfl
      replace hD := hD.sub (ws' := [(h0, .inr (0, oT uT p9 a9 e9 n9 o9)), (a9, .inl (ca, 3, .inr (.inr (.inr (.inr (mo da)))))), (da 0, .inr (2, oD (tri (F 0) (upc (F 1) 17 (0 : Int32)) (F 2) 0) (ra 0) (ka 0))), (ka 0, .inl (ck 0, 32, .inl (v 0))), (da 1, .inr (2, oD (tri (F 0) (upc (F 1) 17 (0 : Int32)) (F 2) 1) (ra 1) (ka 1))), (ka 1, .inl (ck 1, 32, .inl (v 1))), (da 2, .inr (2, oD (tri (F 0) (upc (F 1) 17 (0 : Int32)) (F 2) 2) (ra 2) (ka 2))), (ka 2, .inl (ck 2, 32, .inl (v 2)))]) [0, 1, 2, 3, 4, 5, 6, 7] (by decide) rfl
      exact cut12_2 (tri (F 0) (upc (F 1) 17 (0 : Int32)) (F 2)) v w2 _ _ _ hF hSq hl hP hD hS
    · --  ¬ (bI (trB (F 1))) = 0
      refine lv_aload_n hx hb d_T_scrub_35 rfl (lv_at hl 0 rfl) ?_
      refine va_get (D := (dC, dI)) (ci := 0) (v := .ref a9) (C := "VotedTriple") (T := F_T) (N := 11) hx hb hw in_T hown hK hP 0 rfl rfl 1 (by decide) (hw _ k_195) (fun _ h9 => h9) rfl d_T_scrub_36 ?_
      refine lv_iload_n hx hb d_T_scrub_39 rfl (lv_at hl 3 rfl) ?_
      refine va_aldq hx hb hK hP 1 0 rfl rfl (by unfold vp_in; decide) d_T_scrub_40 ?_
      refine W.eq (g2 := F0 m 41 ls [.ref (da 1), .ref (da 1)]) rfl ?_
      refine lv_iload_n hx hb d_T_scrub_41 rfl (lv_at hl 1 rfl) ?_
      replace hPc := hP.sub (ws' := [(da 1, .inr (2, oD (F 1) (ra 1) (ka 1))), (ka 1, .inl (ck 1, 32, .inl (v 1)))]) [4, 5] rfl
      replace hKc := hK.sub (tys' := [(ck 1, .int)]) [2] rfl
      replace hDc := hD.sub (ws' := [(da 1, .inr (2, oD (F 1) (ra 1) (ka 1))), (ka 1, .inl (ck 1, 32, .inl (v 1)))]) [4, 5] (by decide) rfl
      replace hFc := va_free (wc := [(da 1, .inr (2, oD (F 1) (ra 1) (ka 1))), (ka 1, .inl (ck 1, 32, .inl (v 1)))]) hD hS hA [4, 5] rfl
      refine va_calli (va_runV (C := "VotedTriple$VotedModule") (As := [.int ((uT 8) - (uT 8) / (32 : Int32) * (32 : Int32))]) (rest := [.ref (da 1)]) ⟨hx, hb, hml, hown, hw⟩ (c_D_findsSpoilt l dC dI (da 1) (ra 1) (ka 1) (F 1) (ck 1) (v 1) ((uT 8) - (uT 8) / (32 : Int32) * (32 : Int32)) (rem_in hsn (by omega)) t9 H.size) (cwV 1 hw (gdV (k_525) (k_634) (k_523) (k_524) (k_7)) rfl rfl rfl (by decide +kernel) ⟨Nat.le_of_ble_eq_true rfl, Nat.le_of_ble_eq_true rfl⟩) ⟨fun a U g mk q => by obtain ⟨q0, q1, qP, qK, qD, qB⟩ := q; exact ⟨q0, q1, qP, va_K.moved (u := U) (U := U.calling g mk a) (Vm.Alike.refl U.vm) qK, qD, cb_vm (u := U) (U := U.calling g mk a) rfl qB⟩, va_recv hK hP rfl (q0 := 4) rfl, fun U hU hW => ⟨rfl, by rw [hU], by rw [hU]; exact hPc, va_K.moved hW.alike hKc, hDc.weaken (fun _ _ _ _ => trivial), by rw [hU]; exact cb_narrow (cb_warm hW (cb_kept hcb (fun a h1 h2 => hS.2.1 a h1 h2))) hFc⟩⟩ rfl rfl hl.1 rfl (lv_room (Nat.le_of_ble_eq_true rfl)) d_T_scrub_42 ⟨Nat.le_of_ble_eq_true rfl, Nat.le_of_ble_eq_true rfl⟩) hS (fun q _ h => hFc q h) hFc (fun r38 u9 t H1 locs ht hvm hr39 hB hz1 hk1 hS => ?_)
      obtain ⟨x1340, cd241⟩ := u9
      obtain ⟨hP1, hK1, hD1⟩ := hB
      rw [ht] at hP1
      replace hK1 := va_K.moved hvm.symm hK1
      try dsimp only at hr39 hP1 hK1 hD1
      obtain ⟨hr39, hr39E⟩ := hr39
      obtain ⟨hPz, hDz⟩ := va_join (wr := [(h0, .inr (0, oT uT p9 a9 e9 n9 o9)), (a9, .inl (ca, 3, .inr (.inr (.inr (.inr (mo da)))))), (da 0, .inr (2, oD (F 0) (ra 0) (ka 0))), (ka 0, .inl (ck 0, 32, .inl (v 0))), (da 2, .inr (2, oD (F 2) (ra 2) (ka 2))), (ka 2, .inl (ck 2, 32, .inl (v 2)))]) (w1 := [(da 1, .inr (2, oD (upc (F 1) 13 x1340) (ra 1) (ka 1))), (ka 1, .inl (ck 1, 32, .inl cd241))]) hP hD [4, 5] [0, 1, 2, 3, 6, 7] rfl rfl (by decide) (by decide) hk1 hFc hP1 hD1
      clear hP hD hPc hDc hP1 hD1 hFc
      have hP := hPz
      have hD := hDz
      clear hPz hDz
      replace hK := (hK.sub (tys' := [(ca, .object "VotedTriple$VotedModule"), (ck 0, .int), (ck 2, .int)]) [0, 1, 3] rfl).app hK1
      clear hK1 hKc
      generalize H1 = H at hP hS ⊢
      replace hP : va_P (dC, dI) classes [(h0, .inr (0, oT uT p9 a9 e9 n9 o9)), (a9, .inl (ca, 3, .inr (.inr (.inr (.inr (mo da)))))), (da 0, .inr (2, oD (F 0) (ra 0) (ka 0))), (ka 0, .inl (ck 0, 32, .inl (v 0))), (da 2, .inr (2, oD (F 2) (ra 2) (ka 2))), (ka 2, .inl (ck 2, 32, .inl (v 2))), (da 1, .inr (2, oD (upc (F 1) 13 x1340) (ra 1) (ka 1))), (ka 1, .inl (ck 1, 32, .inl cd241))] H := hP
      replace hD : va_D A [(h0, .inr (0, oT uT p9 a9 e9 n9 o9)), (a9, .inl (ca, 3, .inr (.inr (.inr (.inr (mo da)))))), (da 0, .inr (2, oD (F 0) (ra 0) (ka 0))), (ka 0, .inl (ck 0, 32, .inl (v 0))), (da 2, .inr (2, oD (F 2) (ra 2) (ka 2))), (ka 2, .inl (ck 2, 32, .inl (v 2))), (da 1, .inr (2, oD (upc (F 1) 13 x1340) (ra 1) (ka 1))), (ka 1, .inl (ck 1, 32, .inl cd241))] := hD
      replace hK : va_K (dC, dI) classes [(ca, .object "VotedTriple$VotedModule"), (ck 0, .int), (ck 2, .int), (ck 1, .int)] s := hK
      refine W.widen (k := 0) (n := 0) (Nat.le_of_ble_eq_true rfl) (Nat.le_of_ble_eq_true rfl) ?_
      refine lv_if_eq (tgt := 52) hx hb d_T_scrub_45 rfl (fun hc42 => ?_) (fun hc42 => ?_)
      · --  r38 = 0
        refine lv_iconst (v := 0) hx hb d_T_scrub_52 (by decide) ?_
        refine va_put (D := (dC, dI)) (ci := 2) (v := .int 0) (ty := .boolean) (C := "VotedTriple$VotedModule") (T := F_D) (N := 19) hx hb hw in_D ft_D tyok_D nm_D hown hK hP hD hS 6 rfl rfl 17 (by decide) (hw _ k_160) (fun _ h9 => h9) rfl (by decide +kernel) rfl rfl (Nat.le_of_ble_eq_true rfl) d_T_scrub_53 (fun H locs hP hD hS => ?_)
        replace hP : va_P (dC, dI) classes [(h0, .inr (0, oT uT p9 a9 e9 n9 o9)), (a9, .inl (ca, 3, .inr (.inr (.inr (.inr (mo da)))))), (da 0, .inr (2, oD (F 0) (ra 0) (ka 0))), (ka 0, .inl (ck 0, 32, .inl (v 0))), (da 2, .inr (2, oD (F 2) (ra 2) (ka 2))), (ka 2, .inl (ck 2, 32, .inl (v 2))), (da 1, .inr (2, [.ref (ra 1), .int (upc (F 1) 13 x1340 1), .int (upc (F 1) 13 x1340 2), .int (upc (F 1) 13 x1340 3), .int (upc (F 1) 13 x1340 4), .int (upc (F 1) 13 x1340 5), .int (upc (F 1) 13 x1340 6), .ref (ka 1), .int (upc (F 1) 13 x1340 8), .int (upc (F 1) 13 x1340 9), .int (upc (F 1) 13 x1340 10), .int (upc (F 1) 13 x1340 11), .int (upc (F 1) 13 x1340 12), .int (upc (F 1) 13 x1340 13), .int (upc (F 1) 13 x1340 14), .int (upc (F 1) 13 x1340 15), .int (upc (F 1) 13 x1340 16), .int 0, .int (upc (F 1) 13 x1340 18)])), (ka 1, .inl (ck 1, 32, .inl cd241))] H := hP
        replace hD : va_D A [(h0, .inr (0, oT uT p9 a9 e9 n9 o9)), (a9, .inl (ca, 3, .inr (.inr (.inr (.inr (mo da)))))), (da 0, .inr (2, oD (F 0) (ra 0) (ka 0))), (ka 0, .inl (ck 0, 32, .inl (v 0))), (da 2, .inr (2, oD (F 2) (ra 2) (ka 2))), (ka 2, .inl (ck 2, 32, .inl (v 2))), (da 1, .inr (2, [.ref (ra 1), .int (upc (F 1) 13 x1340 1), .int (upc (F 1) 13 x1340 2), .int (upc (F 1) 13 x1340 3), .int (upc (F 1) 13 x1340 4), .int (upc (F 1) 13 x1340 5), .int (upc (F 1) 13 x1340 6), .ref (ka 1), .int (upc (F 1) 13 x1340 8), .int (upc (F 1) 13 x1340 9), .int (upc (F 1) 13 x1340 10), .int (upc (F 1) 13 x1340 11), .int (upc (F 1) 13 x1340 12), .int (upc (F 1) 13 x1340 13), .int (upc (F 1) 13 x1340 14), .int (upc (F 1) 13 x1340 15), .int (upc (F 1) 13 x1340 16), .int 0, .int (upc (F 1) 13 x1340 18)])), (ka 1, .inl (ck 1, 32, .inl cd241))] := hD
        refine lv_aload_n hx hb d_T_scrub_56 rfl (lv_at hl 0 rfl) ?_
        refine va_get (D := (dC, dI)) (ci := 0) (v := .ref a9) (C := "VotedTriple") (T := F_T) (N := 11) hx hb hw in_T hown hK hP 0 rfl rfl 1 (by decide) (hw _ k_195) (fun _ h9 => h9) rfl d_T_scrub_57 ?_
        refine lv_iload_n hx hb d_T_scrub_60 rfl (lv_at hl 3 rfl) ?_
        refine va_aldq hx hb hK hP 1 0 rfl rfl (by unfold vp_in; decide) d_T_scrub_61 ?_
        refine W.eq (g2 := F0 m 62 ls [.ref (da 1)]) rfl ?_
        refine va_get (D := (dC, dI)) (ci := 2) (v := .int 0) (C := "VotedTriple$VotedModule") (T := F_D) (N := 19) hx hb hw in_D hown hK hP 6 rfl rfl 17 (by decide) (hw _ k_160) (fun _ h9 => h9) rfl d_T_scrub_62 ?_
        refine lv_if_eq (tgt := 71) hx hb d_T_scrub_65 rfl (fun hc43 => ?_) (fun hc43 => by first | exact absurd (by decide) hc43 | exact absurd hc43 (by decide))
        refine lv_iinc (k := 3) (v := 2) hx hb d_T_scrub_71 hl rfl rfl (by decide) rfl (fun ls hl => ?_)
        replace hl : lv_has ls 4 [(3, .int 2), (0, .ref h0), (1, .int ((uT 8) - (uT 8) / (32 : Int32) * (32 : Int32))), (2, .int w2)] := hl
        refine lv_goto (tgt := 12) hx hb d_T_scrub_74 rfl ?_
        have hSq : SP = s_T_scrub_cut12_2 uT (tri (F 0) (upc (upc (F 1) 13 x1340) 17 (0 : Int32)) (F 2)) (tri (v 0) cd241 (v 2)) w2 := by rw [hSq0, s_T_scrub_cut12_1]; try (rw [if_neg hc36]); try (rw [← hr39E, bnd_eq]); try dsimp only; try (rw [if_pos hc42]); all_goals rfl
        replace hl := lv_sub hl (l' := [(0, .ref h0), (1, .int ((uT 8) - (uT 8) / (32 : Int32) * (32 : Int32))), (2, .int w2), (3, .int 2)]) [1, 2, 3, 0] rfl
        replace hP := hP.sub (ws' := [(h0, .inr (0, oT uT p9 a9 e9 n9 o9)), (a9, .inl (ca, 3, .inr (.inr (.inr (.inr (mo da)))))), (da 0, .inr (2, oD (tri (F 0) (upc (upc (F 1) 13 x1340) 17 (0 : Int32)) (F 2) 0) (ra 0) (ka 0))), (ka 0, .inl (ck 0, 32, .inl (tri (v 0) cd241 (v 2) 0))), (da 1, .inr (2, oD (tri (F 0) (upc (upc (F 1) 13 x1340) 17 (0 : Int32)) (F 2) 1) (ra 1) (ka 1))), (ka 1, .inl (ck 1, 32, .inl (tri (v 0) cd241 (v 2) 1))), (da 2, .inr (2, oD (tri (F 0) (upc (upc (F 1) 13 x1340) 17 (0 : Int32)) (F 2) 2) (ra 2) (ka 2))), (ka 2, .inl (ck 2, 32, .inl (tri (v 0) cd241 (v 2) 2)))]) [0, 1, 2, 3, 6, 7, 4, 5] rfl
        replace hD := hD.sub (ws' := [(h0, .inr (0, oT uT p9 a9 e9 n9 o9)), (a9, .inl (ca, 3, .inr (.inr (.inr (.inr (mo da)))))), (da 0, .inr (2, oD (tri (F 0) (upc (upc (F 1) 13 x1340) 17 (0 : Int32)) (F 2) 0) (ra 0) (ka 0))), (ka 0, .inl (ck 0, 32, .inl (tri (v 0) cd241 (v 2) 0))), (da 1, .inr (2, oD (tri (F 0) (upc (upc (F 1) 13 x1340) 17 (0 : Int32)) (F 2) 1) (ra 1) (ka 1))), (ka 1, .inl (ck 1, 32, .inl (tri (v 0) cd241 (v 2) 1))), (da 2, .inr (2, oD (tri (F 0) (upc (upc (F 1) 13 x1340) 17 (0 : Int32)) (F 2) 2) (ra 2) (ka 2))), (ka 2, .inl (ck 2, 32, .inl (tri (v 0) cd241 (v 2) 2)))]) [0, 1, 2, 3, 6, 7, 4, 5] (by decide) rfl
        exact cut12_2 (tri (F 0) (upc (upc (F 1) 13 x1340) 17 (0 : Int32)) (F 2)) (tri (v 0) cd241 (v 2)) w2 _ _ _ hF hSq hl hP hD hS
      · --  ¬ r38 = 0
        refine lv_iconst (v := 1) hx hb d_T_scrub_48 (by decide) ?_
        refine lv_goto (tgt := 53) hx hb d_T_scrub_49 rfl ?_
        refine va_put (D := (dC, dI)) (ci := 2) (v := .int 1) (ty := .boolean) (C := "VotedTriple$VotedModule") (T := F_D) (N := 19) hx hb hw in_D ft_D tyok_D nm_D hown hK hP hD hS 6 rfl rfl 17 (by decide) (hw _ k_160) (fun _ h9 => h9) rfl (by decide +kernel) rfl rfl (Nat.le_of_ble_eq_true rfl) d_T_scrub_53 (fun H locs hP hD hS => ?_)
        replace hP : va_P (dC, dI) classes [(h0, .inr (0, oT uT p9 a9 e9 n9 o9)), (a9, .inl (ca, 3, .inr (.inr (.inr (.inr (mo da)))))), (da 0, .inr (2, oD (F 0) (ra 0) (ka 0))), (ka 0, .inl (ck 0, 32, .inl (v 0))), (da 2, .inr (2, oD (F 2) (ra 2) (ka 2))), (ka 2, .inl (ck 2, 32, .inl (v 2))), (da 1, .inr (2, [.ref (ra 1), .int (upc (F 1) 13 x1340 1), .int (upc (F 1) 13 x1340 2), .int (upc (F 1) 13 x1340 3), .int (upc (F 1) 13 x1340 4), .int (upc (F 1) 13 x1340 5), .int (upc (F 1) 13 x1340 6), .ref (ka 1), .int (upc (F 1) 13 x1340 8), .int (upc (F 1) 13 x1340 9), .int (upc (F 1) 13 x1340 10), .int (upc (F 1) 13 x1340 11), .int (upc (F 1) 13 x1340 12), .int (upc (F 1) 13 x1340 13), .int (upc (F 1) 13 x1340 14), .int (upc (F 1) 13 x1340 15), .int (upc (F 1) 13 x1340 16), .int 1, .int (upc (F 1) 13 x1340 18)])), (ka 1, .inl (ck 1, 32, .inl cd241))] H := hP
        replace hD : va_D A [(h0, .inr (0, oT uT p9 a9 e9 n9 o9)), (a9, .inl (ca, 3, .inr (.inr (.inr (.inr (mo da)))))), (da 0, .inr (2, oD (F 0) (ra 0) (ka 0))), (ka 0, .inl (ck 0, 32, .inl (v 0))), (da 2, .inr (2, oD (F 2) (ra 2) (ka 2))), (ka 2, .inl (ck 2, 32, .inl (v 2))), (da 1, .inr (2, [.ref (ra 1), .int (upc (F 1) 13 x1340 1), .int (upc (F 1) 13 x1340 2), .int (upc (F 1) 13 x1340 3), .int (upc (F 1) 13 x1340 4), .int (upc (F 1) 13 x1340 5), .int (upc (F 1) 13 x1340 6), .ref (ka 1), .int (upc (F 1) 13 x1340 8), .int (upc (F 1) 13 x1340 9), .int (upc (F 1) 13 x1340 10), .int (upc (F 1) 13 x1340 11), .int (upc (F 1) 13 x1340 12), .int (upc (F 1) 13 x1340 13), .int (upc (F 1) 13 x1340 14), .int (upc (F 1) 13 x1340 15), .int (upc (F 1) 13 x1340 16), .int 1, .int (upc (F 1) 13 x1340 18)])), (ka 1, .inl (ck 1, 32, .inl cd241))] := hD
        refine lv_aload_n hx hb d_T_scrub_56 rfl (lv_at hl 0 rfl) ?_
        refine va_get (D := (dC, dI)) (ci := 0) (v := .ref a9) (C := "VotedTriple") (T := F_T) (N := 11) hx hb hw in_T hown hK hP 0 rfl rfl 1 (by decide) (hw _ k_195) (fun _ h9 => h9) rfl d_T_scrub_57 ?_
        refine lv_iload_n hx hb d_T_scrub_60 rfl (lv_at hl 3 rfl) ?_
        refine va_aldq hx hb hK hP 1 0 rfl rfl (by unfold vp_in; decide) d_T_scrub_61 ?_
        refine W.eq (g2 := F0 m 62 ls [.ref (da 1)]) rfl ?_
        refine va_get (D := (dC, dI)) (ci := 2) (v := .int 1) (C := "VotedTriple$VotedModule") (T := F_D) (N := 19) hx hb hw in_D hown hK hP 6 rfl rfl 17 (by decide) (hw _ k_160) (fun _ h9 => h9) rfl d_T_scrub_62 ?_
        refine lv_if_eq (tgt := 71) hx hb d_T_scrub_65 rfl (fun hc44 => by first | exact absurd hc44 (by decide) | exact absurd (by decide) hc44) (fun hc44 => ?_)
        refine lv_iinc (k := 2) (v := w2 + 1) hx hb d_T_scrub_68 hl rfl rfl (by decide) rfl (fun ls hl => ?_)
        replace hl : lv_has ls 4 [(2, .int (w2 + 1)), (0, .ref h0), (1, .int ((uT 8) - (uT 8) / (32 : Int32) * (32 : Int32))), (3, .int 1)] := hl
        refine lv_iinc (k := 3) (v := 2) hx hb d_T_scrub_71 hl rfl rfl (by decide) rfl (fun ls hl => ?_)
        replace hl : lv_has ls 4 [(3, .int 2), (2, .int (w2 + 1)), (0, .ref h0), (1, .int ((uT 8) - (uT 8) / (32 : Int32) * (32 : Int32)))] := hl
        refine lv_goto (tgt := 12) hx hb d_T_scrub_74 rfl ?_
        have hSq : SP = s_T_scrub_cut12_2 uT (tri (F 0) (upc (upc (F 1) 13 x1340) 17 (1 : Int32)) (F 2)) (tri (v 0) cd241 (v 2)) (w2 + 1) := by rw [hSq0, s_T_scrub_cut12_1]; try (rw [if_neg hc36]); try (rw [← hr39E, bnd_eq]); try dsimp only; try (rw [if_neg hc42]); all_goals rfl
        replace hl := lv_sub hl (l' := [(0, .ref h0), (1, .int ((uT 8) - (uT 8) / (32 : Int32) * (32 : Int32))), (2, .int (w2 + 1)), (3, .int 2)]) [2, 3, 1, 0] rfl
        replace hP := hP.sub (ws' := [(h0, .inr (0, oT uT p9 a9 e9 n9 o9)), (a9, .inl (ca, 3, .inr (.inr (.inr (.inr (mo da)))))), (da 0, .inr (2, oD (tri (F 0) (upc (upc (F 1) 13 x1340) 17 (1 : Int32)) (F 2) 0) (ra 0) (ka 0))), (ka 0, .inl (ck 0, 32, .inl (tri (v 0) cd241 (v 2) 0))), (da 1, .inr (2, oD (tri (F 0) (upc (upc (F 1) 13 x1340) 17 (1 : Int32)) (F 2) 1) (ra 1) (ka 1))), (ka 1, .inl (ck 1, 32, .inl (tri (v 0) cd241 (v 2) 1))), (da 2, .inr (2, oD (tri (F 0) (upc (upc (F 1) 13 x1340) 17 (1 : Int32)) (F 2) 2) (ra 2) (ka 2))), (ka 2, .inl (ck 2, 32, .inl (tri (v 0) cd241 (v 2) 2)))]) [0, 1, 2, 3, 6, 7, 4, 5] rfl
        replace hD := hD.sub (ws' := [(h0, .inr (0, oT uT p9 a9 e9 n9 o9)), (a9, .inl (ca, 3, .inr (.inr (.inr (.inr (mo da)))))), (da 0, .inr (2, oD (tri (F 0) (upc (upc (F 1) 13 x1340) 17 (1 : Int32)) (F 2) 0) (ra 0) (ka 0))), (ka 0, .inl (ck 0, 32, .inl (tri (v 0) cd241 (v 2) 0))), (da 1, .inr (2, oD (tri (F 0) (upc (upc (F 1) 13 x1340) 17 (1 : Int32)) (F 2) 1) (ra 1) (ka 1))), (ka 1, .inl (ck 1, 32, .inl (tri (v 0) cd241 (v 2) 1))), (da 2, .inr (2, oD (tri (F 0) (upc (upc (F 1) 13 x1340) 17 (1 : Int32)) (F 2) 2) (ra 2) (ka 2))), (ka 2, .inl (ck 2, 32, .inl (tri (v 0) cd241 (v 2) 2)))]) [0, 1, 2, 3, 6, 7, 4, 5] (by decide) rfl
        exact cut12_2 (tri (F 0) (upc (upc (F 1) 13 x1340) 17 (1 : Int32)) (F 2)) (tri (v 0) cd241 (v 2)) (w2 + 1) _ _ _ hF hSq hl hP hD hS
  clear cut89_3 cut89_2 cut89_1 cut89_0 cut12_3 cut12_2
  refine lv_aload_n hx hb d_T_scrub_0 rfl (lv_at hl 0 rfl) ?_
  refine va_get (D := (dC, dI)) (ci := 0) (v := .int (uT 8)) (C := "VotedTriple") (T := F_T) (N := 11) hx hb hw in_T hown hK hP 0 rfl rfl 8 (by decide) (hw _ k_202) (fun _ h9 => h9) rfl d_T_scrub_1 ?_
  refine lv_bipush (v := 32) hx hb d_T_scrub_4 (by decide) ?_
  refine lv_irem hx hb d_T_scrub_6 (by decide) ?_
  refine lv_istore_n hx hb d_T_scrub_7 rfl hl (by decide) rfl (fun ls hl => ?_)
  replace hl : lv_has ls 4 [(1, .int ((uT 8) - (uT 8) / (32 : Int32) * (32 : Int32))), (0, .ref h0)] := hl
  refine lv_iconst (v := 0) hx hb d_T_scrub_8 (by decide) ?_
  refine lv_istore_n hx hb d_T_scrub_9 rfl hl (by decide) rfl (fun ls hl => ?_)
  replace hl : lv_has ls 4 [(2, .int 0), (1, .int ((uT 8) - (uT 8) / (32 : Int32) * (32 : Int32))), (0, .ref h0)] := hl
  refine lv_iconst (v := 0) hx hb d_T_scrub_10 (by decide) ?_
  refine lv_istore_n hx hb d_T_scrub_11 rfl hl (by decide) rfl (fun ls hl => ?_)
  replace hl : lv_has ls 4 [(3, .int 0), (2, .int 0), (1, .int ((uT 8) - (uT 8) / (32 : Int32) * (32 : Int32))), (0, .ref h0)] := hl
  refine lv_iload_n hx hb d_T_scrub_12 rfl (lv_at hl 0 rfl) ?_
  refine lv_iconst (v := 3) hx hb d_T_scrub_13 (by decide) ?_
  refine lv_icmp_ge (tgt := 77) hx hb d_T_scrub_14 rfl (fun hc45 => by first | exact absurd hc45 (by decide) | exact absurd (by decide) hc45) (fun hc45 => ?_)
  refine lv_aload_n hx hb d_T_scrub_17 rfl (lv_at hl 3 rfl) ?_
  refine va_get (D := (dC, dI)) (ci := 0) (v := .ref a9) (C := "VotedTriple") (T := F_T) (N := 11) hx hb hw in_T hown hK hP 0 rfl rfl 1 (by decide) (hw _ k_195) (fun _ h9 => h9) rfl d_T_scrub_18 ?_
  refine lv_iload_n hx hb d_T_scrub_21 rfl (lv_at hl 0 rfl) ?_
  refine va_aldq hx hb hK hP 1 0 rfl rfl (by unfold vp_in; decide) d_T_scrub_22 ?_
  refine W.eq (g2 := F0 m 23 ls [.ref (da 0)]) rfl ?_
  refine lv_aload_n hx hb d_T_scrub_23 rfl (lv_at hl 3 rfl) ?_
  refine va_get (D := (dC, dI)) (ci := 0) (v := .ref a9) (C := "VotedTriple") (T := F_T) (N := 11) hx hb hw in_T hown hK hP 0 rfl rfl 1 (by decide) (hw _ k_195) (fun _ h9 => h9) rfl d_T_scrub_24 ?_
  refine lv_iload_n hx hb d_T_scrub_27 rfl (lv_at hl 0 rfl) ?_
  refine va_aldq hx hb hK hP 1 0 rfl rfl (by unfold vp_in; decide) d_T_scrub_28 ?_
  refine W.eq (g2 := F0 m 29 ls [.ref (da 0), .ref (da 0)]) rfl ?_
  replace hPc := hP.sub (ws' := [(da 0, .inr (2, oD (F 0) (ra 0) (ka 0)))]) [2] rfl
  replace hKc := hK.sub (tys' := []) [] rfl
  refine vp_callSi (va_runV (C := "VotedTriple$VotedModule") (As := []) (rest := [.ref (da 0)]) ⟨hx, hb, hml, hown, hw⟩ (c_D_isTrusted l dC dI (da 0) (ra 0) (ka 0) (F 0)) (cwV 0 hw (gdV (k_583) (k_580) (k_581) (k_582) (k_7)) rfl rfl rfl (by decide +kernel) ⟨Nat.le_of_ble_eq_true rfl, Nat.le_of_ble_eq_true rfl⟩) ⟨fun a U g mk q => ⟨q.1, q.2.1, va_K.moved (u := U) (U := U.calling g mk a) (Vm.Alike.refl U.vm) q.2.2⟩, va_recv hK hP rfl (q0 := 2) rfl, fun U hU hW => ⟨rfl, by rw [hU]; exact hPc, va_K.moved hW.alike hKc⟩⟩ rfl rfl hl.1 rfl (lv_room (Nat.le_of_ble_eq_true rfl)) d_T_scrub_29 ⟨Nat.le_of_ble_eq_true rfl, Nat.le_of_ble_eq_true rfl⟩).run (fun r46 hr47 => ?_)
  subst hr47
  refine lv_if_eq (tgt := 52) hx hb d_T_scrub_32 rfl (fun hc48 => ?_) (fun hc48 => ?_)
  · --  (bI (trB (F 0))) = 0
    refine lv_iconst (v := 0) hx hb d_T_scrub_52 (by decide) ?_
    refine va_put (D := (dC, dI)) (ci := 2) (v := .int 0) (ty := .boolean) (C := "VotedTriple$VotedModule") (T := F_D) (N := 19) hx hb hw in_D ft_D tyok_D nm_D hown hK hP hD hS 2 rfl rfl 17 (by decide) (hw _ k_160) (fun _ h9 => h9) rfl (by decide +kernel) rfl rfl (Nat.le_of_ble_eq_true rfl) d_T_scrub_53 (fun H locs hP hD hS => ?_)
    replace hP : va_P (dC, dI) classes [(h0, .inr (0, oT uT p9 a9 e9 n9 o9)), (a9, .inl (ca, 3, .inr (.inr (.inr (.inr (mo da)))))), (da 0, .inr (2, [.ref (ra 0), .int (F 0 1), .int (F 0 2), .int (F 0 3), .int (F 0 4), .int (F 0 5), .int (F 0 6), .ref (ka 0), .int (F 0 8), .int (F 0 9), .int (F 0 10), .int (F 0 11), .int (F 0 12), .int (F 0 13), .int (F 0 14), .int (F 0 15), .int (F 0 16), .int 0, .int (F 0 18)])), (ka 0, .inl (ck 0, 32, .inl (v 0))), (da 1, .inr (2, oD (F 1) (ra 1) (ka 1))), (ka 1, .inl (ck 1, 32, .inl (v 1))), (da 2, .inr (2, oD (F 2) (ra 2) (ka 2))), (ka 2, .inl (ck 2, 32, .inl (v 2)))] H := hP
    replace hD : va_D A [(h0, .inr (0, oT uT p9 a9 e9 n9 o9)), (a9, .inl (ca, 3, .inr (.inr (.inr (.inr (mo da)))))), (da 0, .inr (2, [.ref (ra 0), .int (F 0 1), .int (F 0 2), .int (F 0 3), .int (F 0 4), .int (F 0 5), .int (F 0 6), .ref (ka 0), .int (F 0 8), .int (F 0 9), .int (F 0 10), .int (F 0 11), .int (F 0 12), .int (F 0 13), .int (F 0 14), .int (F 0 15), .int (F 0 16), .int 0, .int (F 0 18)])), (ka 0, .inl (ck 0, 32, .inl (v 0))), (da 1, .inr (2, oD (F 1) (ra 1) (ka 1))), (ka 1, .inl (ck 1, 32, .inl (v 1))), (da 2, .inr (2, oD (F 2) (ra 2) (ka 2))), (ka 2, .inl (ck 2, 32, .inl (v 2)))] := hD
    refine lv_aload_n hx hb d_T_scrub_56 rfl (lv_at hl 3 rfl) ?_
    refine va_get (D := (dC, dI)) (ci := 0) (v := .ref a9) (C := "VotedTriple") (T := F_T) (N := 11) hx hb hw in_T hown hK hP 0 rfl rfl 1 (by decide) (hw _ k_195) (fun _ h9 => h9) rfl d_T_scrub_57 ?_
    refine lv_iload_n hx hb d_T_scrub_60 rfl (lv_at hl 0 rfl) ?_
    refine va_aldq hx hb hK hP 1 0 rfl rfl (by unfold vp_in; decide) d_T_scrub_61 ?_
    refine W.eq (g2 := F0 m 62 ls [.ref (da 0)]) rfl ?_
    refine va_get (D := (dC, dI)) (ci := 2) (v := .int 0) (C := "VotedTriple$VotedModule") (T := F_D) (N := 19) hx hb hw in_D hown hK hP 2 rfl rfl 17 (by decide) (hw _ k_160) (fun _ h9 => h9) rfl d_T_scrub_62 ?_
    refine lv_if_eq (tgt := 71) hx hb d_T_scrub_65 rfl (fun hc49 => ?_) (fun hc49 => by first | exact absurd (by decide) hc49 | exact absurd hc49 (by decide))
    refine lv_iinc (k := 0) (v := 1) hx hb d_T_scrub_71 hl rfl rfl (by decide) rfl (fun ls hl => ?_)
    replace hl : lv_has ls 4 [(3, .int 1), (2, .int 0), (1, .int ((uT 8) - (uT 8) / (32 : Int32) * (32 : Int32))), (0, .ref h0)] := hl
    refine lv_goto (tgt := 12) hx hb d_T_scrub_74 rfl ?_
    have hSq : SP = s_T_scrub_cut12_1 uT (tri (upc (F 0) 17 (0 : Int32)) (F 1) (F 2)) v 0 := by rw [← hSP, s_T_scrub]; try (rw [if_pos hc48]); all_goals rfl
    replace hl := lv_sub hl (l' := [(0, .ref h0), (1, .int ((uT 8) - (uT 8) / (32 : Int32) * (32 : Int32))), (2, .int 0), (3, .int 1)]) [3, 2, 1, 0] rfl
    replace hP := hP.sub (ws' := [(h0, .inr (0, oT uT p9 a9 e9 n9 o9)), (a9, .inl (ca, 3, .inr (.inr (.inr (.inr (mo da)))))), (da 0, .inr (2, oD (tri (upc (F 0) 17 (0 : Int32)) (F 1) (F 2) 0) (ra 0) (ka 0))), (ka 0, .inl (ck 0, 32, .inl (v 0))), (da 1, .inr (2, oD (tri (upc (F 0) 17 (0 : Int32)) (F 1) (F 2) 1) (ra 1) (ka 1))), (ka 1, .inl (ck 1, 32, .inl (v 1))), (da 2, .inr (2, oD (tri (upc (F 0) 17 (0 : Int32)) (F 1) (F 2) 2) (ra 2) (ka 2))), (ka 2, .inl (ck 2, 32, .inl (v 2)))]) [0, 1, 2, 3, 4, 5, 6, 7] rfl
    replace hD := hD.sub (ws' := [(h0, .inr (0, oT uT p9 a9 e9 n9 o9)), (a9, .inl (ca, 3, .inr (.inr (.inr (.inr (mo da)))))), (da 0, .inr (2, oD (tri (upc (F 0) 17 (0 : Int32)) (F 1) (F 2) 0) (ra 0) (ka 0))), (ka 0, .inl (ck 0, 32, .inl (v 0))), (da 1, .inr (2, oD (tri (upc (F 0) 17 (0 : Int32)) (F 1) (F 2) 1) (ra 1) (ka 1))), (ka 1, .inl (ck 1, 32, .inl (v 1))), (da 2, .inr (2, oD (tri (upc (F 0) 17 (0 : Int32)) (F 1) (F 2) 2) (ra 2) (ka 2))), (ka 2, .inl (ck 2, 32, .inl (v 2)))]) [0, 1, 2, 3, 4, 5, 6, 7] (by decide) rfl
    exact cut12_1 (tri (upc (F 0) 17 (0 : Int32)) (F 1) (F 2)) v 0 _ _ _ hF hSq hl hP hD hS
  · --  ¬ (bI (trB (F 0))) = 0
    refine lv_aload_n hx hb d_T_scrub_35 rfl (lv_at hl 3 rfl) ?_
    refine va_get (D := (dC, dI)) (ci := 0) (v := .ref a9) (C := "VotedTriple") (T := F_T) (N := 11) hx hb hw in_T hown hK hP 0 rfl rfl 1 (by decide) (hw _ k_195) (fun _ h9 => h9) rfl d_T_scrub_36 ?_
    refine lv_iload_n hx hb d_T_scrub_39 rfl (lv_at hl 0 rfl) ?_
    refine va_aldq hx hb hK hP 1 0 rfl rfl (by unfold vp_in; decide) d_T_scrub_40 ?_
    refine W.eq (g2 := F0 m 41 ls [.ref (da 0), .ref (da 0)]) rfl ?_
    refine lv_iload_n hx hb d_T_scrub_41 rfl (lv_at hl 2 rfl) ?_
    replace hPc := hP.sub (ws' := [(da 0, .inr (2, oD (F 0) (ra 0) (ka 0))), (ka 0, .inl (ck 0, 32, .inl (v 0)))]) [2, 3] rfl
    replace hKc := hK.sub (tys' := [(ck 0, .int)]) [1] rfl
    replace hDc := hD.sub (ws' := [(da 0, .inr (2, oD (F 0) (ra 0) (ka 0))), (ka 0, .inl (ck 0, 32, .inl (v 0)))]) [2, 3] (by decide) rfl
    replace hFc := va_free (wc := [(da 0, .inr (2, oD (F 0) (ra 0) (ka 0))), (ka 0, .inl (ck 0, 32, .inl (v 0)))]) hD hS hA [2, 3] rfl
    refine va_calli (va_runV (C := "VotedTriple$VotedModule") (As := [.int ((uT 8) - (uT 8) / (32 : Int32) * (32 : Int32))]) (rest := [.ref (da 0)]) ⟨hx, hb, hml, hown, hw⟩ (c_D_findsSpoilt l dC dI (da 0) (ra 0) (ka 0) (F 0) (ck 0) (v 0) ((uT 8) - (uT 8) / (32 : Int32) * (32 : Int32)) (rem_in hsn (by omega)) t9 s.heap.size) (cwV 1 hw (gdV (k_525) (k_634) (k_523) (k_524) (k_7)) rfl rfl rfl (by decide +kernel) ⟨Nat.le_of_ble_eq_true rfl, Nat.le_of_ble_eq_true rfl⟩) ⟨fun a U g mk q => by obtain ⟨q0, q1, qP, qK, qD, qB⟩ := q; exact ⟨q0, q1, qP, va_K.moved (u := U) (U := U.calling g mk a) (Vm.Alike.refl U.vm) qK, qD, cb_vm (u := U) (U := U.calling g mk a) rfl qB⟩, va_recv hK hP rfl (q0 := 2) rfl, fun U hU hW => ⟨rfl, by rw [hU], by rw [hU]; exact hPc, va_K.moved hW.alike hKc, hDc.weaken (fun _ _ _ _ => trivial), by rw [hU]; exact cb_narrow (cb_warm hW (cb_kept hcb (fun a h1 h2 => hS.2.1 a h1 h2))) hFc⟩⟩ rfl rfl hl.1 rfl (lv_room (Nat.le_of_ble_eq_true rfl)) d_T_scrub_42 ⟨Nat.le_of_ble_eq_true rfl, Nat.le_of_ble_eq_true rfl⟩) hS (fun q _ h => hFc q h) hFc (fun r50 u9 t H1 locs ht hvm hr51 hB hz1 hk1 hS => ?_)
    obtain ⟨x1352, cd253⟩ := u9
    obtain ⟨hP1, hK1, hD1⟩ := hB
    rw [ht] at hP1
    replace hK1 := va_K.moved hvm.symm hK1
    try dsimp only at hr51 hP1 hK1 hD1
    obtain ⟨hr51, hr51E⟩ := hr51
    obtain ⟨hPz, hDz⟩ := va_join (wr := [(h0, .inr (0, oT uT p9 a9 e9 n9 o9)), (a9, .inl (ca, 3, .inr (.inr (.inr (.inr (mo da)))))), (da 1, .inr (2, oD (F 1) (ra 1) (ka 1))), (ka 1, .inl (ck 1, 32, .inl (v 1))), (da 2, .inr (2, oD (F 2) (ra 2) (ka 2))), (ka 2, .inl (ck 2, 32, .inl (v 2)))]) (w1 := [(da 0, .inr (2, oD (upc (F 0) 13 x1352) (ra 0) (ka 0))), (ka 0, .inl (ck 0, 32, .inl cd253))]) hP hD [2, 3] [0, 1, 4, 5, 6, 7] rfl rfl (by decide) (by decide) hk1 hFc hP1 hD1
    clear hP hD hPc hDc hP1 hD1 hFc
    have hP := hPz
    have hD := hDz
    clear hPz hDz
    replace hK := (hK.sub (tys' := [(ca, .object "VotedTriple$VotedModule"), (ck 1, .int), (ck 2, .int)]) [0, 2, 3] rfl).app hK1
    clear hK1 hKc
    generalize H1 = H at hP hS ⊢
    replace hP : va_P (dC, dI) classes [(h0, .inr (0, oT uT p9 a9 e9 n9 o9)), (a9, .inl (ca, 3, .inr (.inr (.inr (.inr (mo da)))))), (da 1, .inr (2, oD (F 1) (ra 1) (ka 1))), (ka 1, .inl (ck 1, 32, .inl (v 1))), (da 2, .inr (2, oD (F 2) (ra 2) (ka 2))), (ka 2, .inl (ck 2, 32, .inl (v 2))), (da 0, .inr (2, oD (upc (F 0) 13 x1352) (ra 0) (ka 0))), (ka 0, .inl (ck 0, 32, .inl cd253))] H := hP
    replace hD : va_D A [(h0, .inr (0, oT uT p9 a9 e9 n9 o9)), (a9, .inl (ca, 3, .inr (.inr (.inr (.inr (mo da)))))), (da 1, .inr (2, oD (F 1) (ra 1) (ka 1))), (ka 1, .inl (ck 1, 32, .inl (v 1))), (da 2, .inr (2, oD (F 2) (ra 2) (ka 2))), (ka 2, .inl (ck 2, 32, .inl (v 2))), (da 0, .inr (2, oD (upc (F 0) 13 x1352) (ra 0) (ka 0))), (ka 0, .inl (ck 0, 32, .inl cd253))] := hD
    replace hK : va_K (dC, dI) classes [(ca, .object "VotedTriple$VotedModule"), (ck 1, .int), (ck 2, .int), (ck 0, .int)] s := hK
    refine W.widen (k := 0) (n := 0) (Nat.le_of_ble_eq_true rfl) (Nat.le_of_ble_eq_true rfl) ?_
    refine lv_if_eq (tgt := 52) hx hb d_T_scrub_45 rfl (fun hc54 => ?_) (fun hc54 => ?_)
    · --  r50 = 0
      refine lv_iconst (v := 0) hx hb d_T_scrub_52 (by decide) ?_
      refine va_put (D := (dC, dI)) (ci := 2) (v := .int 0) (ty := .boolean) (C := "VotedTriple$VotedModule") (T := F_D) (N := 19) hx hb hw in_D ft_D tyok_D nm_D hown hK hP hD hS 6 rfl rfl 17 (by decide) (hw _ k_160) (fun _ h9 => h9) rfl (by decide +kernel) rfl rfl (Nat.le_of_ble_eq_true rfl) d_T_scrub_53 (fun H locs hP hD hS => ?_)
      replace hP : va_P (dC, dI) classes [(h0, .inr (0, oT uT p9 a9 e9 n9 o9)), (a9, .inl (ca, 3, .inr (.inr (.inr (.inr (mo da)))))), (da 1, .inr (2, oD (F 1) (ra 1) (ka 1))), (ka 1, .inl (ck 1, 32, .inl (v 1))), (da 2, .inr (2, oD (F 2) (ra 2) (ka 2))), (ka 2, .inl (ck 2, 32, .inl (v 2))), (da 0, .inr (2, [.ref (ra 0), .int (upc (F 0) 13 x1352 1), .int (upc (F 0) 13 x1352 2), .int (upc (F 0) 13 x1352 3), .int (upc (F 0) 13 x1352 4), .int (upc (F 0) 13 x1352 5), .int (upc (F 0) 13 x1352 6), .ref (ka 0), .int (upc (F 0) 13 x1352 8), .int (upc (F 0) 13 x1352 9), .int (upc (F 0) 13 x1352 10), .int (upc (F 0) 13 x1352 11), .int (upc (F 0) 13 x1352 12), .int (upc (F 0) 13 x1352 13), .int (upc (F 0) 13 x1352 14), .int (upc (F 0) 13 x1352 15), .int (upc (F 0) 13 x1352 16), .int 0, .int (upc (F 0) 13 x1352 18)])), (ka 0, .inl (ck 0, 32, .inl cd253))] H := hP
      replace hD : va_D A [(h0, .inr (0, oT uT p9 a9 e9 n9 o9)), (a9, .inl (ca, 3, .inr (.inr (.inr (.inr (mo da)))))), (da 1, .inr (2, oD (F 1) (ra 1) (ka 1))), (ka 1, .inl (ck 1, 32, .inl (v 1))), (da 2, .inr (2, oD (F 2) (ra 2) (ka 2))), (ka 2, .inl (ck 2, 32, .inl (v 2))), (da 0, .inr (2, [.ref (ra 0), .int (upc (F 0) 13 x1352 1), .int (upc (F 0) 13 x1352 2), .int (upc (F 0) 13 x1352 3), .int (upc (F 0) 13 x1352 4), .int (upc (F 0) 13 x1352 5), .int (upc (F 0) 13 x1352 6), .ref (ka 0), .int (upc (F 0) 13 x1352 8), .int (upc (F 0) 13 x1352 9), .int (upc (F 0) 13 x1352 10), .int (upc (F 0) 13 x1352 11), .int (upc (F 0) 13 x1352 12), .int (upc (F 0) 13 x1352 13), .int (upc (F 0) 13 x1352 14), .int (upc (F 0) 13 x1352 15), .int (upc (F 0) 13 x1352 16), .int 0, .int (upc (F 0) 13 x1352 18)])), (ka 0, .inl (ck 0, 32, .inl cd253))] := hD
      refine lv_aload_n hx hb d_T_scrub_56 rfl (lv_at hl 3 rfl) ?_
      refine va_get (D := (dC, dI)) (ci := 0) (v := .ref a9) (C := "VotedTriple") (T := F_T) (N := 11) hx hb hw in_T hown hK hP 0 rfl rfl 1 (by decide) (hw _ k_195) (fun _ h9 => h9) rfl d_T_scrub_57 ?_
      refine lv_iload_n hx hb d_T_scrub_60 rfl (lv_at hl 0 rfl) ?_
      refine va_aldq hx hb hK hP 1 0 rfl rfl (by unfold vp_in; decide) d_T_scrub_61 ?_
      refine W.eq (g2 := F0 m 62 ls [.ref (da 0)]) rfl ?_
      refine va_get (D := (dC, dI)) (ci := 2) (v := .int 0) (C := "VotedTriple$VotedModule") (T := F_D) (N := 19) hx hb hw in_D hown hK hP 6 rfl rfl 17 (by decide) (hw _ k_160) (fun _ h9 => h9) rfl d_T_scrub_62 ?_
      refine lv_if_eq (tgt := 71) hx hb d_T_scrub_65 rfl (fun hc55 => ?_) (fun hc55 => by first | exact absurd (by decide) hc55 | exact absurd hc55 (by decide))
      refine lv_iinc (k := 0) (v := 1) hx hb d_T_scrub_71 hl rfl rfl (by decide) rfl (fun ls hl => ?_)
      replace hl : lv_has ls 4 [(3, .int 1), (2, .int 0), (1, .int ((uT 8) - (uT 8) / (32 : Int32) * (32 : Int32))), (0, .ref h0)] := hl
      refine lv_goto (tgt := 12) hx hb d_T_scrub_74 rfl ?_
      have hSq : SP = s_T_scrub_cut12_1 uT (tri (upc (upc (F 0) 13 x1352) 17 (0 : Int32)) (F 1) (F 2)) (tri cd253 (v 1) (v 2)) 0 := by rw [← hSP, s_T_scrub]; try (rw [if_neg hc48]); try (rw [← hr51E, bnd_eq]); try dsimp only; try (rw [if_pos hc54]); all_goals rfl
      replace hl := lv_sub hl (l' := [(0, .ref h0), (1, .int ((uT 8) - (uT 8) / (32 : Int32) * (32 : Int32))), (2, .int 0), (3, .int 1)]) [3, 2, 1, 0] rfl
      replace hP := hP.sub (ws' := [(h0, .inr (0, oT uT p9 a9 e9 n9 o9)), (a9, .inl (ca, 3, .inr (.inr (.inr (.inr (mo da)))))), (da 0, .inr (2, oD (tri (upc (upc (F 0) 13 x1352) 17 (0 : Int32)) (F 1) (F 2) 0) (ra 0) (ka 0))), (ka 0, .inl (ck 0, 32, .inl (tri cd253 (v 1) (v 2) 0))), (da 1, .inr (2, oD (tri (upc (upc (F 0) 13 x1352) 17 (0 : Int32)) (F 1) (F 2) 1) (ra 1) (ka 1))), (ka 1, .inl (ck 1, 32, .inl (tri cd253 (v 1) (v 2) 1))), (da 2, .inr (2, oD (tri (upc (upc (F 0) 13 x1352) 17 (0 : Int32)) (F 1) (F 2) 2) (ra 2) (ka 2))), (ka 2, .inl (ck 2, 32, .inl (tri cd253 (v 1) (v 2) 2)))]) [0, 1, 6, 7, 2, 3, 4, 5] rfl
      replace hD := hD.sub (ws' := [(h0, .inr (0, oT uT p9 a9 e9 n9 o9)), (a9, .inl (ca, 3, .inr (.inr (.inr (.inr (mo da)))))), (da 0, .inr (2, oD (tri (upc (upc (F 0) 13 x1352) 17 (0 : Int32)) (F 1) (F 2) 0) (ra 0) (ka 0))), (ka 0, .inl (ck 0, 32, .inl (tri cd253 (v 1) (v 2) 0))), (da 1, .inr (2, oD (tri (upc (upc (F 0) 13 x1352) 17 (0 : Int32)) (F 1) (F 2) 1) (ra 1) (ka 1))), (ka 1, .inl (ck 1, 32, .inl (tri cd253 (v 1) (v 2) 1))), (da 2, .inr (2, oD (tri (upc (upc (F 0) 13 x1352) 17 (0 : Int32)) (F 1) (F 2) 2) (ra 2) (ka 2))), (ka 2, .inl (ck 2, 32, .inl (tri cd253 (v 1) (v 2) 2)))]) [0, 1, 6, 7, 2, 3, 4, 5] (by decide) rfl
      exact cut12_1 (tri (upc (upc (F 0) 13 x1352) 17 (0 : Int32)) (F 1) (F 2)) (tri cd253 (v 1) (v 2)) 0 _ _ _ hF hSq hl hP hD hS
    · --  ¬ r50 = 0
      refine lv_iconst (v := 1) hx hb d_T_scrub_48 (by decide) ?_
      refine lv_goto (tgt := 53) hx hb d_T_scrub_49 rfl ?_
      refine va_put (D := (dC, dI)) (ci := 2) (v := .int 1) (ty := .boolean) (C := "VotedTriple$VotedModule") (T := F_D) (N := 19) hx hb hw in_D ft_D tyok_D nm_D hown hK hP hD hS 6 rfl rfl 17 (by decide) (hw _ k_160) (fun _ h9 => h9) rfl (by decide +kernel) rfl rfl (Nat.le_of_ble_eq_true rfl) d_T_scrub_53 (fun H locs hP hD hS => ?_)
      replace hP : va_P (dC, dI) classes [(h0, .inr (0, oT uT p9 a9 e9 n9 o9)), (a9, .inl (ca, 3, .inr (.inr (.inr (.inr (mo da)))))), (da 1, .inr (2, oD (F 1) (ra 1) (ka 1))), (ka 1, .inl (ck 1, 32, .inl (v 1))), (da 2, .inr (2, oD (F 2) (ra 2) (ka 2))), (ka 2, .inl (ck 2, 32, .inl (v 2))), (da 0, .inr (2, [.ref (ra 0), .int (upc (F 0) 13 x1352 1), .int (upc (F 0) 13 x1352 2), .int (upc (F 0) 13 x1352 3), .int (upc (F 0) 13 x1352 4), .int (upc (F 0) 13 x1352 5), .int (upc (F 0) 13 x1352 6), .ref (ka 0), .int (upc (F 0) 13 x1352 8), .int (upc (F 0) 13 x1352 9), .int (upc (F 0) 13 x1352 10), .int (upc (F 0) 13 x1352 11), .int (upc (F 0) 13 x1352 12), .int (upc (F 0) 13 x1352 13), .int (upc (F 0) 13 x1352 14), .int (upc (F 0) 13 x1352 15), .int (upc (F 0) 13 x1352 16), .int 1, .int (upc (F 0) 13 x1352 18)])), (ka 0, .inl (ck 0, 32, .inl cd253))] H := hP
      replace hD : va_D A [(h0, .inr (0, oT uT p9 a9 e9 n9 o9)), (a9, .inl (ca, 3, .inr (.inr (.inr (.inr (mo da)))))), (da 1, .inr (2, oD (F 1) (ra 1) (ka 1))), (ka 1, .inl (ck 1, 32, .inl (v 1))), (da 2, .inr (2, oD (F 2) (ra 2) (ka 2))), (ka 2, .inl (ck 2, 32, .inl (v 2))), (da 0, .inr (2, [.ref (ra 0), .int (upc (F 0) 13 x1352 1), .int (upc (F 0) 13 x1352 2), .int (upc (F 0) 13 x1352 3), .int (upc (F 0) 13 x1352 4), .int (upc (F 0) 13 x1352 5), .int (upc (F 0) 13 x1352 6), .ref (ka 0), .int (upc (F 0) 13 x1352 8), .int (upc (F 0) 13 x1352 9), .int (upc (F 0) 13 x1352 10), .int (upc (F 0) 13 x1352 11), .int (upc (F 0) 13 x1352 12), .int (upc (F 0) 13 x1352 13), .int (upc (F 0) 13 x1352 14), .int (upc (F 0) 13 x1352 15), .int (upc (F 0) 13 x1352 16), .int 1, .int (upc (F 0) 13 x1352 18)])), (ka 0, .inl (ck 0, 32, .inl cd253))] := hD
      refine lv_aload_n hx hb d_T_scrub_56 rfl (lv_at hl 3 rfl) ?_
      refine va_get (D := (dC, dI)) (ci := 0) (v := .ref a9) (C := "VotedTriple") (T := F_T) (N := 11) hx hb hw in_T hown hK hP 0 rfl rfl 1 (by decide) (hw _ k_195) (fun _ h9 => h9) rfl d_T_scrub_57 ?_
      refine lv_iload_n hx hb d_T_scrub_60 rfl (lv_at hl 0 rfl) ?_
      refine va_aldq hx hb hK hP 1 0 rfl rfl (by unfold vp_in; decide) d_T_scrub_61 ?_
      refine W.eq (g2 := F0 m 62 ls [.ref (da 0)]) rfl ?_
      refine va_get (D := (dC, dI)) (ci := 2) (v := .int 1) (C := "VotedTriple$VotedModule") (T := F_D) (N := 19) hx hb hw in_D hown hK hP 6 rfl rfl 17 (by decide) (hw _ k_160) (fun _ h9 => h9) rfl d_T_scrub_62 ?_
      refine lv_if_eq (tgt := 71) hx hb d_T_scrub_65 rfl (fun hc56 => by first | exact absurd hc56 (by decide) | exact absurd (by decide) hc56) (fun hc56 => ?_)
      refine lv_iinc (k := 1) (v := 1) hx hb d_T_scrub_68 hl rfl rfl (by decide) rfl (fun ls hl => ?_)
      replace hl : lv_has ls 4 [(2, .int 1), (3, .int 0), (1, .int ((uT 8) - (uT 8) / (32 : Int32) * (32 : Int32))), (0, .ref h0)] := hl
      refine lv_iinc (k := 1) (v := 1) hx hb d_T_scrub_71 hl rfl rfl (by decide) rfl (fun ls hl => ?_)
      replace hl : lv_has ls 4 [(3, .int 1), (2, .int 1), (1, .int ((uT 8) - (uT 8) / (32 : Int32) * (32 : Int32))), (0, .ref h0)] := hl
      refine lv_goto (tgt := 12) hx hb d_T_scrub_74 rfl ?_
      have hSq : SP = s_T_scrub_cut12_1 uT (tri (upc (upc (F 0) 13 x1352) 17 (1 : Int32)) (F 1) (F 2)) (tri cd253 (v 1) (v 2)) 1 := by rw [← hSP, s_T_scrub]; try (rw [if_neg hc48]); try (rw [← hr51E, bnd_eq]); try dsimp only; try (rw [if_neg hc54]); all_goals rfl
      replace hl := lv_sub hl (l' := [(0, .ref h0), (1, .int ((uT 8) - (uT 8) / (32 : Int32) * (32 : Int32))), (2, .int 1), (3, .int 1)]) [3, 2, 1, 0] rfl
      replace hP := hP.sub (ws' := [(h0, .inr (0, oT uT p9 a9 e9 n9 o9)), (a9, .inl (ca, 3, .inr (.inr (.inr (.inr (mo da)))))), (da 0, .inr (2, oD (tri (upc (upc (F 0) 13 x1352) 17 (1 : Int32)) (F 1) (F 2) 0) (ra 0) (ka 0))), (ka 0, .inl (ck 0, 32, .inl (tri cd253 (v 1) (v 2) 0))), (da 1, .inr (2, oD (tri (upc (upc (F 0) 13 x1352) 17 (1 : Int32)) (F 1) (F 2) 1) (ra 1) (ka 1))), (ka 1, .inl (ck 1, 32, .inl (tri cd253 (v 1) (v 2) 1))), (da 2, .inr (2, oD (tri (upc (upc (F 0) 13 x1352) 17 (1 : Int32)) (F 1) (F 2) 2) (ra 2) (ka 2))), (ka 2, .inl (ck 2, 32, .inl (tri cd253 (v 1) (v 2) 2)))]) [0, 1, 6, 7, 2, 3, 4, 5] rfl
      replace hD := hD.sub (ws' := [(h0, .inr (0, oT uT p9 a9 e9 n9 o9)), (a9, .inl (ca, 3, .inr (.inr (.inr (.inr (mo da)))))), (da 0, .inr (2, oD (tri (upc (upc (F 0) 13 x1352) 17 (1 : Int32)) (F 1) (F 2) 0) (ra 0) (ka 0))), (ka 0, .inl (ck 0, 32, .inl (tri cd253 (v 1) (v 2) 0))), (da 1, .inr (2, oD (tri (upc (upc (F 0) 13 x1352) 17 (1 : Int32)) (F 1) (F 2) 1) (ra 1) (ka 1))), (ka 1, .inl (ck 1, 32, .inl (tri cd253 (v 1) (v 2) 1))), (da 2, .inr (2, oD (tri (upc (upc (F 0) 13 x1352) 17 (1 : Int32)) (F 1) (F 2) 2) (ra 2) (ka 2))), (ka 2, .inl (ck 2, 32, .inl (tri cd253 (v 1) (v 2) 2)))]) [0, 1, 6, 7, 2, 3, 4, 5] (by decide) rfl
      exact cut12_1 (tri (upc (upc (F 0) 13 x1352) 17 (1 : Int32)) (F 1) (F 2)) (tri cd253 (v 1) (v 2)) 1 _ _ _ hF hSq hl hP hD hS
